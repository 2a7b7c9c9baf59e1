/-- the orders, the first by the letter first -/
def prm : Nat → List Nat → List (List Nat)
  | 0, _ => [[]]
  | n + 1, l => l.flatMap (fun a => (prm n (l.erase a)).map (a :: ·))
def prmS (s : Nat) : List (List Nat) := prm s (List.range s)
def gx (x : List Nat) (j : Nat) : Nat := x.getD j 0
def lnx (x : List Nat) : Int → Int := fun j => (gx x j.toNat : Int)
def nlC (x : List Nat) (p q s : Nat) : Bool := decide (p + 1 < s) && (decide (gx x p ≤ gx x (p + 1)) && (allF (fun j => !(decide (p < j ∧ j + 1 < s)) || decide (gx x (j + 1) < gx x j)) s && (decide (p < q) && (decide (gx x p ≤ gx x q) && allF (fun k => !(decide (q < k)) || decide (gx x k < gx x p)) s))))
theorem imp_b {a : Prop} [Decidable a] {c : Bool} : (!(decide a) || c) = true ↔ (a → c = true) := by
  by_cases h : a <;> simp [h]
theorem nlC_iff {x : List Nat} {p q s : Nat} : nlC x p q s = true ↔ (p + 1 < s ∧ gx x p ≤ gx x (p + 1) ∧ (∀ j, j < s → p < j ∧ j + 1 < s → gx x (j + 1) < gx x j) ∧ p < q ∧ gx x p ≤ gx x q ∧ ∀ k, k < s → q < k → gx x k < gx x p) := by
  simp only [nlC, Bool.and_eq_true, decide_eq_true_eq, allF_iff, imp_b]
def swN (x : List Nat) (p q i : Nat) : Nat := if i = q then gx x p else if i = p then gx x q else gx x i
def nlN (x : List Nat) (p q s j : Nat) : Nat := if p < j then swN x p q (p + s - j) else swN x p q j
def stepP (x y : List Nat) (s : Nat) : Bool := allF (fun p => allF (fun q => !(nlC x p q s) || allF (fun j => decide (nlN x p q s j = gx y j)) s) s) s
theorem stepP_iff {x y : List Nat} {s : Nat} : stepP x y s = true ↔ ∀ p, p < s → ∀ q, q < s → nlC x p q s = true → ∀ j, j < s → nlN x p q s j = gx y j := by
  have e : ∀ a b : Bool, (!a || b) = true ↔ (a = true → b = true) := by decide
  simp only [stepP, allF_iff, e, decide_eq_true_eq]
def descP (x : List Nat) (s : Nat) : Bool := allF (fun j => !(decide (j + 1 < s)) || decide (gx x (j + 1) < gx x j)) s
theorem descP_iff {x : List Nat} {s : Nat} : descP x s = true ↔ ∀ j, j < s → j + 1 < s → gx x (j + 1) < gx x j := by
  simp only [descP, allF_iff, imp_b, decide_eq_true_eq]
abbrev okP (x : List Nat) (s : Nat) : Prop := x.length = s ∧ ∀ j, j < s → gx x j < s
def chkL (s : Nat) : List (List Nat) → Bool
  | [] => true
  | x :: r => decide (okP x s) && (match r with | [] => descP x s | y :: _ => !(descP x s) && stepP x y s) && chkL s r
theorem chk_all : ∀ s, s < 6 → chkL s (prmS s) = true := by decide +kernel
theorem prm_head : ∀ s, s < 6 → (prmS s).head? = some (List.range s) := by decide +kernel
theorem nl_none {x : List Nat} {r : List (List Nat)} {s : Nat} {f : Int → Int} (hc : chkL s (x :: r) = true) (hf : ∀ j : Nat, j < s → f (j : Int) = (gx x j : Int)) (hd : ∀ j, 0 ≤ j → j + 1 < (s : Int) → f (j + 1) < f j) : r = [] := by
  cases r with
  | nil => rfl
  | cons y r =>
    exfalso
    simp only [chkL, Bool.and_eq_true, decide_eq_true_eq] at hc
    have hdd : descP x s = true := descP_iff.mpr (fun j h1 h2 => by
     have := hd (j : Int) (by omega) (by omega)
     rw [hf j h1, show (j : Int) + 1 = ((j + 1 : Nat) : Int) by omega, hf (j + 1) h2] at this
     omega)
    simp [hdd] at hc
theorem nl_next {x : List Nat} {r : List (List Nat)} {s : Nat} {f : Int → Int} {p q : Int} (hc : chkL s (x :: r) = true) (hf : ∀ j : Nat, j < s → f (j : Int) = (gx x j : Int)) (hR : nlR f p q (s : Int)) : ∃ y r', r = y :: r' ∧ ∀ j : Nat, j < s → nlF f p q (s : Int) (j : Int) = (gx y j : Int) := by
  obtain ⟨⟨hp0, hp1⟩, h2, h3, ⟨h4, h5⟩, h6, h7⟩ := hR
  obtain ⟨p, rfl⟩ := Int.eq_ofNat_of_zero_le hp0
  obtain ⟨q, rfl⟩ := Int.eq_ofNat_of_zero_le (show 0 ≤ q by omega)
  have e1 : (p : Int) + 1 = ((p + 1 : Nat) : Int) := by omega
  have hC : nlC x p q s = true := by
    rw [nlC_iff]
    rw [e1, hf p (by omega), hf (p + 1) (by omega)] at h2
    rw [hf p (by omega), hf q (by omega)] at h6
    refine ⟨by omega, by omega, fun j hj hj2 => ?_, by omega, by omega, fun k hk hk2 => ?_⟩
    · have := h3 (j : Int) (by omega) (by omega)
      rw [hf j hj, show (j : Int) + 1 = ((j + 1 : Nat) : Int) by omega, hf (j + 1) hj2.2] at this
      omega
    · have := h7 (k : Int) (by omega) (by omega)
      rw [hf k hk, hf p (by omega)] at this
      omega
  cases r with
  | nil =>
    exfalso
    simp only [chkL, Bool.and_eq_true, decide_eq_true_eq] at hc
    have h8 := (descP_iff.mp hc.1.2) p (by omega) (by omega)
    have h9 := (nlC_iff.mp hC).2.1
    omega
  | cons y r =>
    refine ⟨y, r, rfl, fun j hj => ?_⟩
    simp only [chkL, Bool.and_eq_true, decide_eq_true_eq] at hc
    have h8 := (stepP_iff.mp hc.1.2.2) p (by omega) q (by omega) hC j hj
    rw [← h8]
    have sw : ∀ i : Nat, i < s → swF f (p : Int) (q : Int) (i : Int) = (swN x p q i : Int) := by
      intro i hi
      unfold swF swN updI
      by_cases a : i = q
      · subst a; rw [if_pos rfl, if_pos rfl]; exact hf p (by omega)
      · rw [if_neg (by omega), if_neg a]
        by_cases b : i = p
        · subst b; rw [if_pos rfl, if_pos rfl]; exact hf q (by omega)
        · rw [if_neg (by omega), if_neg b]; exact hf i hi
    unfold nlF nlN
    by_cases a : p < j
    · rw [if_pos (by omega), if_pos a, show (p : Int) + (s : Int) - (j : Int) = ((p + s - j : Nat) : Int) by omega, sw _ (by omega)]
    · rw [if_neg (by omega), if_neg a, sw _ hj]
def encL : List Nat → Int
  | [] => 0
  | a :: r => 6 * encL r + a + 1
def cooN (K F A : Cel) (c s : Nat) : List (List Nat) → Int
  | [] => -9
  | x :: r => if ckB K F A (lnx x) c s = true then encL x else cooN K F A c s r
def whyC (A : Cel) (c : Int) : Int := if c < 0 then -4 else if c / 2 ^ (A 0 11).toNat ≠ 0 then -1 else 0
theorem PMT.setL {μ ν : Mem} {g : Int → Int} (h : PMT μ ν) : PMT μ (setL ν g) := by
  refine h.tr ⟨rfl, fun q j hq => ?_⟩
  have : ¬ q = 28 := fun e => hq (Or.inr (Or.inl e))
  unfold Jvm.Pilot.CKitchenTouchLaw_law_r5841_9313db.setL
  simp [this]
theorem lnx_n (x : List Nat) (j : Nat) : lnx x (j : Int) = (gx x j : Int) := rfl
theorem gx_range : ∀ s, s < 6 → ∀ j, j < s → gx (List.range s) j = j := by decide +kernel
theorem enc_drop {x : List Nat} {m : Nat} (h : m < x.length) : encL (x.drop m) = 6 * encL (x.drop (m + 1)) + (gx x m : Int) + 1 := by
  have e : gx x m = x[m] := by simp [gx, h]
  rw [List.drop_eq_getElem_cons h, e]
  rfl
set_option maxHeartbeats 1000000 in
set_option maxRecDepth 100000 in
theorem l_X6_cooking3 {μ ν : Mem} {x : List Nat} {s : Nat} (hs5 : s ≤ 5) (hP : PMT μ ν) (hxo : okP x s) (hln : ∀ j : Nat, j < s → ν.1 28 (j : Int) = (gx x j : Int)) : ∀ (n m : Nat) (a k : Int), k = (m : Int) - 1 → m ≤ s → m < n → a = encL (x.drop m) → PW shM 6 mX6_cooking 93 [(0, vr 0), (4, vi a), (5, vi k)] [] ν (QI (fun z μ' => z = encL x ∧ PMT μ μ')) := by
  intro n
  induction n with
  | zero => intro m a k _ _ q; omega
  | succ n ih =>
  intro m a k hk hm hn ha
  refine P_iload (pc := 93) dX6_cooking_93 2 rfl ?_
  refine P_if_lt (tgt := 121) (pc := 95) dX6_cooking_95 (by decide) (by first | assumption | (unfold InR; omega)) (fun c_95 => ?_) (fun c_95 => ?_)
  · refine P_iload (pc := 121) dX6_cooking_121 1 rfl ?_
    exact P_iret (pc := 123) dX6_cooking_123 rfl (QI.mk (by first | (exfalso; omega) | (have hwy : whyC μ.1 c = -4 := (by unfold whyC; rw [if_pos (by omega)]); rw [hwy]; exact ⟨rfl, PM.rf.t⟩) | (have hwy : whyC μ.1 c = -1 := (by unfold whyC; rw [if_neg (by omega), if_pos (by omega)]); rw [hwy]; exact ⟨rfl, PM.rf.t⟩) | (have hwy : whyC μ.1 c = 0 := (by unfold whyC; rw [if_neg (by omega), if_neg (by omega)]); rw [hwy]; exact ⟨by rw [if_pos rfl, if_pos (by omega)], hP.t⟩) | (refine ⟨?_, by first | exact hP | exact hP.tr hP2.t⟩; first | (exact ha) | (have e9 : m = 0 := (by omega); subst e9; exact ha) | (rw [hco]; rcases hl with q | q; rw [q.2]; rfl; omega))))
  · refine P_bipush (pc := 98) dX6_cooking_98 (by decide) ?_
    refine P_iload (pc := 100) dX6_cooking_100 1 rfl ?_
    refine P_imul (pc := 102) dX6_cooking_102 ?_
    refine P_aload_n (pc := 103) dX6_cooking_103 rfl 0 rfl ?_
    refine P_getR (pc := 104) dX6_cooking_104 fa_RX6_92 sM_0 fM0_36 ?_
    refine P_iload (pc := 107) dX6_cooking_107 2 rfl ?_
    refine P_iald (pc := 109) dX6_cooking_109 sM_28 (by omega) (by omega) (by decide) ?_
    refine P_iadd (pc := 110) dX6_cooking_110 ?_
    refine P_iconst (pc := 111) dX6_cooking_111 ?_
    refine P_iadd (pc := 112) dX6_cooking_112 ?_
    refine P_istore (L' := [(4, vi _), (0, vr 0), (5, vi _)]) (pc := 113) dX6_cooking_113 (by decide) rfl ?_
    refine P_iinc (L' := [(5, vi _), (4, vi _), (0, vr 0)]) (pc := 115) dX6_cooking_115 (by decide) 2 rfl rfl ?_
    refine P_goto (tgt := 93) (pc := 118) dX6_cooking_118 (by decide) ?_
    refine P_sub (L' := [(0, vr 0), (4, vi _), (5, vi _)]) [2, 1, 0] rfl ?_
    obtain ⟨m, rfl⟩ : ∃ m', m = m' + 1 := ⟨m - 1, by omega⟩
    have ek : k = (m : Int) := by omega
    refine P_cast (L' := [(0, vr 0), (4, vi (encL (x.drop m))), (5, vi (k - 1))]) ?_ rfl (ih m _ (k - 1) (by omega) (by omega) (by omega) rfl)
    rw [enc_drop (by have := hxo.1; omega), ← ha, ek, hln m (by omega)]
    rfl
set_option maxHeartbeats 1000000 in
set_option maxRecDepth 100000 in
theorem l_X6_cooking2 {μ : Mem} {K F : Cel} {c s : Nat} (hk : kd μ.1 = K) (hK : KOK K) (hA : SOK μ.1) (hs : μ.1 0 37 = (s : Int)) (hc : c < 4096) : ∀ (n : Nat) (l : List (List Nat)) (ν : Mem) (t : Int), l.length < n → PMT μ ν → LF K F 0 ν → cooN K F μ.1 c s (prmS s) = cooN K F μ.1 c s l → chkL s l = true → (t = 0 ∧ l = [] ∨ t = 1 ∧ ∃ x r, l = x :: r ∧ ∀ j : Nat, j < s → ν.1 28 (j : Int) = (gx x j : Int)) → PW shM 6 mX6_cooking 70 [(0, vr 0), (1, vi (c : Int)), (3, vi t)] [] ν (QI (fun z μ' => z = cooN K F μ.1 c s (prmS s) ∧ PMT μ μ')) := by
  intro n
  induction n with
  | zero => intro l ν t q; omega
  | succ n ih =>
  intro l ν t hn hP hLF hco hch hl
  have hk11 : K 0 11 = μ.1 0 11 := by rw [← hk]; rfl
  have hs5 : s ≤ 5 := by have := hA.1; omega
  refine P_iload_n (pc := 70) dX6_cooking_70 rfl 2 rfl ?_
  refine P_if_eq (tgt := 132) (pc := 71) dX6_cooking_71 (by decide) (by first | assumption | (unfold InR; omega)) (fun c_71 => ?_) (fun c_71 => ?_)
  · refine P_bipush (pc := 132) dX6_cooking_132 (by decide) ?_
    exact P_iret (pc := 134) dX6_cooking_134 rfl (QI.mk (by first | (exfalso; omega) | (have hwy : whyC μ.1 c = -4 := (by unfold whyC; rw [if_pos (by omega)]); rw [hwy]; exact ⟨rfl, PM.rf.t⟩) | (have hwy : whyC μ.1 c = -1 := (by unfold whyC; rw [if_neg (by omega), if_pos (by omega)]); rw [hwy]; exact ⟨rfl, PM.rf.t⟩) | (have hwy : whyC μ.1 c = 0 := (by unfold whyC; rw [if_neg (by omega), if_neg (by omega)]); rw [hwy]; exact ⟨by rw [if_pos rfl, if_pos (by omega)], hP.t⟩) | (refine ⟨?_, by first | exact hP | exact hP.tr hP2.t⟩; first | (exact ha) | (have e9 : m = 0 := (by omega); subst e9; exact ha) | (rw [hco]; rcases hl with q | q; rw [q.2]; rfl; omega))))
  · have hl2 := hl.resolve_left (by omega)
    obtain ⟨ht1, x, r, hlx, hln⟩ := hl2
    subst hlx
    have hxo : okP x s := by simp only [chkL, Bool.and_eq_true, decide_eq_true_eq] at hch; exact hch.1.1
    refine P_aload_n (pc := 74) dX6_cooking_74 rfl 0 rfl ?_
    refine P_iload_n (pc := 75) dX6_cooking_75 rfl 1 rfl ?_
    refine P_callVi (Y' := mX6_cooks) (as := [_]) (pc := 76) dX6_cooking_76 rfl (by decide : 5 < 6) sM_0 rfl ml_RX6_273 im_X6_cooks se_X6_cooks mk_X6_cooks (Nat.le_of_ble_eq_true rfl) (c_X6_cooks (A := μ.1) (ln := lnx x) ((PMT_kd hP).trans hk) hK (fun i hi => by rw [lnx_n]; have := hxo.2 i hi; omega) hA hs hk11.symm hc (hP.cell 25 (by decide)) (hP.cell 26 (by decide)) (hP.cell 27 (by decide)) (hP.num 37 (by decide)) (fun i hi => hln i hi) hLF) (fun z_ μ_ hq => ?_)
    obtain ⟨hz, hP2, hLF2⟩ := hq
    have hz : z_ = 0 ∧ ckB K F μ.1 (lnx x) c s = false ∨ z_ = 1 ∧ ckB K F μ.1 (lnx x) c s = true := by rw [hz]; cases ckB K F μ.1 (lnx x) c s <;> simp
    have hP := hP.tr hP2.t
    have hln : ∀ j : Nat, j < s → μ_.1 28 (j : Int) = (gx x j : Int) := fun j hj => by rw [hP2.c28]; exact hln j hj
    refine P_if_eq (tgt := 124) (pc := 79) dX6_cooking_79 (by decide) (by first | assumption | (unfold InR; omega)) (fun c_79 => ?_) (fun c_79 => ?_)
    · refine P_aload_n (pc := 124) dX6_cooking_124 rfl 0 rfl ?_
      refine P_callVi (Y' := mX6_nextLine) (as := []) (pc := 125) dX6_cooking_125 rfl (by decide : 0 < 6) sM_0 rfl ml_RX6_276 im_X6_nextLine se_X6_nextLine mk_X6_nextLine (Nat.le_of_ble_eq_true rfl) (c_X6_nextLine (s := (s : Int)) (by rw [hP.num 37 (by decide)]; exact hs) (by omega) (fun j h1 h2 => by obtain ⟨j, rfl⟩ := Int.eq_ofNat_of_zero_le h1; rw [hln j (by omega)]; have := hxo.2 j (by omega); omega)) (fun z_ μ_ hq => ?_)
      refine P_istore_n (L' := [(3, vi _), (0, vr 0), (1, vi _)]) (pc := 128) dX6_cooking_128 rfl (by decide) rfl ?_
      refine P_goto (tgt := 70) (pc := 129) dX6_cooking_129 (by decide) ?_
      refine P_sub (L' := [(0, vr 0), (1, vi _), (3, vi _)]) [1, 2, 0] rfl ?_
      have hcf : ckB K F μ.1 (lnx x) c s = false := by rcases hz with q | q; exact q.2; omega
      have hco2 : cooN K F μ.1 c s (prmS s) = cooN K F μ.1 c s r := by rw [hco]; show (if ckB K F μ.1 (lnx x) c s = true then encL x else cooN K F μ.1 c s r) = _; rw [hcf]; rfl
      have hch2 : chkL s r = true := by simp only [chkL, Bool.and_eq_true] at hch; exact hch.2
      rcases hq with ⟨hz, rfl, hd⟩ | ⟨hz, p, q, hR, rfl⟩
      · have er := nl_none hch hln hd
        subst er
        exact ih [] _ _ (by simp only [List.length_cons, List.length_nil] at hn ⊢; omega) hP hLF2 hco2 hch2 (Or.inl ⟨hz, rfl⟩)
      · obtain ⟨y, r', er, hy⟩ := nl_next hch hln hR
        subst er
        exact ih (y :: r') _ _ (by simp only [List.length_cons] at hn ⊢; omega) hP.setL hLF2 hco2 hch2 (Or.inr ⟨hz, y, r', rfl, hy⟩)
    · refine P_iconst (pc := 82) dX6_cooking_82 ?_
      refine P_istore (L' := [(4, vi _), (0, vr 0), (1, vi _), (3, vi _)]) (pc := 83) dX6_cooking_83 (by decide) rfl ?_
      refine P_aload_n (pc := 85) dX6_cooking_85 rfl 1 rfl ?_
      refine P_getI (jj := 37) (pc := 86) dX6_cooking_86 fa_RX6_270 sM_0 fM0_37 rfl ?_
      rw [hP.num 37 (by decide), hs]
      refine P_iconst (pc := 89) dX6_cooking_89 ?_
      refine P_isub (pc := 90) dX6_cooking_90 ?_
      refine P_istore (L' := [(5, vi _), (4, vi _), (0, vr 0), (1, vi _), (3, vi _)]) (pc := 91) dX6_cooking_91 (by decide) rfl ?_
      refine P_sub (L' := [(0, vr 0), (4, vi _), (5, vi _)]) [2, 1, 0] rfl ?_
      refine P_post (Q' := (QI (fun z μ' => z = encL x ∧ PMT μ μ'))) (fun r μ' hq => ?_) (l_X6_cooking3 hs5 hP hxo hln (s + 1) s 0 _ rfl (Nat.le_refl s) (by omega) (by rw [List.drop_of_length_le (by have := hxo.1; omega)]; rfl))
      obtain ⟨z9, hr9, hz9, hP9⟩ := hq
      exact ⟨z9, hr9, by rw [hz9, hco]; show encL x = if ckB K F μ.1 (lnx x) c s = true then encL x else _; rw [if_pos (by rcases hz with q | q; omega; exact q.2)], hP9⟩
set_option maxHeartbeats 1000000 in
set_option maxRecDepth 100000 in
theorem l_X6_cooking1 {μ : Mem} {K F : Cel} {c s : Nat} (hk : kd μ.1 = K) (hK : KOK K) (hA : SOK μ.1) (hs : μ.1 0 37 = (s : Int)) (hc : c < 4096) : ∀ (n j : Nat) (t : Int) (ν : Mem), t = (j : Int) → j ≤ s → s - j < n → PMT μ ν → LF K F 0 ν → (∀ i : Nat, i < j → ν.1 28 (i : Int) = (i : Int)) → PW shM 6 mX6_cooking 47 [(0, vr 0), (1, vi (c : Int)), (3, vi t)] [] ν (QI (fun z μ' => z = cooN K F μ.1 c s (prmS s) ∧ PMT μ μ')) := by
  intro n
  induction n with
  | zero => intro j t ν _ _ q; omega
  | succ n ih =>
  intro j t ν ht hj hn hP hLF hi
  have hk11 : K 0 11 = μ.1 0 11 := by rw [← hk]; rfl
  have hs5 : s ≤ 5 := by have := hA.1; omega
  have h37 : ν.1 0 37 = (s : Int) := by rw [hP.num 37 (by decide)]; exact hs
  refine P_iload_n (pc := 47) dX6_cooking_47 rfl 2 rfl ?_
  refine P_aload_n (pc := 48) dX6_cooking_48 rfl 0 rfl ?_
  refine P_getI (jj := 37) (pc := 49) dX6_cooking_49 fa_RX6_270 sM_0 fM0_37 rfl ?_
  rw [h37]
  refine P_icmp_ge (tgt := 68) (pc := 52) dX6_cooking_52 (by decide) (by first | assumption | (unfold InR; omega)) (by first | assumption | (unfold InR; omega)) (fun c_52 => ?_) (fun c_52 => ?_)
  · refine P_iconst (pc := 68) dX6_cooking_68 ?_
    refine P_istore_n (L' := [(3, vi _), (0, vr 0), (1, vi _)]) (pc := 69) dX6_cooking_69 rfl (by decide) rfl ?_
    refine P_sub (L' := [(0, vr 0), (1, vi _), (3, vi _)]) [1, 2, 0] rfl ?_
    obtain ⟨r, hr⟩ : ∃ r, prmS s = List.range s :: r := by
      have := prm_head s (by omega)
      cases e : prmS s with
      | nil => rw [e] at this; cases this
      | cons a r => rw [e] at this; simp only [List.head?_cons, Option.some.injEq] at this; exact ⟨r, by rw [this]⟩
    exact l_X6_cooking2 hk hK hA hs hc ((prmS s).length + 1) (prmS s) ν 1 (by omega) hP hLF rfl (chk_all s (by omega)) (Or.inr ⟨rfl, _, r, hr, fun q hq => by rw [gx_range s (by omega) q hq]; exact hi q (by omega)⟩)
  · refine P_aload_n (pc := 55) dX6_cooking_55 rfl 0 rfl ?_
    refine P_getR (pc := 56) dX6_cooking_56 fa_RX6_92 sM_0 fM0_36 ?_
    refine P_iload_n (pc := 59) dX6_cooking_59 rfl 2 rfl ?_
    refine P_iload_n (pc := 60) dX6_cooking_60 rfl 2 rfl ?_
    refine P_iast (pc := 61) dX6_cooking_61 sM_28 (by omega) (by omega) (by decide) ?_
    refine P_iinc (L' := [(3, vi _), (0, vr 0), (1, vi _)]) (pc := 62) dX6_cooking_62 (by decide) 2 rfl rfl ?_
    refine P_goto (tgt := 47) (pc := 65) dX6_cooking_65 (by decide) ?_
    refine P_sub (L' := [(0, vr 0), (1, vi _), (3, vi _)]) [1, 2, 0] rfl ?_
    refine ih (j + 1) (t + 1) _ (by omega) (by omega) (by omega) (hP.put (Or.inr (Or.inl rfl))) hLF (fun i hi2 => ?_)
    by_cases e : i = j
    · subst e; rw [← ht, putI_self]
    · have e2 : (i : Int) ≠ t := by omega
      have := hi i (by omega)
      simp only [putI]
      simp [e2, this]
set_option maxHeartbeats 1000000 in
set_option maxRecDepth 100000 in
theorem c_X6_cooking {μ : Mem} {K : Cel} {s : Nat} {c : Int} (hk : kd μ.1 = K) (hK : KOK K) (hF : FOK μ.1) (hA : SOK μ.1) (hs : μ.1 0 37 = (s : Int)) (hc : InR c) : PC shM 6 mX6_cooking [vr 0, vi c] (μ) (QI (fun z μ' => z = (if whyC μ.1 c = 0 then (if leftN K μ.1 0 = 0 then -9 else cooN K μ.1 μ.1 c.toNat s (prmS s)) else whyC μ.1 c) ∧ PMT (refW μ (whyC μ.1 c)) μ')) := by
  refine PC.of (by decide +kernel) (Nat.le_of_ble_eq_true rfl) ?_
  refine P_sub (L' := [(0, vr 0), (1, vi c)]) [0, 1] rfl ?_
  have hK1 := hK.1
  have hk11 : K 0 11 = μ.1 0 11 := by rw [← hk]; rfl
  have hn : InR (μ.1 0 11) := by unfold InR; omega
  have hle := leftN_le K μ.1 0
  have hs5 : s ≤ 5 := by have := hA.1; omega
  have d0 : 0 ≤ c → _ := fun q => wdiv (w := c) (n := (μ.1 0 11).toNat) q (by unfold InR at hc; omega)
  refine P_iload_n (pc := 0) dX6_cooking_0 rfl 1 rfl ?_
  refine P_if_ge (tgt := 9) (pc := 1) dX6_cooking_1 (by decide) (by first | assumption | (unfold InR; omega)) (fun c_1 => ?_) (fun c_1 => ?_)
  · refine P_iload_n (pc := 9) dX6_cooking_9 rfl 1 rfl ?_
    refine P_aload_n (pc := 10) dX6_cooking_10 rfl 0 rfl ?_
    refine P_getI (jj := 11) (pc := 11) dX6_cooking_11 fa_RX6_101 sM_0 fM0_11 rfl ?_
    refine P_ishr (pc := 14) dX6_cooking_14 (wI_shr _ (by omega) (by omega) (by omega) (by unfold InR at hc; omega)) ?_
    refine P_if_eq (tgt := 22) (pc := 15) dX6_cooking_15 (by decide) (by first | assumption | (unfold InR; omega)) (fun c_15 => ?_) (fun c_15 => ?_)
    · refine P_iconst (pc := 22) dX6_cooking_22 ?_
      refine P_istore_n (L' := [(2, vi _), (0, vr 0), (1, vi _)]) (pc := 23) dX6_cooking_23 rfl (by decide) rfl ?_
      refine P_iload_n (pc := 24) dX6_cooking_24 rfl 0 rfl ?_
      refine P_if_eq (tgt := 34) (pc := 25) dX6_cooking_25 (by decide) (by first | assumption | (unfold InR; omega)) (fun c_25 => ?_) (fun c_25 => ?_)
      · refine P_aload_n (pc := 34) dX6_cooking_34 rfl 1 rfl ?_
        refine P_iconst (pc := 35) dX6_cooking_35 ?_
        refine P_callVi (Y' := mX6_findLeft) (as := [_]) (pc := 36) dX6_cooking_36 rfl (by decide : 5 < 6) sM_0 rfl ml_RX6_241 im_X6_findLeft se_X6_findLeft mk_X6_findLeft (Nat.le_of_ble_eq_true rfl) (c_X6_findLeft hk hK hF (Or.inl rfl)) (fun z_ μ_ hq => ?_)
        obtain ⟨hzl, hP, hLF⟩ := hq
        refine P_if_ne (tgt := 45) (pc := 39) dX6_cooking_39 (by decide) (by first | assumption | (unfold InR; omega)) (fun c_39 => ?_) (fun c_39 => ?_)
        · refine P_iconst (pc := 45) dX6_cooking_45 ?_
          refine P_istore_n (L' := [(3, vi _), (2, vi _), (0, vr 0), (1, vi _)]) (pc := 46) dX6_cooking_46 rfl (by decide) rfl ?_
          refine P_sub (L' := [(0, vr 0), (1, vi _), (3, vi _)]) [2, 3, 0] rfl ?_
          refine P_post (Q' := (QI (fun z μ' => z = cooN K μ.1 μ.1 c.toNat s (prmS s) ∧ PMT μ μ'))) (fun r μ' hq => ?_) ?_
          · obtain ⟨z9, hr9, hz9, hP9⟩ := hq
            have hwy : whyC μ.1 c = 0 := by unfold whyC; rw [if_neg (by omega), if_neg (by omega)]
            refine ⟨z9, hr9, ?_, ?_⟩
            · rw [hwy, if_pos rfl, if_neg (by omega)]; exact hz9
            · rw [hwy]; exact hP9
          have hlt : c.toNat < 4096 := washT (T := μ.1 0 11) (by omega) (by omega) (by omega)
          refine P_cast (L' := [(0, vr 0), (1, vi (c.toNat : Int)), (3, vi 0)]) ?_ rfl (l_X6_cooking1 hk hK hA hs hlt (s + 1) 0 0 _ rfl (Nat.zero_le _) (by omega) hP.t hLF (fun i h => absurd h (Nat.not_lt_zero i)))
          rw [Int.toNat_of_nonneg (by omega)]
        · refine P_bipush (pc := 42) dX6_cooking_42 (by decide) ?_
          exact P_iret (pc := 44) dX6_cooking_44 rfl (QI.mk (by first | (exfalso; omega) | (have hwy : whyC μ.1 c = -4 := (by unfold whyC; rw [if_pos (by omega)]); rw [hwy]; exact ⟨rfl, PM.rf.t⟩) | (have hwy : whyC μ.1 c = -1 := (by unfold whyC; rw [if_neg (by omega), if_pos (by omega)]); rw [hwy]; exact ⟨rfl, PM.rf.t⟩) | (have hwy : whyC μ.1 c = 0 := (by unfold whyC; rw [if_neg (by omega), if_neg (by omega)]); rw [hwy]; exact ⟨by rw [if_pos rfl, if_pos (by omega)], hP.t⟩) | (refine ⟨?_, by first | exact hP | exact hP.tr hP2.t⟩; first | (exact ha) | (have e9 : m = 0 := (by omega); subst e9; exact ha) | (rw [hco]; rcases hl with q | q; rw [q.2]; rfl; omega))))
      · refine P_aload_n (pc := 28) dX6_cooking_28 rfl 1 rfl ?_
        refine P_iload_n (pc := 29) dX6_cooking_29 rfl 0 rfl ?_
        refine P_callVi (Y' := mX6_no) (as := [_]) (pc := 30) dX6_cooking_30 rfl (by decide : 0 < 6) sM_0 rfl ml_RX6_109 im_X6_no se_X6_no mk_X6_no (Nat.le_of_ble_eq_true rfl) (c_X6_no (by omega)) (fun z_ μ_ hq => ?_)
        obtain ⟨rfl, hμ_⟩ := hq
        have hμ_ := hμ_.symm
        subst hμ_
        exact P_iret (pc := 33) dX6_cooking_33 rfl (QI.mk (by first | (exfalso; omega) | (have hwy : whyC μ.1 c = -4 := (by unfold whyC; rw [if_pos (by omega)]); rw [hwy]; exact ⟨rfl, PM.rf.t⟩) | (have hwy : whyC μ.1 c = -1 := (by unfold whyC; rw [if_neg (by omega), if_pos (by omega)]); rw [hwy]; exact ⟨rfl, PM.rf.t⟩) | (have hwy : whyC μ.1 c = 0 := (by unfold whyC; rw [if_neg (by omega), if_neg (by omega)]); rw [hwy]; exact ⟨by rw [if_pos rfl, if_pos (by omega)], hP.t⟩) | (refine ⟨?_, by first | exact hP | exact hP.tr hP2.t⟩; first | (exact ha) | (have e9 : m = 0 := (by omega); subst e9; exact ha) | (rw [hco]; rcases hl with q | q; rw [q.2]; rfl; omega))))
    · refine P_iconst (pc := 18) dX6_cooking_18 ?_
      refine P_goto (tgt := 23) (pc := 19) dX6_cooking_19 (by decide) ?_
      refine P_istore_n (L' := [(2, vi _), (0, vr 0), (1, vi _)]) (pc := 23) dX6_cooking_23 rfl (by decide) rfl ?_
      refine P_iload_n (pc := 24) dX6_cooking_24 rfl 0 rfl ?_
      refine P_if_eq (tgt := 34) (pc := 25) dX6_cooking_25 (by decide) (by first | assumption | (unfold InR; omega)) (fun c_25 => ?_) (fun c_25 => ?_)
      · refine P_aload_n (pc := 34) dX6_cooking_34 rfl 1 rfl ?_
        refine P_iconst (pc := 35) dX6_cooking_35 ?_
        refine P_callVi (Y' := mX6_findLeft) (as := [_]) (pc := 36) dX6_cooking_36 rfl (by decide : 5 < 6) sM_0 rfl ml_RX6_241 im_X6_findLeft se_X6_findLeft mk_X6_findLeft (Nat.le_of_ble_eq_true rfl) (c_X6_findLeft hk hK hF (Or.inl rfl)) (fun z_ μ_ hq => ?_)
        obtain ⟨hzl, hP, hLF⟩ := hq
        refine P_if_ne (tgt := 45) (pc := 39) dX6_cooking_39 (by decide) (by first | assumption | (unfold InR; omega)) (fun c_39 => ?_) (fun c_39 => ?_)
        · refine P_iconst (pc := 45) dX6_cooking_45 ?_
          refine P_istore_n (L' := [(3, vi _), (2, vi _), (0, vr 0), (1, vi _)]) (pc := 46) dX6_cooking_46 rfl (by decide) rfl ?_
          refine P_sub (L' := [(0, vr 0), (1, vi _), (3, vi _)]) [2, 3, 0] rfl ?_
          refine P_post (Q' := (QI (fun z μ' => z = cooN K μ.1 μ.1 c.toNat s (prmS s) ∧ PMT μ μ'))) (fun r μ' hq => ?_) ?_
          · obtain ⟨z9, hr9, hz9, hP9⟩ := hq
            have hwy : whyC μ.1 c = 0 := by unfold whyC; rw [if_neg (by omega), if_neg (by omega)]
            refine ⟨z9, hr9, ?_, ?_⟩
            · rw [hwy, if_pos rfl, if_neg (by omega)]; exact hz9
            · rw [hwy]; exact hP9
          have hlt : c.toNat < 4096 := washT (T := μ.1 0 11) (by omega) (by omega) (by omega)
          refine P_cast (L' := [(0, vr 0), (1, vi (c.toNat : Int)), (3, vi 0)]) ?_ rfl (l_X6_cooking1 hk hK hA hs hlt (s + 1) 0 0 _ rfl (Nat.zero_le _) (by omega) hP.t hLF (fun i h => absurd h (Nat.not_lt_zero i)))
          rw [Int.toNat_of_nonneg (by omega)]
        · refine P_bipush (pc := 42) dX6_cooking_42 (by decide) ?_
          exact P_iret (pc := 44) dX6_cooking_44 rfl (QI.mk (by first | (exfalso; omega) | (have hwy : whyC μ.1 c = -4 := (by unfold whyC; rw [if_pos (by omega)]); rw [hwy]; exact ⟨rfl, PM.rf.t⟩) | (have hwy : whyC μ.1 c = -1 := (by unfold whyC; rw [if_neg (by omega), if_pos (by omega)]); rw [hwy]; exact ⟨rfl, PM.rf.t⟩) | (have hwy : whyC μ.1 c = 0 := (by unfold whyC; rw [if_neg (by omega), if_neg (by omega)]); rw [hwy]; exact ⟨by rw [if_pos rfl, if_pos (by omega)], hP.t⟩) | (refine ⟨?_, by first | exact hP | exact hP.tr hP2.t⟩; first | (exact ha) | (have e9 : m = 0 := (by omega); subst e9; exact ha) | (rw [hco]; rcases hl with q | q; rw [q.2]; rfl; omega))))
      · refine P_aload_n (pc := 28) dX6_cooking_28 rfl 1 rfl ?_
        refine P_iload_n (pc := 29) dX6_cooking_29 rfl 0 rfl ?_
        refine P_callVi (Y' := mX6_no) (as := [_]) (pc := 30) dX6_cooking_30 rfl (by decide : 0 < 6) sM_0 rfl ml_RX6_109 im_X6_no se_X6_no mk_X6_no (Nat.le_of_ble_eq_true rfl) (c_X6_no (by omega)) (fun z_ μ_ hq => ?_)
        obtain ⟨rfl, hμ_⟩ := hq
        have hμ_ := hμ_.symm
        subst hμ_
        exact P_iret (pc := 33) dX6_cooking_33 rfl (QI.mk (by first | (exfalso; omega) | (have hwy : whyC μ.1 c = -4 := (by unfold whyC; rw [if_pos (by omega)]); rw [hwy]; exact ⟨rfl, PM.rf.t⟩) | (have hwy : whyC μ.1 c = -1 := (by unfold whyC; rw [if_neg (by omega), if_pos (by omega)]); rw [hwy]; exact ⟨rfl, PM.rf.t⟩) | (have hwy : whyC μ.1 c = 0 := (by unfold whyC; rw [if_neg (by omega), if_neg (by omega)]); rw [hwy]; exact ⟨by rw [if_pos rfl, if_pos (by omega)], hP.t⟩) | (refine ⟨?_, by first | exact hP | exact hP.tr hP2.t⟩; first | (exact ha) | (have e9 : m = 0 := (by omega); subst e9; exact ha) | (rw [hco]; rcases hl with q | q; rw [q.2]; rfl; omega))))
  · refine P_bipush (pc := 4) dX6_cooking_4 (by decide) ?_
    refine P_goto (tgt := 23) (pc := 6) dX6_cooking_6 (by decide) ?_
    refine P_istore_n (L' := [(2, vi _), (0, vr 0), (1, vi _)]) (pc := 23) dX6_cooking_23 rfl (by decide) rfl ?_
    refine P_iload_n (pc := 24) dX6_cooking_24 rfl 0 rfl ?_
    refine P_if_eq (tgt := 34) (pc := 25) dX6_cooking_25 (by decide) (by first | assumption | (unfold InR; omega)) (fun c_25 => ?_) (fun c_25 => ?_)
    · refine P_aload_n (pc := 34) dX6_cooking_34 rfl 1 rfl ?_
      refine P_iconst (pc := 35) dX6_cooking_35 ?_
      refine P_callVi (Y' := mX6_findLeft) (as := [_]) (pc := 36) dX6_cooking_36 rfl (by decide : 5 < 6) sM_0 rfl ml_RX6_241 im_X6_findLeft se_X6_findLeft mk_X6_findLeft (Nat.le_of_ble_eq_true rfl) (c_X6_findLeft hk hK hF (Or.inl rfl)) (fun z_ μ_ hq => ?_)
      obtain ⟨hzl, hP, hLF⟩ := hq
      refine P_if_ne (tgt := 45) (pc := 39) dX6_cooking_39 (by decide) (by first | assumption | (unfold InR; omega)) (fun c_39 => ?_) (fun c_39 => ?_)
      · refine P_iconst (pc := 45) dX6_cooking_45 ?_
        refine P_istore_n (L' := [(3, vi _), (2, vi _), (0, vr 0), (1, vi _)]) (pc := 46) dX6_cooking_46 rfl (by decide) rfl ?_
        refine P_sub (L' := [(0, vr 0), (1, vi _), (3, vi _)]) [2, 3, 0] rfl ?_
        refine P_post (Q' := (QI (fun z μ' => z = cooN K μ.1 μ.1 c.toNat s (prmS s) ∧ PMT μ μ'))) (fun r μ' hq => ?_) ?_
        · obtain ⟨z9, hr9, hz9, hP9⟩ := hq
          have hwy : whyC μ.1 c = 0 := by unfold whyC; rw [if_neg (by omega), if_neg (by omega)]
          refine ⟨z9, hr9, ?_, ?_⟩
          · rw [hwy, if_pos rfl, if_neg (by omega)]; exact hz9
          · rw [hwy]; exact hP9
        have hlt : c.toNat < 4096 := washT (T := μ.1 0 11) (by omega) (by omega) (by omega)
        refine P_cast (L' := [(0, vr 0), (1, vi (c.toNat : Int)), (3, vi 0)]) ?_ rfl (l_X6_cooking1 hk hK hA hs hlt (s + 1) 0 0 _ rfl (Nat.zero_le _) (by omega) hP.t hLF (fun i h => absurd h (Nat.not_lt_zero i)))
        rw [Int.toNat_of_nonneg (by omega)]
      · refine P_bipush (pc := 42) dX6_cooking_42 (by decide) ?_
        exact P_iret (pc := 44) dX6_cooking_44 rfl (QI.mk (by first | (exfalso; omega) | (have hwy : whyC μ.1 c = -4 := (by unfold whyC; rw [if_pos (by omega)]); rw [hwy]; exact ⟨rfl, PM.rf.t⟩) | (have hwy : whyC μ.1 c = -1 := (by unfold whyC; rw [if_neg (by omega), if_pos (by omega)]); rw [hwy]; exact ⟨rfl, PM.rf.t⟩) | (have hwy : whyC μ.1 c = 0 := (by unfold whyC; rw [if_neg (by omega), if_neg (by omega)]); rw [hwy]; exact ⟨by rw [if_pos rfl, if_pos (by omega)], hP.t⟩) | (refine ⟨?_, by first | exact hP | exact hP.tr hP2.t⟩; first | (exact ha) | (have e9 : m = 0 := (by omega); subst e9; exact ha) | (rw [hco]; rcases hl with q | q; rw [q.2]; rfl; omega))))
    · refine P_aload_n (pc := 28) dX6_cooking_28 rfl 1 rfl ?_
      refine P_iload_n (pc := 29) dX6_cooking_29 rfl 0 rfl ?_
      refine P_callVi (Y' := mX6_no) (as := [_]) (pc := 30) dX6_cooking_30 rfl (by decide : 0 < 6) sM_0 rfl ml_RX6_109 im_X6_no se_X6_no mk_X6_no (Nat.le_of_ble_eq_true rfl) (c_X6_no (by omega)) (fun z_ μ_ hq => ?_)
      obtain ⟨rfl, hμ_⟩ := hq
      have hμ_ := hμ_.symm
      subst hμ_
      exact P_iret (pc := 33) dX6_cooking_33 rfl (QI.mk (by first | (exfalso; omega) | (have hwy : whyC μ.1 c = -4 := (by unfold whyC; rw [if_pos (by omega)]); rw [hwy]; exact ⟨rfl, PM.rf.t⟩) | (have hwy : whyC μ.1 c = -1 := (by unfold whyC; rw [if_neg (by omega), if_pos (by omega)]); rw [hwy]; exact ⟨rfl, PM.rf.t⟩) | (have hwy : whyC μ.1 c = 0 := (by unfold whyC; rw [if_neg (by omega), if_neg (by omega)]); rw [hwy]; exact ⟨by rw [if_pos rfl, if_pos (by omega)], hP.t⟩) | (refine ⟨?_, by first | exact hP | exact hP.tr hP2.t⟩; first | (exact ha) | (have e9 : m = 0 := (by omega); subst e9; exact ha) | (rw [hco]; rcases hl with q | q; rw [q.2]; rfl; omega))))
