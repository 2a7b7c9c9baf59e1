theorem setsX_0 {X : Cel} {t d : Int} : (setsX X t d) 0 = X 0 := by
  unfold setsX
  rw [xput_ne (by decide)]
  split
  · rw [xput_ne (by decide)]
  · rfl
theorem givesX_z {K X : Cel} {t d fr : Int} : (givesX K X t d fr) 0 = X 0 := by funext j; exact givesX_0
theorem cleansX_0 {X : Cel} {t : Int} : (cleansX X t) 0 = X 0 := by
  unfold cleansX
  rw [xput_ne (by decide), xput_ne (by decide), xput_ne (by decide)]
theorem joinX_0 {K X : Cel} {t : Int} : (joinX K t X) 0 = X 0 := by
  unfold joinX
  split
  · rfl
  · split
    · rw [setsX_0, xput_ne (by decide)]
    · rw [setsX_0, xput_ne (by decide)]
theorem joinN_0 {K X : Cel} : ∀ n, (upN (joinX K) 1 n X) 0 = X 0
  | 0 => rfl
  | n + 1 => by rw [upN_s, joinX_0, joinN_0 n]
theorem washesX_0 {K X : Cel} {a : Int} : (washesX K X a) 0 = X 0 := by
  have h1 : (if K 2 a = 0 ∨ K 2 a = 5 then cleansX X a else X) 0 = X 0 := by
    split
    · exact cleansX_0
    · rfl
  unfold washesX
  generalize (if K 2 a = 0 ∨ K 2 a = 5 then cleansX X a else X) = X1 at h1 ⊢
  split
  · rw [xput_ne (by decide), h1]
  · exact h1
theorem actX_0 {K X : Cel} {k a b fr : Int} : (actX K X k a b fr) 0 = X 0 := by
  unfold actX
  split
  · rw [givesX_z, givesX_z]
  · split
    · rw [givesX_z]
    · split
      · split
        · rw [givesX_z]
          split
          · rw [givesX_z]
          · rfl
        · split
          · rw [givesX_z]
          · rfl
      · split
        · split
          · rw [givesX_z, givesX_z]
          · rw [givesX_z]
        · split
          · exact washesX_0
          · split
            · split
              · rw [xput_ne (by decide), cleansX_0]
              · rfl
            · split
              · rw [xput_ne (by decide)]
              · split
                · rw [xput_ne (by decide)]
                · rw [setsX_0]
                  split
                  · rw [xput_ne (by decide)]
                  · rfl
theorem doesX_0 {K X : Cel} {k a b fr : Int} : (doesX K X k a b fr) 0 = X 0 := (joinN_0 _).trans actX_0
theorem evX_0 {K X : Cel} {S : Int → Int} {w h e : Int} : (evX K S w h e X) 0 = X 0 := by
  unfold evX
  split
  · exact doesX_0
  · rfl
theorem evN_0 {K X : Cel} {S : Int → Int} {w h : Int} : ∀ n, (upN (evX K S w h) 0 n X) 0 = X 0
  | 0 => rfl
  | n + 1 => by rw [upN_s, evX_0, evN_0 n]
/-! the sunset -/
theorem cln1_bit {K : Cel} {N : Pl} {t i : Int} {w : Nat} (hw : w < 64) (h3 : K 2 t = 3) : bw (cln1 K t N) w i = if i = t * 13 + 12 then false else if t * 13 ≤ i ∧ i < t * 13 + 4 ∧ bw N w (t * 13 + 12) = true then false else bw N w i := by
  unfold cln1
  rw [if_pos h3, lput_bit, mkN_bit hw, BitVec.getLsbD_zero]
  rfl
def RS (K X : Cel) (β : Int → Bool) (k : Int) : Prop := RX K X β ∧ X 0 25 = 1 ∧ ∀ t, k ≤ t → t < K 0 11 → K 2 t = 3 → β (t * 13 + 12) = decide (X 16 t ≠ 0)
theorem RS_step {K X : Cel} {N : Pl} {k : Int} {w : Nat} (hw : w < 64) (h : RS K X (bw N w) k) (hk : 0 ≤ k ∧ k < K 0 11) : RS K (sunX k X) (bw (cln1 K k N) w) (k + 1) := by
  obtain ⟨hX, h25, hs⟩ := h
  have hR := hX k hk.1 hk.2
  have hR2 := hR
  obtain ⟨r1, r9, r10, r11, r12, r16, r14, r2⟩ := hR2
  by_cases k3 : K 2 k = 3
  · have hb := hs k (Int.le_refl k) hk.2 k3
    have e : ∀ i, bw (cln1 K k N) w i = if i = k * 13 + 12 then false else if k * 13 ≤ i ∧ i < k * 13 + 4 ∧ X 16 k ≠ 0 then false else bw N w i := fun i => by
      rw [cln1_bit hw k3, hb]
      simp only [decide_eq_true_eq]
    unfold sunX
    by_cases x : X 16 k ≠ 0
    · rw [if_pos x]
      refine ⟨RX_upd (t := k) hX (fun j hj => by rw [e, if_neg (by omega), if_neg (by omega)]) (fun q j hj _ => by rw [cleansX_v, if_neg (fun z => hj z.1)]) (by rw [cleansX_0]) ?_, by rw [cleansX_0]; exact h25, fun t h1 h2 h3 => ?_⟩
      · refine RT_cleans hR (fun i a b => ?_) ?_ ?_ ?_ (fun _ z => ?_) ?_ ?_ ?_ ?_ ?_
        · rw [e, if_neg (by omega), if_pos ⟨by omega, by omega, x⟩]
        · rw [e, if_neg (by omega), if_neg (by omega)]
        · rw [e, if_neg (by omega), if_neg (by omega)]
        · rw [e, if_neg (by omega), if_neg (by omega), r10, cleansX_v, if_neg (by omega)]
        · rw [cleansX_0, h25] at z
          exact absurd z (by decide)
        · rw [cleansX_v, if_pos ⟨rfl, Or.inl rfl⟩]
        · rw [cleansX_v, if_pos ⟨rfl, Or.inr (Or.inl rfl)⟩]
        · rw [cleansX_v, if_pos ⟨rfl, Or.inr (Or.inr rfl)⟩]
        · rw [cleansX_v, if_neg (by omega)]
        · rw [cleansX_v, if_neg (by omega)]
      · rw [e, if_neg (by omega), if_neg (by omega), hs t (by omega) h2 h3, cleansX_v, if_neg (by omega)]
    · rw [if_neg x]
      have e2 : ∀ i, i ≠ k * 13 + 12 → bw (cln1 K k N) w i = bw N w i := fun i hi => by
        rw [e, if_neg hi, if_neg (fun z => x z.2.2)]
      refine ⟨RX_upd (t := k) hX (fun j hj => e2 j (by omega)) (fun _ _ _ _ => rfl) rfl ?_, h25, fun t h1 h2 h3 => ?_⟩
      · refine ⟨TD_frame r1 (fun i a b => e2 _ (by omega)), (e2 _ (by omega)).trans r9, (e2 _ (by omega)).trans r10, fun k => (e2 _ (by omega)).trans (r11 k), fun _ z => ?_, r16, r14, r2⟩
        rw [h25] at z
        exact absurd z (by decide)
      · rw [e2 _ (by omega), hs t (by omega) h2 h3]
  · have e : cln1 K k N = N := if_neg k3
    have e2 : sunX k X = X := by
      unfold sunX
      rw [if_neg (by rw [r16 k3]; decide)]
    rw [e, e2]
    exact ⟨hX, h25, fun t h1 => hs t (by omega)⟩
theorem RS_all {K X : Cel} {N : Pl} {w : Nat} (hw : w < 64) (h : RS K X (bw N w) 0) : ∀ n : Nat, n ≤ (K 0 11).toNat → RS K (upN sunX 0 n X) (bw (upN (cln1 K) 0 n N) w) (n : Int)
  | 0, _ => h
  | n + 1, hn => by
    rw [upN_s, upN_s, Int.zero_add]
    exact RS_step hw (RS_all hw h n (by omega)) (by omega)
theorem RX_sunset {K X : Cel} {N : Pl} {w : Nat} (hw : w < 64) (hX : RX K X (bw N w)) (h25 : X 0 25 = 0) : RX K (sunsetX K X) (bw (clnN K N) w) ∧ (sunsetX K X) 0 24 = X 0 24 ∧ (sunsetX K X) 0 25 = 1 := by
  have e : ∀ q : Nat, q ≠ 0 → xput X 0 25 1 q = X q := fun q hq => xput_ne hq
  have e5 : xput X 0 25 1 0 25 = 1 := by rw [xput_v, if_pos ⟨rfl, rfl⟩]
  have h0 : RS K (xput X 0 25 1) (bw N w) 0 := by
    refine ⟨fun t a b => ?_, e5, fun t a b c => ?_⟩
    · obtain ⟨r1, r9, r10, r11, r12, r16, r14, r2⟩ := hX t a b
      unfold RT
      rw [e 13 (by decide), e 14 (by decide), e 16 (by decide), e 17 (by decide), e 18 (by decide), e 19 (by decide), e5]
      exact ⟨r1, r9, r10, r11, fun _ z => absurd z (by decide), r16, r14, r2⟩
    · obtain ⟨r1, r9, r10, r11, r12, r16, r14, r2⟩ := hX t a b
      rw [r12 c h25, e 16 (by decide)]
  have h1 := RS_all hw h0 _ (Nat.le_refl _)
  have su : ∀ n, (upN sunX 0 n (xput X 0 25 1)) 0 24 = X 0 24 := by
    intro n
    induction n with
    | zero =>
      show xput X 0 25 1 0 24 = X 0 24
      rw [xput_v, if_neg (by decide)]
    | succ n ih =>
      rw [upN_s]
      unfold sunX
      split
      · rw [cleansX_0]; exact ih
      · exact ih
  unfold sunsetX
  rw [if_neg (fun z => z h25)]
  exact ⟨h1.1, su _, h1.2.1⟩
/-! the beginning -/
theorem RX_beg {K : Cel} {o : Int} {W : Nat} {old : Pl} {w : Nat} (hw : w < 64) (hW : ∀ t : Nat, (t : Int) < K 0 11 → (W.testBit t = true ↔ (K 3 (t : Int) = 1 ∨ K 2 (t : Int) = 2))) (h11 : K 0 11 ≤ 12) : RX K (begX K o) (bw (bgF W 12 old) w) := by
  intro t h0 h1
  have hb : ∀ i : Int, 0 ≤ i → i < 13 → bw (bgF W 12 old) w (t * 13 + i) = (decide (i = 9) && W.testBit t.toNat) := fun i a b => by
    unfold bw bgF
    rw [if_pos (by omega), show (t * 13 + i) % 13 = i by omega, show (t * 13 + i) / 13 = t by omega]
    by_cases q : i = 9
    · subst q
      cases g : W.testBit t.toNat with
      | true => rw [if_pos ⟨rfl, by omega, rfl⟩, ones_bit hw]; rfl
      | false => rw [if_neg (fun z => absurd z.2.2 (by decide)), BitVec.getLsbD_zero]; rfl
    · rw [if_neg (fun z => q z.1), BitVec.getLsbD_zero, decide_eq_false q]
      rfl
  have hw2 := hW t.toNat (by omega)
  rw [show ((t.toNat : Nat) : Int) = t by omega] at hw2
  have x19 : begX K o 19 t = if 0 ≤ t ∧ t < K 0 11 ∧ (K 3 t = 1 ∨ K 2 t = 2) then 1 else 0 := rfl
  refine ⟨?_, ?_, ?_, fun _ => ?_, fun _ _ => ?_, fun _ => rfl, fun _ => rfl, fun k2 => ?_⟩
  · show TD _ (t * 13) 0 0
    exact TD_0 (fun i a b => by rw [hb i a (by omega), decide_eq_false (by omega)]; rfl)
  · rw [hb 9 (by omega) (by omega), x19]
    by_cases q : K 3 t = 1 ∨ K 2 t = 2
    · rw [if_pos ⟨h0, h1, q⟩, hw2.mpr q]; rfl
    · rw [if_neg (fun z => q z.2.2)]
      cases g : W.testBit t.toNat with
      | true => exact absurd (hw2.mp g) q
      | false => rfl
  · rw [hb 10 (by omega) (by omega)]; rfl
  · rw [hb 11 (by omega) (by omega)]; rfl
  · rw [hb 12 (by omega) (by omega)]; rfl
  · rw [x19, if_pos ⟨h0, h1, Or.inr k2⟩]; decide
/-! events and hours -/
def KNE (K : Cel) : Prop := ∀ e, 0 ≤ e → e < K 0 12 → K 8 e < 5 → K 9 e ≠ K 10 e
def evN (K : Cel) (p e : Int) (N : Pl) : Pl := if K 8 e = 9 then sprN K N (K 9 e) (K 10 e) (nsF K e).toNat (wayB (K 11 e)) else hapN K p N (K 8 e) (K 9 e) (K 10 e) (wayB (K 11 e))
def ehN (K : Cel) (p h e : Int) (N : Pl) : Pl := if K 7 e = h then evN K p e N else N
def hrN (K : Cel) (p h : Int) (N : Pl) : Pl := upN (ehN K p h) 0 (K 0 12).toNat (if h = 24 then clnN K N else N)
theorem wayB_bit {u : Int} {w : Nat} (hu : -1 ≤ u ∧ u ≤ 15) (h6 : u < 6 ∨ 10 ≤ u) (hw : w < 64) : (wayB u).getLsbD w = if u < 0 then true else if u < 10 then w.testBit u.toNat else !(w.testBit (u - 10).toNat) := by
  unfold wayB
  by_cases a : u < 0
  · rw [if_neg (by omega), if_neg (by omega), if_pos a, ones_bit hw]
  · rw [if_neg a]
    by_cases b : u < 10
    · rw [if_pos (by omega), if_pos b]
      have := oneB_bit u.toNat (by omega) w hw
      rw [show ((u.toNat : Nat) : Int) = u by omega] at this
      exact this
    · rw [if_neg (by omega), if_pos (by omega), if_neg b, BitVec.getLsbD_not, decide_eq_true hw, Bool.true_and]
      have := oneB_bit (u - 10).toNat (by omega) w hw
      rw [show (((u - 10).toNat : Nat) : Int) = u - 10 by omega] at this
      rw [this]
theorem src_ns {K : Cel} {e : Int} (he : 0 ≤ e ∧ e < K 0 12) (h9 : K 8 e = 9) : srcX K e = srcB (nsF K e).toNat ∧ (nsF K e).toNat ≤ 20 := by
  have g := srcNb K e.toNat
  unfold srcX nsF
  by_cases q : srcN K e.toNat < 20
  · rw [if_pos ⟨h9, q⟩, if_pos ⟨he.2, h9, q⟩]
    refine ⟨?_, by omega⟩
    unfold srcB
    rw [if_neg (by omega), show (srcN K e.toNat + 1).toNat - 1 = (srcN K e.toNat).toNat by omega]
  · rw [if_neg (fun z => q z.2), if_neg (fun z => q z.2.2)]
    exact ⟨rfl, by decide⟩
theorem RX_ev {K X : Cel} {N : Pl} {p h e : Int} {w : Nat} (hw : w < 64) (hK : KOK K) (hN : KNE K) (hX : RX K X (bw N w)) (he : 0 ≤ e ∧ e < K 0 12) (hp : p = if X 0 24 ≠ 0 then 6 else 0) : RX K (evX K (srcX K) (w : Int) h e X) (bw (ehN K p h e N) w) := by
  have hk := hK.2.2.2.2.2.2.2.2.2 e he.1 he.2
  have hk8 := hK.2.2.2.2.2.2.2.1 e
  have hk11 := hK.2.2.2.2.2.2.2.2.1 e
  have hso : (wayB (K 11 e)).getLsbD w = isSoB K e (w : Int) := wayB_bit hk11 hk.2.2.2 hw
  unfold evX ehN
  by_cases c : K 7 e = h
  · rw [if_pos c]
    have e1 : (if K 7 e = h ∧ isSoB K e (w : Int) = true then doesX K X (K 8 e) (K 9 e) (K 10 e) (srcX K e) else X) = if (wayB (K 11 e)).getLsbD w = true then doesX K X (K 8 e) (K 9 e) (K 10 e) (srcX K e) else X := by
      rw [hso]
      by_cases d : isSoB K e (w : Int) = true
      · rw [if_pos ⟨c, d⟩, if_pos d]
      · rw [if_neg (fun z => d z.2), if_neg d]
    rw [e1]
    unfold evN
    by_cases k9 : K 8 e = 9
    · rw [if_pos k9, (src_ns he k9).1, k9]
      exact RX_spr hw hX hk.1 (hk.2.2.1 k9) (src_ns he k9).2
    · rw [if_neg k9]
      exact RX_hap hw hK hX hk.1 (fun k5 => ⟨hk.2.1 k5, hN e he.1 he.2 k5⟩) (by omega) hp
  · rw [if_neg c, if_neg (fun z => c z.1)]
    exact hX
theorem RX_evs {K X : Cel} {N : Pl} {p h : Int} {w : Nat} (hw : w < 64) (hK : KOK K) (hN : KNE K) (hX : RX K X (bw N w)) (hp : p = if X 0 24 ≠ 0 then 6 else 0) : ∀ n : Nat, n ≤ (K 0 12).toNat → RX K (upN (evX K (srcX K) (w : Int) h) 0 n X) (bw (upN (ehN K p h) 0 n N) w)
  | 0, _ => hX
  | n + 1, hn => by
    rw [upN_s, upN_s, Int.zero_add]
    exact RX_ev hw hK hN (RX_evs hw hK hN hX hp n (by omega)) ⟨by omega, by omega⟩ (by rw [evN_0]; exact hp)
def Eve (X : Cel) (h : Int) : Prop := X 0 25 = 0 ↔ h ≤ 24
theorem RX_hr {K X : Cel} {N : Pl} {p h : Int} {w : Nat} (hw : w < 64) (hK : KOK K) (hN : KNE K) (hX : RX K X (bw N w)) (hp : p = if X 0 24 ≠ 0 then 6 else 0) (hE : Eve X h) : RX K (goesX K (srcX K) (w : Int) h X) (bw (hrN K p h N) w) ∧ (goesX K (srcX K) (w : Int) h X) 0 24 = X 0 24 ∧ Eve (goesX K (srcX K) (w : Int) h X) (h + 1) := by
  have key : ∀ (Y : Cel) (M : Pl), RX K Y (bw M w) → Y 0 24 = X 0 24 → Eve Y (h + 1) → RX K (upN (evX K (srcX K) (w : Int) h) 0 (K 0 12).toNat Y) (bw (upN (ehN K p h) 0 (K 0 12).toNat M) w) ∧ (upN (evX K (srcX K) (w : Int) h) 0 (K 0 12).toNat Y) 0 24 = X 0 24 ∧ Eve (upN (evX K (srcX K) (w : Int) h) 0 (K 0 12).toNat Y) (h + 1) := fun Y M h1 h2 h3 => by
    refine ⟨RX_evs hw hK hN h1 (by rw [h2]; exact hp) _ (Nat.le_refl _), ?_, ?_⟩
    · rw [evN_0]; exact h2
    · unfold Eve at h3 ⊢
      rw [evN_0]; exact h3
  unfold goesX hrN
  unfold Eve at hE
  by_cases a : h < 24
  · rw [if_pos a, if_neg (by omega)]
    exact key X N hX rfl (by unfold Eve; omega)
  · rw [if_neg a]
    by_cases b : h = 24
    · rw [if_pos b]
      have h1 := RX_sunset hw hX (hE.mpr (by omega))
      exact key _ _ h1.1 h1.2.1 (by unfold Eve; rw [h1.2.2]; omega)
    · rw [if_neg b]
      have h0 : X 0 25 ≠ 0 := fun z => by have := hE.mp z; omega
      have e : sunsetX K X = X := if_pos h0
      rw [e]
      exact key X N hX rfl (by unfold Eve; omega)
theorem RX_hrs {K X : Cel} {N : Pl} {p a : Int} {w : Nat} (hw : w < 64) (hK : KOK K) (hN : KNE K) (hX : RX K X (bw N w)) (hp : p = if X 0 24 ≠ 0 then 6 else 0) (hE : Eve X a) : ∀ n : Nat, RX K (upN (goesX K (srcX K) (w : Int)) a n X) (bw (upN (hrN K p) a n N) w) ∧ (upN (goesX K (srcX K) (w : Int)) a n X) 0 24 = X 0 24 ∧ Eve (upN (goesX K (srcX K) (w : Int)) a n X) (a + (n : Int))
  | 0 => ⟨hX, rfl, by rw [show a + ((0 : Nat) : Int) = a by omega]; exact hE⟩
  | n + 1 => by
    obtain ⟨h1, h2, h3⟩ := RX_hrs hw hK hN hX hp hE n
    obtain ⟨g1, g2, g3⟩ := RX_hr (p := p) hw hK hN h1 (by rw [h2]; exact hp) h3
    rw [upN_s, upN_s]
    exact ⟨g1, g2.trans h2, by rw [show a + ((n + 1 : Nat) : Int) = a + (n : Int) + 1 by omega]; exact g3⟩
