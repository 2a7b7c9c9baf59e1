/-! A WAY'S COURSE, as the model does it: X has the cells 13 degree, 14 source, 16 isWashed, 17 isBroken, 18 isApart, 19 isWet, and (0, 24) isOther, (0, 25) isEvening; K the cells of things, laws, events (kd) -/
def upN {α : Type} (f : Int → α → α) (a : Int) : Nat → α → α
  | 0, x => x
  | n + 1, x => f (a + (n : Int)) (upN f a n x)
theorem upN_0 {α : Type} (f : Int → α → α) (a : Int) (x : α) : upN f a 0 x = x := rfl
theorem upN_s {α : Type} (f : Int → α → α) (a : Int) (n : Nat) (x : α) : upN f a (n + 1) x = f (a + (n : Int)) (upN f a n x) := rfl
theorem upN_inv {α : Type} (P : α → Prop) (f : Int → α → α) (a : Int) (x : α) (h0 : P x) (N : Nat) (hs : ∀ (n : Nat) (y : α), n < N → P y → P (f (a + (n : Int)) y)) : ∀ n, n ≤ N → P (upN f a n x)
  | 0, _ => h0
  | n + 1, h => hs n _ (by omega) (upN_inv P f a x h0 N hs n (by omega))
theorem iteP {α : Type} {P : α → Prop} {c : Prop} [Decidable c] {a b : α} (ha : c → P a) (hb : ¬ c → P b) : P (if c then a else b) := by
  by_cases h : c
  · rw [if_pos h]; exact ha h
  · rw [if_neg h]; exact hb h
def setsX (X : Cel) (t d : Int) : Cel := xput (if X 13 t = 0 ∨ d < X 13 t then xput X 13 t d else X) 16 t 0
def cleansX (X : Cel) (t : Int) : Cel := xput (xput (xput X 13 t 0) 14 t 0) 16 t 0
def thenX (K : Cel) (t d : Int) : Int := if K 2 t = 2 then 1 else if d < 4 then d + 1 else 4
def givesX (K X : Cel) (t d fr : Int) : Cel :=
  if d = 0 ∨ K 5 (if X 0 24 ≠ 0 then 6 + K 2 t else K 2 t) < d ∨ X 17 t ≠ 0 ∨ (K 2 t = 1 ∧ X 19 t = 0) then X
  else setsX (if X 13 t = 0 ∨ thenX K t d < X 13 t then xput X 14 t fr else X) t (thenX K t d)
def washesX (K X : Cel) (a : Int) : Cel :=
  let X1 := if K 2 a = 0 ∨ K 2 a = 5 then cleansX X a else X
  if K 2 a = 3 ∧ 0 < X1 13 a then xput X1 16 a (if X1 0 25 = 0 then 1 else 0) else X1
def joinX (K : Cel) (t : Int) (X : Cel) : Cel :=
  if K 2 t ≠ 5 ∨ X 18 t ≠ 0 ∨ X 17 t ≠ 0 ∨ X 17 (t - 1) ≠ 0 ∨ X 13 t = X 13 (t - 1) then X
  else if X 13 (t - 1) = 0 ∨ (X 13 t ≠ 0 ∧ X 13 t < X 13 (t - 1)) then setsX (xput X 14 (t - 1) (X 14 t)) (t - 1) (X 13 t)
  else setsX (xput X 14 t (X 14 (t - 1))) t (X 13 (t - 1))
def joinsX (K X : Cel) : Cel := upN (joinX K) 1 (K 0 11 - 1).toNat X
def actX (K X : Cel) (k a b fr : Int) : Cel :=
  if k = 0 then givesX K (givesX K X a (X 13 b) (X 14 b)) b (X 13 a) (X 14 a)
  else if k = 1 ∨ k = 3 then givesX K X a (X 13 b) (X 14 b)
  else if k = 2 then (if X 13 a = 1 then givesX K (if X 13 b = 1 then givesX K X a (X 13 b) (X 14 b) else X) b (X 13 a) (X 14 a) else (if X 13 b = 1 then givesX K X a (X 13 b) (X 14 b) else X))
  else if k = 4 then (if K 6 0 = 1 then givesX K (givesX K X b (X 13 a) (X 14 a)) a (X 13 b) (X 14 b) else givesX K X b (X 13 a) (X 14 a))
  else if k = 5 then washesX K X a
  else if k = 6 then (if K 2 a = 0 ∨ K 2 a = 5 then xput (cleansX X a) 17 a 1 else X)
  else if k = 7 then xput X 18 a (if K 2 a = 5 ∨ X 18 a ≠ 0 then 1 else 0)
  else if k = 8 then xput X 19 a 1
  else setsX (if X 13 a = 0 ∨ b < X 13 a then xput X 14 a fr else X) a b
def doesX (K X : Cel) (k a b fr : Int) : Cel := joinsX K (actX K X k a b fr)
def sunX (t : Int) (X : Cel) : Cel := if X 16 t ≠ 0 then cleansX X t else X
def sunsetX (K X : Cel) : Cel := if X 0 25 ≠ 0 then X else upN sunX 0 (K 0 11).toNat (xput X 0 25 1)
/-- was an event, in a way (0 .. 63) -/
def isSoB (K : Cel) (e w : Int) : Bool := if K 11 e < 0 then true else if K 11 e < 10 then w.toNat.testBit (K 11 e).toNat else !(w.toNat.testBit (K 11 e - 10).toNat)
def evX (K : Cel) (S : Int → Int) (w h : Int) (e : Int) (X : Cel) : Cel := if K 7 e = h ∧ isSoB K e w = true then doesX K X (K 8 e) (K 9 e) (K 10 e) (S e) else X
def goesX (K : Cel) (S : Int → Int) (w h : Int) (X : Cel) : Cel := upN (evX K S w h) 0 (K 0 12).toNat (if h < 24 then X else sunsetX K X)
/-- a way's beginning -/
def begX (K : Cel) (o : Int) : Cel := fun q => if q = 0 then (fun j => if j = 24 then o else 0) else if q = 19 then (fun t => if 0 ≤ t ∧ t < K 0 11 ∧ (K 3 t = 1 ∨ K 2 t = 2) then 1 else 0) else fun _ => 0
def runsX (K : Cel) (S : Int → Int) (w till o : Int) : Cel := upN (goesX K S w) 0 (till + 1).toNat (begX K o)
/-- the number of sources told ahead of an event -/
def srcN (K : Cel) : Nat → Int
  | 0 => 0
  | n + 1 => srcN K n + (if K 8 (n : Int) = 9 then 1 else 0)
def srcX (K : Cel) (e : Int) : Int := if K 8 e = 9 ∧ srcN K e.toNat < 20 then 2 ^ (srcN K e.toNat).toNat else 0
/-- what is asked of the things, laws and events -/
def KOK (K : Cel) : Prop := (0 ≤ K 0 11 ∧ K 0 11 ≤ 12) ∧ (0 ≤ K 0 12 ∧ K 0 12 ≤ 60) ∧ (∀ j, 0 ≤ K 2 j ∧ K 2 j ≤ 5) ∧ (∀ j, K 3 j = 0 ∨ K 3 j = 1) ∧ (∀ j, 0 ≤ K 5 j ∧ K 5 j ≤ 4) ∧ (∀ j, 0 ≤ K 6 j ∧ K 6 j ≤ 3) ∧ (∀ j, 0 ≤ K 7 j ∧ K 7 j ≤ 47) ∧ (∀ j, 0 ≤ K 8 j ∧ K 8 j ≤ 9) ∧ (∀ j, -1 ≤ K 11 j ∧ K 11 j ≤ 15) ∧
  (∀ e, 0 ≤ e → e < K 0 12 → (0 ≤ K 9 e ∧ K 9 e < K 0 11) ∧ (K 8 e < 5 → 0 ≤ K 10 e ∧ K 10 e < K 0 11) ∧ (K 8 e = 9 → 1 ≤ K 10 e ∧ K 10 e ≤ 4) ∧ (K 11 e < 6 ∨ 10 ≤ K 11 e))
def XOK (X : Cel) : Prop := (∀ j, 0 ≤ X 13 j ∧ X 13 j ≤ 4) ∧ (∀ j, X 16 j = 0 ∨ X 16 j = 1) ∧ (∀ j, X 17 j = 0 ∨ X 17 j = 1) ∧ (∀ j, X 18 j = 0 ∨ X 18 j = 1) ∧ (∀ j, X 19 j = 0 ∨ X 19 j = 1) ∧ (X 0 24 = 0 ∨ X 0 24 = 1) ∧ (X 0 25 = 0 ∨ X 0 25 = 1)
theorem XOK_put {X : Cel} (h : XOK X) {q : Nat} {j v : Int} (hq : (q = 13 ∧ 0 ≤ v ∧ v ≤ 4) ∨ q = 14 ∨ ((q = 16 ∨ q = 17 ∨ q = 18 ∨ q = 19) ∧ (v = 0 ∨ v = 1)) ∨ (q = 0 ∧ (v = 0 ∨ v = 1))) : XOK (xput X q j v) := by
  obtain ⟨h1, h2, h3, h4, h5, h6, h7⟩ := h
  have key : ∀ (q' : Nat) (i : Int), xput X q j v q' i = if q' = q ∧ i = j then v else X q' i := by
    intro q' i
    unfold xput
    by_cases a : q' = q
    · subst a; simp
    · simp [a]
  refine ⟨fun i => ?_, fun i => ?_, fun i => ?_, fun i => ?_, fun i => ?_, ?_, ?_⟩ <;> rw [key] <;> split
  · omega
  · exact h1 i
  · omega
  · exact h2 i
  · omega
  · exact h3 i
  · omega
  · exact h4 i
  · omega
  · exact h5 i
  · omega
  · exact h6
  · omega
  · exact h7
theorem XOK_sets {X : Cel} (h : XOK X) {t d : Int} (hd : 0 ≤ d ∧ d ≤ 4) : XOK (setsX X t d) := by
  unfold setsX
  refine XOK_put ?_ (by omega)
  split
  · exact XOK_put h (by omega)
  · exact h
theorem XOK_cleans {X : Cel} (h : XOK X) {t : Int} : XOK (cleansX X t) := XOK_put (XOK_put (XOK_put h (by omega)) (by omega)) (by omega)
theorem thenX_in {K : Cel} {t d : Int} (hd : 0 ≤ d ∧ d ≤ 4) : 1 ≤ thenX K t d ∧ thenX K t d ≤ 4 := by
  unfold thenX
  split
  · omega
  · split <;> omega
theorem XOK_gives {K X : Cel} (h : XOK X) {t d fr : Int} (hd : 0 ≤ d ∧ d ≤ 4) : XOK (givesX K X t d fr) := by
  have := thenX_in (K := K) (t := t) hd
  unfold givesX
  refine iteP (fun _ => h) (fun _ => XOK_sets ?_ (by omega))
  exact iteP (fun _ => XOK_put h (by omega)) (fun _ => h)
theorem XOK_washes {K X : Cel} (h : XOK X) {a : Int} : XOK (washesX K X a) := by
  have h1 : XOK (if K 2 a = 0 ∨ K 2 a = 5 then cleansX X a else X) := by
    split
    · exact XOK_cleans h
    · exact h
  unfold washesX
  dsimp only
  generalize (if K 2 a = 0 ∨ K 2 a = 5 then cleansX X a else X) = X1 at h1 ⊢
  refine iteP (fun _ => XOK_put h1 ?_) (fun _ => h1)
  split <;> omega
theorem XOK_join {K X : Cel} (h : XOK X) {t : Int} : XOK (joinX K t X) := by
  unfold joinX
  split
  · exact h
  · split
    · exact XOK_sets (XOK_put h (by omega)) (h.1 t)
    · exact XOK_sets (XOK_put h (by omega)) (h.1 (t - 1))
theorem XOK_joinN {K X : Cel} (h : XOK X) (n : Nat) : XOK (upN (joinX K) 1 n X) := upN_inv XOK _ _ _ h n (fun m y _ hy => XOK_join hy) n (Nat.le_refl n)
theorem XOK_joins {K X : Cel} (h : XOK X) : XOK (joinsX K X) := XOK_joinN h _
theorem XOK_act {K X : Cel} (h : XOK X) {k a b fr : Int} (hk : 0 ≤ k ∧ k ≤ 9) (hb : k = 9 → 1 ≤ b ∧ b ≤ 4) : XOK (actX K X k a b fr) := by
  have ha := h.1 a
  have hb2 := h.1 b
  unfold actX
  split
  · exact XOK_gives (XOK_gives h hb2) ha
  · split
    · exact XOK_gives h hb2
    · split
      · split
        · refine XOK_gives ?_ ha
          split
          · exact XOK_gives h hb2
          · exact h
        · split
          · exact XOK_gives h hb2
          · exact h
      · split
        · split
          · exact XOK_gives (XOK_gives h ha) hb2
          · exact XOK_gives h ha
        · split
          · exact XOK_washes h
          · split
            · split
              · exact XOK_put (XOK_cleans h) (by omega)
              · exact h
            · split
              · refine XOK_put h ?_
                split <;> omega
              · split
                · exact XOK_put h (by omega)
                · refine XOK_sets ?_ (by omega)
                  split
                  · exact XOK_put h (by omega)
                  · exact h
theorem XOK_does {K X : Cel} (h : XOK X) {k a b fr : Int} (hk : 0 ≤ k ∧ k ≤ 9) (hb : k = 9 → 1 ≤ b ∧ b ≤ 4) : XOK (doesX K X k a b fr) := XOK_joins (XOK_act h hk hb)
theorem XOK_sun {X : Cel} (h : XOK X) {t : Int} : XOK (sunX t X) := by
  unfold sunX
  split
  · exact XOK_cleans h
  · exact h
theorem XOK_sunset {K X : Cel} (h : XOK X) : XOK (sunsetX K X) := by
  unfold sunsetX
  split
  · exact h
  · exact upN_inv XOK _ _ _ (XOK_put h (by omega)) _ (fun m y _ hy => XOK_sun hy) _ (Nat.le_refl _)
theorem XOK_ev {K X : Cel} {S : Int → Int} {w h e : Int} (hX : XOK X) (hK : KOK K) (he : 0 ≤ e ∧ e < K 0 12) : XOK (evX K S w h e X) := by
  unfold evX
  refine iteP (fun _ => XOK_does hX (hK.2.2.2.2.2.2.2.1 e) (fun h9 => ?_)) (fun _ => hX)
  exact (hK.2.2.2.2.2.2.2.2.2 e he.1 he.2).2.2.1 h9
theorem XOK_goesN {K X : Cel} {S : Int → Int} {w h : Int} (hX : XOK X) (hK : KOK K) : ∀ n : Nat, n ≤ (K 0 12).toNat → XOK (upN (evX K S w h) 0 n X)
  | 0, _ => hX
  | n + 1, hn => XOK_ev (XOK_goesN hX hK n (by omega)) hK ⟨by omega, by omega⟩
theorem XOK_goes {K X : Cel} {S : Int → Int} {w h : Int} (hX : XOK X) (hK : KOK K) : XOK (goesX K S w h X) := by
  unfold goesX
  refine XOK_goesN ?_ hK _ (Nat.le_refl _)
  exact iteP (fun _ => hX) (fun _ => XOK_sunset hX)
theorem XOK_beg {K : Cel} {o : Int} (ho : o = 0 ∨ o = 1) : XOK (begX K o) := by
  refine ⟨fun j => ⟨Int.le_refl 0, by show (0 : Int) ≤ 4; omega⟩, fun j => Or.inl rfl, fun j => Or.inl rfl, fun j => Or.inl rfl, fun j => ?_, ho, Or.inl rfl⟩
  show (if _ then (1 : Int) else 0) = 0 ∨ (if _ then (1 : Int) else 0) = 1
  split <;> omega
theorem XOK_runsN {K : Cel} {S : Int → Int} {w o : Int} (hK : KOK K) (ho : o = 0 ∨ o = 1) : ∀ n : Nat, XOK (upN (goesX K S w) 0 n (begX K o))
  | 0 => XOK_beg ho
  | n + 1 => XOK_goes (XOK_runsN hK ho n) hK
theorem srcN_in (K : Cel) : ∀ n : Nat, 0 ≤ srcN K n ∧ srcN K n ≤ n
  | 0 => ⟨Int.le_refl 0, Int.le_refl 0⟩
  | n + 1 => by
    have h := srcN_in K n
    simp only [srcN]
    split <;> omega
