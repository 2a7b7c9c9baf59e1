/-! A SMALL MACHINE OVER THE KIT'S: values are whole numbers (their int is Int32.ofInt), rows of 64 bits, and cells by their number; a memory gives each cell's numbers and longs; PW is W for it, PC a method's contract. -/
abbrev Mem : Type := (Nat → Int → Int) × (Nat → Int → BitVec 64)
abbrev PV : Type := Int ⊕ (BitVec 64 ⊕ Nat)
abbrev vi (z : Int) : PV := .inl z
abbrev vl (b : BitVec 64) : PV := .inr (.inl b)
abbrev vr (k : Nat) : PV := .inr (.inr k)
def rv (ad : Nat → Nat) : PV → Value
  | .inl z => .int (Int32.ofInt z)
  | .inr (.inl b) => .long (Int64.ofBitVec b)
  | .inr (.inr k) => .ref (ad k)
def pcat : PV → Nat
  | .inl _ => 1
  | .inr (.inl _) => 2
  | .inr (.inr _) => 1
theorem rv_cat (ad : Nat → Nat) (v : PV) : (rv ad v).category = pcat v := by
  rcases v with z | b | k <;> rfl
/-- an object (its class's place, its fields: a number, or the cell that it names), or a row (its length; 0 ints, 1 longs, 2 booleans) -/
abbrev Shp : Type := (Nat × List (Option Nat)) ⊕ (Nat × Nat)
def flds (ad : Nat → Nat) (μ : Mem) (k : Nat) : Nat → List (Option Nat) → List Value
  | _, [] => []
  | i, none :: r => .int (Int32.ofInt (μ.1 k (i : Int))) :: flds ad μ k (i + 1) r
  | i, some q :: r => .ref (ad q) :: flds ad μ k (i + 1) r
def cellE (ad : Nat → Nat) (cs : Nat → ClassId) (μ : Mem) (k : Nat) : Shp → va_E
  | .inl (ci, fs) => .inr (ci, flds ad μ k 0 fs)
  | .inr (n, t) => if t = 1 then .inl (cs 1, n, .inr (.inl (fun j : Nat => Int64.ofBitVec (μ.2 k (j : Int))))) else .inl (cs t, n, .inl (fun j : Nat => Int32.ofInt (μ.1 k (j : Int))))
def wld (ad : Nat → Nat) (cs : Nat → ClassId) (μ : Mem) : Nat → List Shp → va_W
  | _, [] => []
  | k, s :: r => (ad k, cellE ad cs μ k s) :: wld ad cs μ (k + 1) r
def ctys (cs : Nat → ClassId) : List (ClassId × FieldType) := [(cs 0, .int), (cs 1, .long), (cs 2, .boolean)]
theorem flds_len (ad : Nat → Nat) (μ : Mem) (k : Nat) (fs : List (Option Nat)) : ∀ i, (flds ad μ k i fs).length = fs.length := by
  induction fs with
  | nil => intro i; rfl
  | cons a r ih => intro i; cases a <;> simp [flds, ih]
theorem flds_get (ad : Nat → Nat) (μ : Mem) (k : Nat) (fs : List (Option Nat)) : ∀ (i j : Nat), (flds ad μ k i fs)[j]? = fs[j]?.map (fun o => match o with | none => Value.int (Int32.ofInt (μ.1 k ((i + j : Nat) : Int))) | some q => Value.ref (ad q)) := by
  induction fs with
  | nil => intro i j; simp [flds]
  | cons a r ih =>
    intro i j
    cases j with
    | zero => cases a <;> simp [flds]
    | succ j =>
      have e : i + 1 + j = i + (j + 1) := by omega
      cases a <;> simp only [flds, List.getElem?_cons_succ, ih, e]
theorem wld_get (ad : Nat → Nat) (cs : Nat → ClassId) (μ : Mem) (S : List Shp) : ∀ (i k : Nat), (wld ad cs μ i S)[k]? = S[k]?.map (fun s => (ad (i + k), cellE ad cs μ (i + k) s)) := by
  induction S with
  | nil => intro i k; simp [wld]
  | cons a r ih =>
    intro i k
    cases k with
    | zero => simp [wld]
    | succ k =>
      have e : i + 1 + k = i + (k + 1) := by omega
      simp only [wld, List.getElem?_cons_succ, ih, e]
theorem wld_at {ad : Nat → Nat} {cs : Nat → ClassId} {μ : Mem} {S : List Shp} {k : Nat} {s : Shp} (h : S[k]? = some s) : (wld ad cs μ 0 S)[k]? = some (ad k, cellE ad cs μ k s) := by
  rw [wld_get, h]; simp
/-- two memories that differ at most in one cell -/
def Off (k : Nat) (μ μ' : Mem) : Prop := ∀ q : Nat, q ≠ k → μ'.1 q = μ.1 q ∧ μ'.2 q = μ.2 q
theorem flds_off {ad : Nat → Nat} {μ μ' : Mem} {k : Nat} (h : μ'.1 k = μ.1 k) (fs : List (Option Nat)) : ∀ i, flds ad μ' k i fs = flds ad μ k i fs := by
  induction fs with
  | nil => intro i; rfl
  | cons a r ih => intro i; cases a <;> simp [flds, ih, h]
theorem cellE_off {ad : Nat → Nat} {cs : Nat → ClassId} {μ μ' : Mem} {k : Nat} (h : μ'.1 k = μ.1 k ∧ μ'.2 k = μ.2 k) (s : Shp) : cellE ad cs μ' k s = cellE ad cs μ k s := by
  rcases s with ⟨ci, fs⟩ | ⟨n, t⟩
  · simp only [cellE, flds_off h.1]
  · simp only [cellE, h.1, h.2]
theorem wld_set {ad : Nat → Nat} {cs : Nat → ClassId} {μ μ' : Mem} {S : List Shp} {k : Nat} {s : Shp} (h : S[k]? = some s) (hoff : Off k μ μ') : (wld ad cs μ 0 S).set k (ad k, cellE ad cs μ' k s) = wld ad cs μ' 0 S := by
  apply List.ext_getElem?
  intro j
  have hlen : k < (wld ad cs μ 0 S).length := (List.getElem?_eq_some_iff.mp (wld_at (ad := ad) (cs := cs) (μ := μ) h)).1
  by_cases hj : j = k
  · subst hj
    rw [List.getElem?_set_self hlen, wld_at h]
  · rw [List.getElem?_set_ne (Ne.symm hj), wld_get, wld_get]
    cases hs : S[j]? with
    | none => rfl
    | some x =>
      simp only [Option.map_some, Nat.zero_add]
      rw [cellE_off (hoff j hj)]
theorem wld_addr {ad : Nat → Nat} {cs : Nat → ClassId} {μ μ' : Mem} {S : List Shp} {k : Nat} {q : Nat × va_E} (h : (wld ad cs μ 0 S)[k]? = some q) : ∃ q', (wld ad cs μ' 0 S)[k]? = some q' ∧ q'.1 = q.1 := by
  rw [wld_get] at h
  cases hs : S[k]? with
  | none => rw [hs] at h; cases h
  | some x =>
    rw [hs] at h
    simp only [Option.map_some, Option.some.injEq] at h
    subst h
    exact ⟨_, wld_at hs, by simp⟩
theorem wld_D {ad : Nat → Nat} {cs : Nat → ClassId} {μ μ' : Mem} {S : List Shp} {A : Nat → Prop} (h : va_D A (wld ad cs μ 0 S)) : va_D A (wld ad cs μ' 0 S) := by
  refine ⟨fun i j p q hi hj hpq => ?_, fun k q hk => ?_⟩
  · obtain ⟨p', h1, e1⟩ := wld_addr (μ' := μ) hi
    obtain ⟨q', h2, e2⟩ := wld_addr (μ' := μ) hj
    exact h.1 i j p' q' h1 h2 (by rw [e1, e2]; exact hpq)
  · obtain ⟨q', h1, e1⟩ := wld_addr (μ' := μ) hk
    rw [← e1]; exact h.2 k q' h1
theorem wld_A {ad : Nat → Nat} {cs : Nat → ClassId} {μ μ' : Mem} {S : List Shp} {sz : Nat} : va_A (wld ad cs μ 0 S) sz = va_A (wld ad cs μ' 0 S) sz := by
  funext q
  apply propext
  constructor
  · rintro (⟨k, e, h⟩ | h)
    · obtain ⟨⟨a, e'⟩, h1, e1⟩ := wld_addr (μ' := μ') h
      dsimp only at e1
      subst e1
      exact Or.inl ⟨k, e', h1⟩
    · exact Or.inr h
  · rintro (⟨k, e, h⟩ | h)
    · obtain ⟨⟨a, e'⟩, h1, e1⟩ := wld_addr (μ' := μ) h
      dsimp only at e1
      subst e1
      exact Or.inl ⟨k, e', h1⟩
    · exact Or.inr h
/-- a method: its name, its code, its locals, what it answers -/
abbrev Mth : Type := MethodName × ByteArray × Nat × Option FieldType
-- words of the nest: a method link, a field link
/-- the tables' words that last over a warming -/
def tblG : List Cond := lw_tbl.filter (fun w => goodWord w)
theorem tblG_in {w : Cond} (h : w ∈ tblG) : w ∈ lw_tbl := (List.mem_filter.mp h).1
theorem tblG_ok {w : Cond} (h : w ∈ lw_tbl) (hg : goodWord w = true) : w ∈ tblG := List.mem_filter.mpr ⟨h, hg⟩
theorem tblG_good : ∀ w ∈ tblG, (w.onTables && w.keeps) = true ∨ ∃ ty, w = .arrayClass ty := fun w h => good_of_word (List.mem_filter.mp h).2
def nestM : List (String × Nat × MethodName × String) := [("KitchenTouch", 11, ⟨"KitchenTouch$Store", "<init>", "()V"⟩, "KitchenTouch"), ("KitchenTouch$Store", 50, ⟨"KitchenTouch", "hasSecond", "(I)Z"⟩, "KitchenTouch"), ("KitchenTouch$HouseReader", 73, ⟨"KitchenTouch", "hasSecond", "(I)Z"⟩, "KitchenTouch"), ("KitchenTouch$Story", 93, ⟨"KitchenTouch", "waysToldBy", "(I)J"⟩, "KitchenTouch"), ("KitchenTouch$Story", 141, ⟨"KitchenTouch", "isVessel", "(I)Z"⟩, "KitchenTouch"), ("KitchenTouch$Story", 155, ⟨"KitchenTouch", "isFood", "(I)Z"⟩, "KitchenTouch")]
def nestF : List (String × Nat × String × String × String × String) := [("KitchenTouch$Store", 70, "KitchenTouch", "IS_ONE", "[J", "KitchenTouch"), ("KitchenTouch$Doubt", 77, "KitchenTouch", "IS_ONE", "[J", "KitchenTouch")]
def Nst (U : State) : Prop := (∀ q ∈ nestM, va_Nw (.methodLinkNest q.1 q.2.1 q.2.2.1 q.2.2.2) U) ∧ ∀ q ∈ nestF, va_Nw (.fieldLinkNest q.1 q.2.1 q.2.2.1 q.2.2.2.1 q.2.2.2.2.1 q.2.2.2.2.2) U
theorem Nst.warm {s U : State} (hW : s.WarmedH U.vm) (h : Nst s) : Nst U := ⟨fun q hq => va_Nw.warmM hW (h.1 q hq), fun q hq => va_Nw.warmF hW (h.2 q hq)⟩
theorem Nst.same {u U : State} (hv : u.vm = U.vm) (h : Nst u) : Nst U := ⟨fun q hq => va_Nw.same rfl hv (h.1 q hq), fun q hq => va_Nw.same rfl hv (h.2 q hq)⟩
/-- the six rows of bits of the class's own static row -/
def oneB (j : Int) : BitVec 64 := if j = 0 then 0xAAAAAAAAAAAAAAAA#64 else if j = 1 then 0xCCCCCCCCCCCCCCCC#64 else if j = 2 then 0xF0F0F0F0F0F0F0F0#64 else if j = 3 then 0xFF00FF00FF00FF00#64 else if j = 4 then 0xFFFF0000FFFF0000#64 else 0xFFFFFFFF00000000#64
/-- the static row's cell is number 99 -/
def Stc (ad : Nat → Nat) (A : Nat → Prop) (U : State) (H : Heap) : Prop := va_Z "KitchenTouch" "IS_ONE" "[J" (.ref (ad 99)) A U H ∧ va_T .long (ad 99) 6 (fun j : Nat => .long (Int64.ofBitVec (oneB (j : Int)))) A U H
def rm (d : Nat) : Room := { frames := d, cells := 0, slots := 0, locals := 64 * d }
def Cxt (Y : Mth) (p : Program) (s : State) (args : Array Value) (m : MethodId) (meth : Method) (c : Code) : Prop := p.tables.exec = Jvm.exec ∧ c.code = Y.2.1 ∧ c.maxLocals = Y.2.2.1 ∧ meth.sig.returnType = Y.2.2.2 ∧ meth.locks = false ∧ s.vm.findClass Y.1.cls = some m.cls ∧ (∀ w ∈ tblG, w.before args s = true) ∧ Nst s
def Wd (S : List Shp) (D : va_G) (cs : Nat → ClassId) (ad : Nat → Nat) (A : Nat → Prop) (s : State) (H : Heap) (locs : List Loc) (μ : Mem) : Prop := (∀ q, s.heap.size ≤ q → A q) ∧ va_S A s.heap H locs ∧ va_K D vwCl (ctys cs) s ∧ va_P D vwCl (wld ad cs μ 0 S) H ∧ va_D A (wld ad cs μ 0 S) ∧ Stc ad A s s.heap
def QC (S : List Shp) (D : va_G) (cs : Nat → ClassId) (ad : Nat → Nat) (A : Nat → Prop) (Q : Option PV → Mem → Prop) : Array Value → State → Outcome → State → Prop := fun _ st oc t => (∃ (r : Option PV) (μ' : Mem), oc = .returned (r.map (rv ad)) ∧ Q r μ' ∧ va_P D vwCl (wld ad cs μ' 0 S) t.heap ∧ va_K D vwCl (ctys cs) t) ∧ va_F A st t
def rl (ad : Nat → Nat) (q : Nat × PV) : Nat × Value := (q.1, rv ad q.2)
def PW (S : List Shp) (d : Nat) (Y : Mth) (pc : Nat) (L : List (Nat × PV)) (st : List PV) (μ : Mem) (Q : Option PV → Mem → Prop) : Prop :=
  ∀ (p : Program) (l : Launch) (e : Env) (s : State) (m : MethodId) (args : Array Value) (below : List Frame) (meth : Method) (c : Code) (D : va_G) (cs : Nat → ClassId) (ad : Nat → Nat) (A : Nat → Prop) (H : Heap) (locs : List Loc) (ls : Array Slot),
    Cxt Y p s args m meth c → Wd S D cs ad A s H locs μ → lv_has ls Y.2.2.1 (L.map (rl ad)) → W p l e (rm d) s m args below meth c H locs 0 0 (MQ below (QC S D cs ad A Q) args s 0 0 A) (F0 m pc ls (st.map (rv ad)))
def PC (S : List Shp) (d : Nat) (Y : Mth) (as : List PV) (μ : Mem) (Q : Option PV → Mem → Prop) : Prop :=
  ∀ (l : Launch) (D : va_G) (cs : Nat → ClassId) (ad : Nat → Nat) (sz : Nat), Met l Y.1 (.code Y.1 Y.2.1 Y.2.2.1 Y.2.2.2 :: tblG) (rm d)
    (va_Pc (as.map (rv ad)) (fun U => U.heap.size = sz ∧ va_P D vwCl (wld ad cs μ 0 S) U.heap ∧ va_K D vwCl (ctys cs) U ∧ va_D (fun _ => True) (wld ad cs μ 0 S) ∧ Nst U ∧ Stc ad (va_A (wld ad cs μ 0 S) sz) U U.heap))
    (QC S D cs ad (va_A (wld ad cs μ 0 S) sz) Q) 0 0 (va_A (wld ad cs μ 0 S) sz)
def pargs : Nat → List PV → List (Nat × PV)
  | _, [] => []
  | i, v :: vs => (i, v) :: pargs (if pcat v = 2 then i + 2 else i + 1) vs
theorem rl_args (ad : Nat → Nat) : ∀ (as : List PV) (i : Nat), lv_args i (as.map (rv ad)) = (pargs i as).map (rl ad)
  | [], _ => rfl
  | v :: vs, i => by
    show (i, rv ad v) :: lv_args (if (rv ad v).category = 2 then i + 2 else i + 1) (vs.map (rv ad)) = (i, rv ad v) :: (pargs (if pcat v = 2 then i + 2 else i + 1) vs).map (rl ad)
    rw [rv_cat, rl_args ad vs]
def pwide : List PV → Nat
  | [] => 0
  | v :: vs => pcat v + pwide vs
theorem pwide_sl (ad : Nat → Nat) : ∀ as : List PV, (lg_sl (as.map (rv ad))).length = pwide as
  | [] => rfl
  | v :: vs => by
    have h := pwide_sl ad vs
    unfold lg_sl at h ⊢
    rw [List.map_cons, List.flatMap_cons, List.length_append, h, rv_cat]
    rcases v with z | b | k <;> simp [pcat, pwide]
theorem pwide_sum (ad : Nat → Nat) : ∀ as : List PV, ((as.map (rv ad)).map fun v => v.category).sum = pwide as
  | [] => rfl
  | v :: vs => by
    rw [List.map_cons, List.map_cons, List.sum_cons, pwide_sum ad vs, rv_cat]; rfl
