/-! GROWING WORLDS: what a constructor does, over a list of cells -/
def rmC (d n k : Nat) : Room := { frames := d, cells := n, slots := k, locals := 64 * d }
def NQ (D : va_G) (cs : Nat → ClassId) (A : Nat → Prop) (Q : va_W → Prop) : Array Value → State → Outcome → State → Prop := va_Qv Q (fun u t => va_P D vwCl u t.heap ∧ va_K D vwCl (ctys cs) t ∧ va_D A u) A
def NWd (ws : va_W) (D : va_G) (cs : Nat → ClassId) (A : Nat → Prop) (s : State) (H : Heap) (locs : List Loc) : Prop := (∀ q, s.heap.size ≤ q → A q) ∧ va_S A s.heap H locs ∧ va_K D vwCl (ctys cs) s ∧ va_P D vwCl ws H ∧ va_D A ws
def NW (D : va_G) (cs : Nat → ClassId) (d MC MS : Nat) (Y : Mth) (pc : Nat) (L : List (Nat × Value)) (st : List Value) (ws : va_W) (n k : Nat) (Q : va_W → Prop) : Prop :=
  ∀ (p : Program) (l : Launch) (e : Env) (s : State) (m : MethodId) (args : Array Value) (below : List Frame) (meth : Method) (c : Code) (A : Nat → Prop) (H : Heap) (locs : List Loc) (ls : Array Slot),
    Cxt Y p s args m meth c → meth.name = "<init>" → NWd ws D cs A s H locs → lv_has ls Y.2.2.1 L → W p l e (rmC d MC MS) s m args below meth c H locs n k (MQ below (NQ D cs A Q) args s MC MS A) (F0 m pc ls st)
def NC (D : va_G) (cs : Nat → ClassId) (d MC MS : Nat) (Y : Mth) (as : List Value) (ws : va_W) (Q : va_W → Prop) : Prop :=
  ∀ (l : Launch) (sz : Nat), Met l Y.1 (.code Y.1 Y.2.1 Y.2.2.1 Y.2.2.2 :: tblG) (rmC d MC MS)
    (va_Pc as (fun U => U.heap.size = sz ∧ va_P D vwCl ws U.heap ∧ va_K D vwCl (ctys cs) U ∧ va_D (fun _ => True) ws ∧ Nst U))
    (NQ D cs (va_A ws sz) Q) MC MS (va_A ws sz)
theorem NC.of {D : va_G} {cs : Nat → ClassId} {d MC MS : Nat} {Y : Mth} {as : List Value} {ws : va_W} {Q : va_W → Prop} (hy : plainName Y.1.cls = true) (hn : Y.1.name = "<init>") (hw : (lg_sl as).length ≤ Y.2.2.1) (h : NW D cs d MC MS Y 0 (lv_args 0 as) [] ws 0 0 Q) : NC D cs d MC MS Y as ws Q := by
  intro l sz
  refine Met.ofW (cc := Y.2.1) (maxL := Y.2.2.1) (ret := Y.2.2.2) hy rfl ?_
  intro p e s m args below meth c s₁ B hml hv
  obtain ⟨rfl, hsz, hP, hK, hD0, hN⟩ := hv
  have hx := B.exec
  have hb := B.bytes
  have hr := B.returns
  have hts := atoms_spec (ws := .code Y.1 Y.2.1 Y.2.2.1 Y.2.2.2 :: tblG) B.pre
  have hown : s.vm.findClass Y.1.cls = some m.cls := findClass_of_methodNamed B.named
  have hin : meth.name = Y.1.name := (name_of_methodNamed B.named B.method).1
  have hlocks := B.notSynchronized
  subst hsz
  have hD := hD0.self (sz := s.heap.size)
  have hl := lv_entry as (n := Y.2.2.1) hw
  rw [lg_entry_eq]
  exact h p l e s m _ below meth c _ s.heap [] _ ⟨hx, hb, hml, hr, hlocks, hown, fun w hw => hts w (List.mem_cons_of_mem _ hw), hN⟩ (hin.trans hn) ⟨fun q hq => Or.inr hq, va_S.rf, hK, hP, hD⟩ hl
section NWR
variable {D : va_G} {cs : Nat → ClassId} {d MC MS : Nat} {Y : Mth} {pc : Nat} {L : List (Nat × Value)} {st : List Value} {ws : va_W} {n k : Nat} {Q : va_W → Prop}
theorem N_w {ws' : va_W} {n' k' : Nat} (e : ws = ws') (e2 : n = n') (e3 : k = k') (h : NW D cs d MC MS Y pc L st ws' n' k' Q) : NW D cs d MC MS Y pc L st ws n k Q := by
  subst e; subst e2; subst e3; exact h
theorem N_aload_n {kf : Fin 4} {i x : Nat} (hd : decode Y.2.1 pc = .ok (.aload_n kf, 1)) (hi : (kf : Nat) = i) (k0 : Nat) (hk : L[k0]? = some (i, .ref x)) (kk : NW D cs d MC MS Y (pc + 1) L (.ref x :: st) ws n k Q) : NW D cs d MC MS Y pc L st ws n k Q := by
  intro p l e s m args below meth c A H locs ls C hin X hl
  obtain ⟨hx, hb, hml, hret, hlocks, hown, hts, hN⟩ := id C
  obtain ⟨hA, hS, hK, hP, hD⟩ := id X
  exact lv_aload_n hx hb hd hi (lv_at hl k0 hk) (kk p l e s m args below meth c A H locs ls C hin X hl)
theorem N_iload_n {kf : Fin 4} {i : Nat} {x : Int32} (hd : decode Y.2.1 pc = .ok (.iload_n kf, 1)) (hi : (kf : Nat) = i) (k0 : Nat) (hk : L[k0]? = some (i, .int x)) (kk : NW D cs d MC MS Y (pc + 1) L (.int x :: st) ws n k Q) : NW D cs d MC MS Y pc L st ws n k Q := by
  intro p l e s m args below meth c A H locs ls C hin X hl
  obtain ⟨hx, hb, hml, hret, hlocks, hown, hts, hN⟩ := id C
  obtain ⟨hA, hS, hK, hP, hD⟩ := id X
  exact lv_iload_n hx hb hd hi (lv_at hl k0 hk) (kk p l e s m args below meth c A H locs ls C hin X hl)
theorem N_dup {v : Value} (hd : decode Y.2.1 pc = .ok (.dup, 1)) (hv : v.category = 1) (kk : NW D cs d MC MS Y (pc + 1) L (v :: v :: st) ws n k Q) : NW D cs d MC MS Y pc L (v :: st) ws n k Q := by
  intro p l e s m args below meth c A H locs ls C hin X hl
  obtain ⟨hx, hb, hml, hret, hlocks, hown, hts, hN⟩ := id C
  obtain ⟨hA, hS, hK, hP, hD⟩ := id X
  exact lv_dup hx hb hd hv (kk p l e s m args below meth c A H locs ls C hin X hl)
theorem N_iconst {z : Int} {v : Int32} (hd : decode Y.2.1 pc = .ok (.iconst z, 1)) (hv : Int32.ofInt z = v) (kk : NW D cs d MC MS Y (pc + 1) L (.int v :: st) ws n k Q) : NW D cs d MC MS Y pc L st ws n k Q := by
  intro p l e s m args below meth c A H locs ls C hin X hl
  obtain ⟨hx, hb, hml, hret, hlocks, hown, hts, hN⟩ := id C
  obtain ⟨hA, hS, hK, hP, hD⟩ := id X
  exact lv_iconst hx hb hd hv (kk p l e s m args below meth c A H locs ls C hin X hl)
theorem N_bipush {z : Int} {v : Int32} (hd : decode Y.2.1 pc = .ok (.bipush z, 2)) (hv : (Int8.ofInt z).toInt32 = v) (kk : NW D cs d MC MS Y (pc + 2) L (.int v :: st) ws n k Q) : NW D cs d MC MS Y pc L st ws n k Q := by
  intro p l e s m args below meth c A H locs ls C hin X hl
  obtain ⟨hx, hb, hml, hret, hlocks, hown, hts, hN⟩ := id C
  obtain ⟨hA, hS, hK, hP, hD⟩ := id X
  exact lv_bipush hx hb hd hv (kk p l e s m args below meth c A H locs ls C hin X hl)
theorem N_sipush {z : Int} {v : Int32} (hd : decode Y.2.1 pc = .ok (.sipush z, 3)) (hv : (Int16.ofInt z).toInt32 = v) (kk : NW D cs d MC MS Y (pc + 3) L (.int v :: st) ws n k Q) : NW D cs d MC MS Y pc L st ws n k Q := by
  intro p l e s m args below meth c A H locs ls C hin X hl
  obtain ⟨hx, hb, hml, hret, hlocks, hown, hts, hN⟩ := id C
  obtain ⟨hA, hS, hK, hP, hD⟩ := id X
  exact lv_sipush hx hb hd hv (kk p l e s m args below meth c A H locs ls C hin X hl)
theorem k_oi : Cond.instanceMethod objectInit ∈ tblG := tblG_ok (List.mem_of_getElem? (i := 87) (by decide +kernel)) rfl
theorem k_oc : Cond.code objectInit ⟨#[0xb1]⟩ 1 none ∈ tblG := tblG_ok (List.mem_of_getElem? (i := 88) (by decide +kernel)) rfl
theorem k_ai : Cond.arrayClass .int ∈ tblG := tblG_ok (List.mem_of_getElem? (i := 148) (by decide +kernel)) rfl
theorem k_al : Cond.arrayClass .long ∈ tblG := tblG_ok (List.mem_of_getElem? (i := 191) (by decide +kernel)) rfl
theorem k_az : Cond.arrayClass .boolean ∈ tblG := tblG_ok (List.mem_of_getElem? (i := 861) (by decide +kernel)) rfl
theorem N_obj {a idx : Nat} (hd : decode Y.2.1 pc = .ok (.invokespecial idx, 3)) (hl0 : Cond.methodLink Y.1.cls idx objectInit ∈ tblG) (hd1 : 1 ≤ d) (kk : NW D cs d MC MS Y (pc + 3) L [] ws n k Q) : NW D cs d MC MS Y pc L [.ref a] ws n k Q := by
  intro p l e s m args below meth c A H locs ls C hin X hl
  obtain ⟨hx, hb, hml, hret, hlocks, hown, hts, hN⟩ := id C
  obtain ⟨hA, hS, hK, hP, hD⟩ := id X
  refine W.objInit hx hb hown (hts _ hl0) (hts _ k_oi) (hts _ k_oc) rfl (by rw [hml]; exact hl.1) rfl hd hd1 (by show 2 * 0 + 0 + 12 ≤ 64 * d; omega) ?_
  exact W.eq (g2 := F0 m (pc + 3) ls []) rfl (kk p l e s m args below meth c A H locs ls C hin X hl)
abbrev zI (cs : Nat → ClassId) (N : Nat) : va_E := .inl (cs 0, N, .inl (fun _ => 0))
theorem N_newI {v : Int32} {N : Nat} (hd : decode Y.2.1 pc = .ok (.newarray .int, 2)) (hn : ¬ v < 0) (hNN : v.toNatClampNeg = N) (hb0 : N * 8 ≤ 536870912) (hc : n + 1 ≤ MC) (hs : k + N ≤ MS) (kk : ∀ q : Nat, NW D cs d MC MS Y (pc + 2) L (.ref q :: st) (ws ++ [(q, zI cs N)]) (n + 1) (k + N) Q) : NW D cs d MC MS Y pc L (.int v :: st) ws n k Q := by
  intro p l e s m args below meth c A H locs ls C hin X hl
  obtain ⟨hx, hb, hml, hret, hlocks, hown, hts, hN⟩ := id C
  obtain ⟨hA, hS, hK, hP, hD⟩ := id X
  refine va_newa (atype := .int) (a0 := (N, .inl (fun _ => 0))) hx hb (hts _ k_ai) rfl hK hP hD hS hA (fun cA => rfl) hn hNN (by show N * 4 ≤ 536870912; omega) hc hs hd (fun q cA H1 hK1 hP1 hD1 hS1 => ?_)
  have h1 : s.vm.findClass ("[" ++ FieldType.int.toString) = some (cs 0) := (hK.2 0 _ rfl).2
  have h2 : s.vm.findClass ("[" ++ FieldType.int.toString) = some cA := (hK1.2 3 _ rfl).2
  have e9 : cA = cs 0 := Option.some.inj (h2.symm.trans h1)
  rw [e9] at hP1 hD1
  exact kk q p l e s m args below meth c A H1 locs ls C hin ⟨hA, hS1, hK, hP1, hD1⟩ hl
abbrev zL (cs : Nat → ClassId) (N : Nat) : va_E := .inl (cs 1, N, .inr (.inl (fun _ => 0)))
theorem N_newL {v : Int32} {N : Nat} (hd : decode Y.2.1 pc = .ok (.newarray .long, 2)) (hn : ¬ v < 0) (hNN : v.toNatClampNeg = N) (hb0 : N * 8 ≤ 536870912) (hc : n + 1 ≤ MC) (hs : k + N ≤ MS) (kk : ∀ q : Nat, NW D cs d MC MS Y (pc + 2) L (.ref q :: st) (ws ++ [(q, zL cs N)]) (n + 1) (k + N) Q) : NW D cs d MC MS Y pc L (.int v :: st) ws n k Q := by
  intro p l e s m args below meth c A H locs ls C hin X hl
  obtain ⟨hx, hb, hml, hret, hlocks, hown, hts, hN⟩ := id C
  obtain ⟨hA, hS, hK, hP, hD⟩ := id X
  refine va_newa (atype := .long) (a0 := (N, .inr (.inl (fun _ => 0)))) hx hb (hts _ k_al) rfl hK hP hD hS hA (fun cA => rfl) hn hNN (by show N * 8 ≤ 536870912; omega) hc hs hd (fun q cA H1 hK1 hP1 hD1 hS1 => ?_)
  have h1 : s.vm.findClass ("[" ++ FieldType.long.toString) = some (cs 1) := (hK.2 1 _ rfl).2
  have h2 : s.vm.findClass ("[" ++ FieldType.long.toString) = some cA := (hK1.2 3 _ rfl).2
  have e9 : cA = cs 1 := Option.some.inj (h2.symm.trans h1)
  rw [e9] at hP1 hD1
  exact kk q p l e s m args below meth c A H1 locs ls C hin ⟨hA, hS1, hK, hP1, hD1⟩ hl
abbrev zZ (cs : Nat → ClassId) (N : Nat) : va_E := .inl (cs 2, N, .inl (fun _ => 0))
theorem N_newZ {v : Int32} {N : Nat} (hd : decode Y.2.1 pc = .ok (.newarray .boolean, 2)) (hn : ¬ v < 0) (hNN : v.toNatClampNeg = N) (hb0 : N * 8 ≤ 536870912) (hc : n + 1 ≤ MC) (hs : k + N ≤ MS) (kk : ∀ q : Nat, NW D cs d MC MS Y (pc + 2) L (.ref q :: st) (ws ++ [(q, zZ cs N)]) (n + 1) (k + N) Q) : NW D cs d MC MS Y pc L (.int v :: st) ws n k Q := by
  intro p l e s m args below meth c A H locs ls C hin X hl
  obtain ⟨hx, hb, hml, hret, hlocks, hown, hts, hN⟩ := id C
  obtain ⟨hA, hS, hK, hP, hD⟩ := id X
  refine va_newa (atype := .boolean) (a0 := (N, .inl (fun _ => 0))) hx hb (hts _ k_az) rfl hK hP hD hS hA (fun cA => rfl) hn hNN (by show N * 1 ≤ 536870912; omega) hc hs hd (fun q cA H1 hK1 hP1 hD1 hS1 => ?_)
  have h1 : s.vm.findClass ("[" ++ FieldType.boolean.toString) = some (cs 2) := (hK.2 2 _ rfl).2
  have h2 : s.vm.findClass ("[" ++ FieldType.boolean.toString) = some cA := (hK1.2 3 _ rfl).2
  have e9 : cA = cs 2 := Option.some.inj (h2.symm.trans h1)
  rw [e9] at hP1 hD1
  exact kk q p l e s m args below meth c A H1 locs ls C hin ⟨hA, hS1, hK, hP1, hD1⟩ hl
theorem N_iast {q0 a N : Nat} {f : Nat → Int32} {i x : Int32} (hd : decode Y.2.1 pc = .ok (.iastore, 1)) (he : ws[q0]? = some (a, .inl (cs 0, N, .inl f))) (hi : vp_in i N) (kk : NW D cs d MC MS Y (pc + 1) L st (ws.set q0 (a, .inl (cs 0, N, .inl (upd f i.toNatClampNeg x)))) n k Q) : NW D cs d MC MS Y pc L (.int x :: .int i :: .ref a :: st) ws n k Q := by
  intro p l e s m args below meth c A H locs ls C hin X hl
  obtain ⟨hx, hb, hml, hret, hlocks, hown, hts, hN⟩ := id C
  obtain ⟨hA, hS, hK, hP, hD⟩ := id X
  exact va_iast hx hb hK hP hD hS q0 0 he rfl hi hd (fun H1 locs1 hP1 hD1 hS1 => kk p l e s m args below meth c A H1 locs1 ls C hin ⟨hA, hS1, hK, hP1, hD1⟩ hl)
/-- a final field, in its class's constructor -/
def FFt (own : String) (ci j : Nat) (ty : FieldType) : Prop := ∃ (C : String) (T : u_T) (N : Nat) (ty0 : Nat → FieldType), vwCl[ci]? = some (C, T, N) ∧ (∀ k, k < N → parseFieldDescriptor (T k).2.2.1 = some (ty0 k)) ∧ (∀ a, a < N → ∀ b, b < N → a ≠ b → (T a).2.1 ≠ (T b).2.1) ∧ (T j).2.2.2 = true ∧ (T j).1 = own ∧ parseFieldDescriptor (T j).2.2.1 = some ty
theorem N_putF {idx ci j a q0 : Nat} {v : Value} {fs : List Value} {ty : FieldType} (hd : decode Y.2.1 pc = .ok (.putfield idx, 3)) (hf : FAt Y.1.cls idx ci j) (hp : FFt Y.1.cls ci j ty) (he : ws[q0]? = some (a, .inr (ci, fs))) (hnr : narrow ty v = v) (hfit : fits ty v = true) (hlen : j < fs.length) (kk : NW D cs d MC MS Y (pc + 3) L st (ws.set q0 (a, .inr (ci, fs.set j v))) n k Q) : NW D cs d MC MS Y pc L (v :: .ref a :: st) ws n k Q := by
  intro p l e s m args below meth c A H locs ls C hin X hl
  obtain ⟨hx, hb, hml, hret, hlocks, hown, hts, hN⟩ := id C
  obtain ⟨hA, hS, hK, hP, hD⟩ := id X
  obtain ⟨C0, T, N, h1, h2, h3, h4⟩ := hf
  obtain ⟨C1, T1, N1, ty0, g1, g2, g3, g4, g4b, g5⟩ := hp
  rw [h1] at g1
  simp only [Option.some.injEq, Prod.mk.injEq] at g1
  obtain ⟨rfl, rfl, rfl⟩ := g1
  exact va_putF (D := D) hx hb hts h3 ty0 g2 g3 hown hK hP hD hS q0 he h1 j h2 (hts _ h4) (fun _ h => h) g4 hin g4b g5 hnr hfit hlen hd (fun H1 locs1 hP1 hD1 hS1 => kk p l e s m args below meth c A H1 locs1 ls C hin ⟨hA, hS1, hK, hP1, hD1⟩ hl)
theorem N_put {idx ci j a q0 : Nat} {v : Value} {fs : List Value} {ty : FieldType} (hd : decode Y.2.1 pc = .ok (.putfield idx, 3)) (hf : FAt Y.1.cls idx ci j) (hp : FPt ci j ty) (he : ws[q0]? = some (a, .inr (ci, fs))) (hnr : narrow ty v = v) (hfit : fits ty v = true) (hlen : j < fs.length) (kk : NW D cs d MC MS Y (pc + 3) L st (ws.set q0 (a, .inr (ci, fs.set j v))) n k Q) : NW D cs d MC MS Y pc L (v :: .ref a :: st) ws n k Q := by
  intro p l e s m args below meth c A H locs ls C hin X hl
  obtain ⟨hx, hb, hml, hret, hlocks, hown, hts, hN⟩ := id C
  obtain ⟨hA, hS, hK, hP, hD⟩ := id X
  obtain ⟨C0, T, N, h1, h2, h3, h4⟩ := hf
  obtain ⟨C1, T1, N1, ty0, g1, g2, g3, g4, g5⟩ := hp
  rw [h1] at g1
  simp only [Option.some.injEq, Prod.mk.injEq] at g1
  obtain ⟨rfl, rfl, rfl⟩ := g1
  exact va_put (D := D) hx hb hts h3 ty0 g2 g3 hown hK hP hD hS q0 he h1 j h2 (hts _ h4) (fun _ h => h) g4 g5 hnr hfit hlen hd (fun H1 locs1 hP1 hD1 hS1 => kk p l e s m args below meth c A H1 locs1 ls C hin ⟨hA, hS1, hK, hP1, hD1⟩ hl)
theorem N_get {idx ci j a q0 : Nat} {v : Value} {fs : List Value} (hd : decode Y.2.1 pc = .ok (.getfield idx, 3)) (hf : FAt Y.1.cls idx ci j) (he : ws[q0]? = some (a, .inr (ci, fs))) (hj : fs[j]? = some v) (kk : NW D cs d MC MS Y (pc + 3) L (v :: st) ws n k Q) : NW D cs d MC MS Y pc L (.ref a :: st) ws n k Q := by
  intro p l e s m args below meth c A H locs ls C hin X hl
  obtain ⟨hx, hb, hml, hret, hlocks, hown, hts, hN⟩ := id C
  obtain ⟨hA, hS, hK, hP, hD⟩ := id X
  obtain ⟨C0, T, N, h1, h2, h3, h4⟩ := hf
  exact va_get (D := D) hx hb hts h3 hown hK hP q0 he h1 j h2 (hts _ h4) (fun _ h => h) (v := v) hj hd (kk p l e s m args below meth c A H locs ls C hin X hl)
theorem N_new {idx ci N : Nat} {C0 : String} {T : u_T} {fs : List Value} (hd : decode Y.2.1 pc = .ok (.new idx, 3)) (ty : Nat → FieldType) (hc : vwCl[ci]? = some (C0, T, N)) (hi : ∀ w ∈ u_ws C0 T N, w ∈ tblG) (hty : ∀ k, k < N → parseFieldDescriptor (T k).2.2.1 = some (ty k)) (hcl : Cond.classLink Y.1.cls idx C0 ∈ tblG) (hinst : Cond.instantiable C0 N ∈ tblG) (hini : Cond.initialized C0 ∈ tblG) (hfs : ∀ j, j < N → defaultValue (ty j) = vp_V fs j) (hcc : n + 1 ≤ MC) (hss : k + N ≤ MS) (kk : ∀ q : Nat, NW D cs d MC MS Y (pc + 3) L (.ref q :: st) (ws ++ [(q, .inr (ci, fs))]) (n + 1) (k + N) Q) : NW D cs d MC MS Y pc L st ws n k Q := by
  intro p l e s m args below meth c A H locs ls C hin X hl
  obtain ⟨hx, hb, hml, hret, hlocks, hown, hts, hN⟩ := id C
  obtain ⟨hA, hS, hK, hP, hD⟩ := id X
  exact va_new (C := C0) (T := T) (N := N) hx hb hts hi ty hty hown (hts _ hcl) (hts _ hinst) (hts _ hini) hK hP hD hS hA hc hfs hcc hss hd (fun q H1 hP1 hD1 hS1 => kk q p l e s m args below meth c A H1 locs ls C hin ⟨hA, hS1, hK, hP1, hD1⟩ hl)
theorem N_ret (hd : decode Y.2.1 pc = .ok (.return_, 1)) (hr : Y.2.2.2 = none) (hn : n = MC) (hk : k = MS) (hQ : Q ws) : NW D cs d MC MS Y pc L [] ws n k Q := by
  intro p l e s m args below meth c A H locs ls C hin X hl
  obtain ⟨hx, hb, hml, hret, hlocks, hown, hts, hN⟩ := id C
  obtain ⟨hA, hS, hK, hP, hD⟩ := id X
  subst hn; subst hk
  exact W.vret hx hb (hret.trans hr) (fun t ht hW => ⟨⟨ws, rfl, hQ, by rw [ht]; exact hP, va_K.moved hW.alike hK, hD⟩, hS.F ht⟩) hS.2.2 hd hlocks
theorem N_callI {as : List Value} {st0 : List Value} {idx b mc ms d2 : Nat} {Y2 : Mth} {wc wr : va_W} {Q2 : va_W → Prop} (hd : decode Y.2.1 pc = .ok (.invokespecial idx, 3)) (hst : as.reverse ++ .ref b :: st = st0) (hlt : d2 < d) (hm : MOK Y2 as.length) (hr0 : Y2.2.2.2 = none) (hnm : Y2.1.name = "<init>") (hi : Cond.instanceMethod Y2.1 ∈ tblG) (hl0 : Cond.methodLink Y.1.cls idx Y2.1 ∈ tblG) (hw : (st.map fun v => v.category).sum ≤ 8) (isC isR : List Nat) (hCc : isC.filterMap (fun i => ws[i]?) = wc) (hC : isC.map (fun i => ws[i]?) = wc.map some) (hR : isR.map (fun i => ws[i]?) = wr.map some) (hnC : va_nd isC = true) (hnR : va_nd isR = true) (hdis : ∀ i ∈ isR, i ∉ isC) (hcc : n + mc ≤ MC) (hss : k + ms ≤ MS) (h : NC D cs d2 mc ms Y2 (.ref b :: as) wc Q2) (kk : ∀ u, Q2 u → NW D cs d MC MS Y (pc + 3) L st (wr ++ u) (n + mc) (k + ms) Q) : NW D cs d MC MS Y pc L st0 ws n k Q := by
  intro p l e s m args below meth c A H locs ls C hin X hl
  obtain ⟨hx, hb, hml, hret, hlocks, hown, hts, hN⟩ := id C
  obtain ⟨hA, hS, hK, hP, hD⟩ := id X
  have hPc : va_P D vwCl wc H := hP.sub isC hCc
  have hDc : va_D A wc := hD.sub isC hnC hC
  have hFc := va_free (wc := wc) hD hS hA isC hC
  have hpre : PreS s H (va_Pc (.ref b :: as) (fun U => U.heap.size = H.size ∧ va_P D vwCl wc U.heap ∧ va_K D vwCl (ctys cs) U ∧ va_D (fun _ => True) wc ∧ Nst U)) (.ref b :: as) := by
    refine ⟨?_, fun U hU hW => ⟨rfl, by rw [hU], by rw [hU]; exact hPc, va_K.moved hW.alike hK, hDc.weaken (fun _ _ _ _ => trivial), Nst.warm hW hN⟩⟩
    rintro a U g mk ⟨h1, h2, h3, h4, h5, h6⟩
    exact ⟨h1, h2, h3, va_K.moved (u := U) (U := U.calling g mk a) (Vm.Alike.refl U.vm) h4, h5, Nst.same (u := U) (U := U.calling g mk a) rfl h6⟩
  have hcb : CallB (rmC d MC MS) s args Y.1.cls idx Y2.1 Y2.2.1 Y2.2.2.1 none (.code Y2.1 Y2.2.1 Y2.2.2.1 Y2.2.2.2 :: tblG) (rmC d2 mc ms) mc ms as.length := by
    obtain ⟨h1, h2, h3, h4, h5⟩ := hm
    rw [hr0] at h2 ⊢
    refine ⟨rfl, rfl, hlt, ?_, pay_in hts (fun w hw => ?_), List.mem_cons_self, hts _ h2, hts _ h1, h3, fun sig h => ?_, hts _ hl0⟩
    · show 8 + (Y2.2.2.1 + 11) + 64 * d2 ≤ 64 * d
      omega
    · rcases List.mem_cons.mp hw with rfl | hw
      · exact ⟨h2, tblG_good _ h2⟩
      · exact ⟨hw, tblG_good _ hw⟩
    · rw [h] at h4
      exact (Option.some.inj h4).symm
  subst hst
  have hrun := va_runI (p := p) (l := l) (e := e) (below := below) (meth := meth) (c := c) (locs := locs) (cells := n) (slots := k) (g := F0 m pc ls (as.reverse ++ .ref b :: st)) (b := b) (As := as) (rest := st) ⟨hx, hb, hml, hown, hts⟩ (h l H.size) ⟨hcb, hnm, hts _ hi⟩ hpre rfl rfl hl.1 rfl (lv_room hw) hd ⟨hcc, hss⟩
  refine va_callv (hrun) hS (fun q _ h => hFc q h) hFc (fun u t H1 locs1 ht hvm hw hB hz1 hk1 hS1 => ?_)
  obtain ⟨hP0, hK0, hD0⟩ := hB
  rw [ht] at hP0
  obtain ⟨hP1, hD1⟩ := va_join (wr := wr) (w1 := u) hP hD isC isR hC hR hnR hdis hk1 hFc hP0 hD0
  exact kk u hw p l e s m args below meth c A H1 locs1 ls C hin ⟨hA, hS1, hK, hP1, hD1⟩ hl
theorem N_callIN {host : String} {as : List Value} {st0 : List Value} {idx b mc ms d2 : Nat} {Y2 : Mth} {wc wr : va_W} {Q2 : va_W → Prop} (hd : decode Y.2.1 pc = .ok (.invokespecial idx, 3)) (hst : as.reverse ++ .ref b :: st = st0) (hlt : d2 < d) (hm : MOK Y2 as.length) (hr0 : Y2.2.2.2 = none) (hnm : Y2.1.name = "<init>") (hi : Cond.instanceMethod Y2.1 ∈ tblG) (hl0 : (Y.1.cls, idx, Y2.1, host) ∈ nestM) (hw : (st.map fun v => v.category).sum ≤ 8) (isC isR : List Nat) (hCc : isC.filterMap (fun i => ws[i]?) = wc) (hC : isC.map (fun i => ws[i]?) = wc.map some) (hR : isR.map (fun i => ws[i]?) = wr.map some) (hnC : va_nd isC = true) (hnR : va_nd isR = true) (hdis : ∀ i ∈ isR, i ∉ isC) (hcc : n + mc ≤ MC) (hss : k + ms ≤ MS) (h : NC D cs d2 mc ms Y2 (.ref b :: as) wc Q2) (kk : ∀ u, Q2 u → NW D cs d MC MS Y (pc + 3) L st (wr ++ u) (n + mc) (k + ms) Q) : NW D cs d MC MS Y pc L st0 ws n k Q := by
  intro p l e s m args below meth c A H locs ls C hin X hl
  obtain ⟨hx, hb, hml, hret, hlocks, hown, hts, hN⟩ := id C
  obtain ⟨hA, hS, hK, hP, hD⟩ := id X
  have hPc : va_P D vwCl wc H := hP.sub isC hCc
  have hDc : va_D A wc := hD.sub isC hnC hC
  have hFc := va_free (wc := wc) hD hS hA isC hC
  have hpre : PreS s H (va_Pc (.ref b :: as) (fun U => U.heap.size = H.size ∧ va_P D vwCl wc U.heap ∧ va_K D vwCl (ctys cs) U ∧ va_D (fun _ => True) wc ∧ Nst U)) (.ref b :: as) := by
    refine ⟨?_, fun U hU hW => ⟨rfl, by rw [hU], by rw [hU]; exact hPc, va_K.moved hW.alike hK, hDc.weaken (fun _ _ _ _ => trivial), Nst.warm hW hN⟩⟩
    rintro a U g mk ⟨h1, h2, h3, h4, h5, h6⟩
    exact ⟨h1, h2, h3, va_K.moved (u := U) (U := U.calling g mk a) (Vm.Alike.refl U.vm) h4, h5, Nst.same (u := U) (U := U.calling g mk a) rfl h6⟩
  have hcb : va_CN (rmC d MC MS) s args Y.1.cls idx Y2.1 host Y2.2.1 Y2.2.2.1 none (.code Y2.1 Y2.2.1 Y2.2.2.1 Y2.2.2.2 :: tblG) (rmC d2 mc ms) mc ms as.length := by
    obtain ⟨h1, h2, h3, h4, h5⟩ := hm
    rw [hr0] at h2 ⊢
    refine ⟨⟨rfl, rfl, hlt, ?_, pay_in hts (fun w hw => ?_), List.mem_cons_self⟩, hts _ h2, hts _ h1, h3, fun sig h => ?_, va_Nw.use rfl (hN.1 _ hl0)⟩
    · show 8 + (Y2.2.2.1 + 11) + 64 * d2 ≤ 64 * d
      omega
    · rcases List.mem_cons.mp hw with rfl | hw
      · exact ⟨h2, tblG_good _ h2⟩
      · exact ⟨hw, tblG_good _ hw⟩
    · rw [h] at h4
      exact (Option.some.inj h4).symm
  subst hst
  have hrun := va_runIN (p := p) (l := l) (e := e) (below := below) (meth := meth) (c := c) (locs := locs) (cells := n) (slots := k) (g := F0 m pc ls (as.reverse ++ .ref b :: st)) (b := b) (As := as) (rest := st) ⟨hx, hb, hml, hown, hts⟩ (h l H.size) ⟨hcb, hnm, hts _ hi⟩ hpre rfl rfl hl.1 rfl (lv_room hw) hd ⟨hcc, hss⟩
  refine va_callv (hrun) hS (fun q _ h => hFc q h) hFc (fun u t H1 locs1 ht hvm hw hB hz1 hk1 hS1 => ?_)
  obtain ⟨hP0, hK0, hD0⟩ := hB
  rw [ht] at hP0
  obtain ⟨hP1, hD1⟩ := va_join (wr := wr) (w1 := u) hP hD isC isR hC hR hnR hdis hk1 hFc hP0 hD0
  exact kk u hw p l e s m args below meth c A H1 locs1 ls C hin ⟨hA, hS1, hK, hP1, hD1⟩ hl
end NWR
theorem fq_0_0 : FFt RX0 0 0 (.object "KitchenTouch$Store") := ⟨RX0, TX0, 2, tyX0, rfl, tyX0_ok, nmX0, rfl, rfl, by decide +kernel⟩
theorem fq_0_1 : FFt RX0 0 1 (.object "KitchenTouch$Story") := ⟨RX0, TX0, 2, tyX0, rfl, tyX0_ok, nmX0, rfl, rfl, by decide +kernel⟩
theorem fq_1_0 : FFt RX1 1 0 (.object "KitchenTouch$Store") := ⟨RX1, TX1, 4, tyX1, rfl, tyX1_ok, nmX1, rfl, rfl, by decide +kernel⟩
theorem fq_1_1 : FFt RX1 1 1 (.array .int) := ⟨RX1, TX1, 4, tyX1, rfl, tyX1_ok, nmX1, rfl, rfl, by decide +kernel⟩
theorem fq_2_0 : FFt RX2 2 0 (.object "KitchenTouch$Store") := ⟨RX2, TX2, 3, tyX2, rfl, tyX2_ok, nmX2, rfl, rfl, by decide +kernel⟩
theorem fq_2_1 : FFt RX2 2 1 (.object "KitchenTouch$Story") := ⟨RX2, TX2, 3, tyX2, rfl, tyX2_ok, nmX2, rfl, rfl, by decide +kernel⟩
theorem fq_2_2 : FFt RX2 2 2 (.array .long) := ⟨RX2, TX2, 3, tyX2, rfl, tyX2_ok, nmX2, rfl, rfl, by decide +kernel⟩
theorem fq_3_0 : FFt RX3 3 0 (.array .int) := ⟨RX3, TX3, 13, tyX3, rfl, tyX3_ok, nmX3, rfl, rfl, by decide +kernel⟩
theorem fq_3_1 : FFt RX3 3 1 (.array .int) := ⟨RX3, TX3, 13, tyX3, rfl, tyX3_ok, nmX3, rfl, rfl, by decide +kernel⟩
theorem fq_3_2 : FFt RX3 3 2 (.array .int) := ⟨RX3, TX3, 13, tyX3, rfl, tyX3_ok, nmX3, rfl, rfl, by decide +kernel⟩
theorem fq_3_3 : FFt RX3 3 3 (.array .int) := ⟨RX3, TX3, 13, tyX3, rfl, tyX3_ok, nmX3, rfl, rfl, by decide +kernel⟩
theorem fq_3_4 : FFt RX3 3 4 (.array .int) := ⟨RX3, TX3, 13, tyX3, rfl, tyX3_ok, nmX3, rfl, rfl, by decide +kernel⟩
theorem fq_3_5 : FFt RX3 3 5 (.array .int) := ⟨RX3, TX3, 13, tyX3, rfl, tyX3_ok, nmX3, rfl, rfl, by decide +kernel⟩
theorem fq_4_0 : FFt RX4 4 0 (.object "KitchenTouch$Store") := ⟨RX4, TX4, 11, tyX4, rfl, tyX4_ok, nmX4, rfl, rfl, by decide +kernel⟩
theorem fq_4_1 : FFt RX4 4 1 (.int) := ⟨RX4, TX4, 11, tyX4, rfl, tyX4_ok, nmX4, rfl, rfl, by decide +kernel⟩
theorem fq_4_2 : FFt RX4 4 2 (.array .long) := ⟨RX4, TX4, 11, tyX4, rfl, tyX4_ok, nmX4, rfl, rfl, by decide +kernel⟩
theorem fq_4_3 : FFt RX4 4 3 (.array .long) := ⟨RX4, TX4, 11, tyX4, rfl, tyX4_ok, nmX4, rfl, rfl, by decide +kernel⟩
theorem fq_4_4 : FFt RX4 4 4 (.array .int) := ⟨RX4, TX4, 11, tyX4, rfl, tyX4_ok, nmX4, rfl, rfl, by decide +kernel⟩
theorem fq_4_5 : FFt RX4 4 5 (.array .int) := ⟨RX4, TX4, 11, tyX4, rfl, tyX4_ok, nmX4, rfl, rfl, by decide +kernel⟩
theorem fq_4_6 : FFt RX4 4 6 (.array .int) := ⟨RX4, TX4, 11, tyX4, rfl, tyX4_ok, nmX4, rfl, rfl, by decide +kernel⟩
theorem fq_4_7 : FFt RX4 4 7 (.array .long) := ⟨RX4, TX4, 11, tyX4, rfl, tyX4_ok, nmX4, rfl, rfl, by decide +kernel⟩
theorem fq_4_8 : FFt RX4 4 8 (.array .long) := ⟨RX4, TX4, 11, tyX4, rfl, tyX4_ok, nmX4, rfl, rfl, by decide +kernel⟩
theorem fq_5_0 : FFt RX5 5 0 (.object "KitchenTouch$Store") := ⟨RX5, TX5, 10, tyX5, rfl, tyX5_ok, nmX5, rfl, rfl, by decide +kernel⟩
theorem fq_5_1 : FFt RX5 5 1 (.object "KitchenTouch$Store") := ⟨RX5, TX5, 10, tyX5, rfl, tyX5_ok, nmX5, rfl, rfl, by decide +kernel⟩
theorem fq_5_2 : FFt RX5 5 2 (.object "KitchenTouch$Story") := ⟨RX5, TX5, 10, tyX5, rfl, tyX5_ok, nmX5, rfl, rfl, by decide +kernel⟩
theorem fq_5_3 : FFt RX5 5 3 (.object "KitchenTouch$Story") := ⟨RX5, TX5, 10, tyX5, rfl, tyX5_ok, nmX5, rfl, rfl, by decide +kernel⟩
theorem fq_5_4 : FFt RX5 5 4 (.object "KitchenTouch$Doubt") := ⟨RX5, TX5, 10, tyX5, rfl, tyX5_ok, nmX5, rfl, rfl, by decide +kernel⟩
theorem fq_5_5 : FFt RX5 5 5 (.object "KitchenTouch$Doubt") := ⟨RX5, TX5, 10, tyX5, rfl, tyX5_ok, nmX5, rfl, rfl, by decide +kernel⟩
theorem fq_5_6 : FFt RX5 5 6 (.object "KitchenTouch$Planner") := ⟨RX5, TX5, 10, tyX5, rfl, tyX5_ok, nmX5, rfl, rfl, by decide +kernel⟩
theorem fq_5_7 : FFt RX5 5 7 (.object "KitchenTouch$HouseReader") := ⟨RX5, TX5, 10, tyX5, rfl, tyX5_ok, nmX5, rfl, rfl, by decide +kernel⟩
theorem fq_5_8 : FFt RX5 5 8 (.array .int) := ⟨RX5, TX5, 10, tyX5, rfl, tyX5_ok, nmX5, rfl, rfl, by decide +kernel⟩
theorem fq_6_0 : FFt RX6 6 0 (.array .int) := ⟨RX6, TX6, 43, tyX6, rfl, tyX6_ok, nmX6, rfl, rfl, by decide +kernel⟩
theorem fq_6_1 : FFt RX6 6 1 (.array .int) := ⟨RX6, TX6, 43, tyX6, rfl, tyX6_ok, nmX6, rfl, rfl, by decide +kernel⟩
theorem fq_6_2 : FFt RX6 6 2 (.array .int) := ⟨RX6, TX6, 43, tyX6, rfl, tyX6_ok, nmX6, rfl, rfl, by decide +kernel⟩
theorem fq_6_3 : FFt RX6 6 3 (.array .int) := ⟨RX6, TX6, 43, tyX6, rfl, tyX6_ok, nmX6, rfl, rfl, by decide +kernel⟩
theorem fq_6_4 : FFt RX6 6 4 (.array .int) := ⟨RX6, TX6, 43, tyX6, rfl, tyX6_ok, nmX6, rfl, rfl, by decide +kernel⟩
theorem fq_6_5 : FFt RX6 6 5 (.array .int) := ⟨RX6, TX6, 43, tyX6, rfl, tyX6_ok, nmX6, rfl, rfl, by decide +kernel⟩
theorem fq_6_6 : FFt RX6 6 6 (.array .int) := ⟨RX6, TX6, 43, tyX6, rfl, tyX6_ok, nmX6, rfl, rfl, by decide +kernel⟩
theorem fq_6_7 : FFt RX6 6 7 (.array .int) := ⟨RX6, TX6, 43, tyX6, rfl, tyX6_ok, nmX6, rfl, rfl, by decide +kernel⟩
theorem fq_6_8 : FFt RX6 6 8 (.array .int) := ⟨RX6, TX6, 43, tyX6, rfl, tyX6_ok, nmX6, rfl, rfl, by decide +kernel⟩
theorem fq_6_9 : FFt RX6 6 9 (.array .int) := ⟨RX6, TX6, 43, tyX6, rfl, tyX6_ok, nmX6, rfl, rfl, by decide +kernel⟩
theorem fq_6_10 : FFt RX6 6 10 (.array .int) := ⟨RX6, TX6, 43, tyX6, rfl, tyX6_ok, nmX6, rfl, rfl, by decide +kernel⟩
theorem fq_6_13 : FFt RX6 6 13 (.array .int) := ⟨RX6, TX6, 43, tyX6, rfl, tyX6_ok, nmX6, rfl, rfl, by decide +kernel⟩
theorem fq_6_17 : FFt RX6 6 17 (.array .int) := ⟨RX6, TX6, 43, tyX6, rfl, tyX6_ok, nmX6, rfl, rfl, by decide +kernel⟩
theorem fq_6_18 : FFt RX6 6 18 (.array .int) := ⟨RX6, TX6, 43, tyX6, rfl, tyX6_ok, nmX6, rfl, rfl, by decide +kernel⟩
theorem fq_6_19 : FFt RX6 6 19 (.array .int) := ⟨RX6, TX6, 43, tyX6, rfl, tyX6_ok, nmX6, rfl, rfl, by decide +kernel⟩
theorem fq_6_20 : FFt RX6 6 20 (.array .boolean) := ⟨RX6, TX6, 43, tyX6, rfl, tyX6_ok, nmX6, rfl, rfl, by decide +kernel⟩
theorem fq_6_21 : FFt RX6 6 21 (.array .boolean) := ⟨RX6, TX6, 43, tyX6, rfl, tyX6_ok, nmX6, rfl, rfl, by decide +kernel⟩
theorem fq_6_22 : FFt RX6 6 22 (.array .boolean) := ⟨RX6, TX6, 43, tyX6, rfl, tyX6_ok, nmX6, rfl, rfl, by decide +kernel⟩
theorem fq_6_23 : FFt RX6 6 23 (.array .boolean) := ⟨RX6, TX6, 43, tyX6, rfl, tyX6_ok, nmX6, rfl, rfl, by decide +kernel⟩
theorem fq_6_26 : FFt RX6 6 26 (.array .int) := ⟨RX6, TX6, 43, tyX6, rfl, tyX6_ok, nmX6, rfl, rfl, by decide +kernel⟩
theorem fq_6_27 : FFt RX6 6 27 (.array .int) := ⟨RX6, TX6, 43, tyX6, rfl, tyX6_ok, nmX6, rfl, rfl, by decide +kernel⟩
theorem fq_6_28 : FFt RX6 6 28 (.array .int) := ⟨RX6, TX6, 43, tyX6, rfl, tyX6_ok, nmX6, rfl, rfl, by decide +kernel⟩
theorem fq_6_29 : FFt RX6 6 29 (.array .boolean) := ⟨RX6, TX6, 43, tyX6, rfl, tyX6_ok, nmX6, rfl, rfl, by decide +kernel⟩
theorem fq_6_32 : FFt RX6 6 32 (.array .int) := ⟨RX6, TX6, 43, tyX6, rfl, tyX6_ok, nmX6, rfl, rfl, by decide +kernel⟩
theorem fq_6_33 : FFt RX6 6 33 (.array .int) := ⟨RX6, TX6, 43, tyX6, rfl, tyX6_ok, nmX6, rfl, rfl, by decide +kernel⟩
theorem fq_6_34 : FFt RX6 6 34 (.array .int) := ⟨RX6, TX6, 43, tyX6, rfl, tyX6_ok, nmX6, rfl, rfl, by decide +kernel⟩
theorem fq_6_35 : FFt RX6 6 35 (.array .int) := ⟨RX6, TX6, 43, tyX6, rfl, tyX6_ok, nmX6, rfl, rfl, by decide +kernel⟩
theorem fq_6_36 : FFt RX6 6 36 (.array .int) := ⟨RX6, TX6, 43, tyX6, rfl, tyX6_ok, nmX6, rfl, rfl, by decide +kernel⟩
theorem fq_6_38 : FFt RX6 6 38 (.array .int) := ⟨RX6, TX6, 43, tyX6, rfl, tyX6_ok, nmX6, rfl, rfl, by decide +kernel⟩
theorem fq_6_39 : FFt RX6 6 39 (.array .int) := ⟨RX6, TX6, 43, tyX6, rfl, tyX6_ok, nmX6, rfl, rfl, by decide +kernel⟩
theorem cl_RL_7 : Cond.classLink RL 7 RX5 ∈ tblG := tblG_ok (List.mem_of_getElem? (i := 81) (by decide +kernel)) rfl
theorem is_RX5 : Cond.instantiable RX5 10 ∈ tblG := tblG_ok (List.mem_of_getElem? (i := 82) (by decide +kernel)) rfl
theorem ob_RX5 : Cond.methodLink RX5 3 objectInit ∈ tblG := tblG_ok (List.mem_of_getElem? (i := 86) (by decide +kernel)) rfl
theorem cl_RX5_9 : Cond.classLink RX5 9 RX3 ∈ tblG := tblG_ok (List.mem_of_getElem? (i := 89) (by decide +kernel)) rfl
theorem is_RX3 : Cond.instantiable RX3 13 ∈ tblG := tblG_ok (List.mem_of_getElem? (i := 90) (by decide +kernel)) rfl
theorem ob_RX3 : Cond.methodLink RX3 3 objectInit ∈ tblG := tblG_ok (List.mem_of_getElem? (i := 94) (by decide +kernel)) rfl
theorem cl_RX5_19 : Cond.classLink RX5 19 RX4 ∈ tblG := tblG_ok (List.mem_of_getElem? (i := 149) (by decide +kernel)) rfl
theorem is_RX4 : Cond.instantiable RX4 11 ∈ tblG := tblG_ok (List.mem_of_getElem? (i := 150) (by decide +kernel)) rfl
theorem ob_RX4 : Cond.methodLink RX4 3 objectInit ∈ tblG := tblG_ok (List.mem_of_getElem? (i := 154) (by decide +kernel)) rfl
theorem cl_RX5_31 : Cond.classLink RX5 31 RX0 ∈ tblG := tblG_ok (List.mem_of_getElem? (i := 192) (by decide +kernel)) rfl
theorem is_RX0 : Cond.instantiable RX0 2 ∈ tblG := tblG_ok (List.mem_of_getElem? (i := 193) (by decide +kernel)) rfl
theorem ob_RX0 : Cond.methodLink RX0 3 objectInit ∈ tblG := tblG_ok (List.mem_of_getElem? (i := 197) (by decide +kernel)) rfl
theorem cl_RX5_43 : Cond.classLink RX5 43 RX2 ∈ tblG := tblG_ok (List.mem_of_getElem? (i := 205) (by decide +kernel)) rfl
theorem is_RX2 : Cond.instantiable RX2 3 ∈ tblG := tblG_ok (List.mem_of_getElem? (i := 206) (by decide +kernel)) rfl
theorem ob_RX2 : Cond.methodLink RX2 3 objectInit ∈ tblG := tblG_ok (List.mem_of_getElem? (i := 210) (by decide +kernel)) rfl
theorem cl_RX5_50 : Cond.classLink RX5 50 RX1 ∈ tblG := tblG_ok (List.mem_of_getElem? (i := 221) (by decide +kernel)) rfl
theorem is_RX1 : Cond.instantiable RX1 4 ∈ tblG := tblG_ok (List.mem_of_getElem? (i := 222) (by decide +kernel)) rfl
theorem ob_RX1 : Cond.methodLink RX1 3 objectInit ∈ tblG := tblG_ok (List.mem_of_getElem? (i := 226) (by decide +kernel)) rfl
theorem cl_RL_10 : Cond.classLink RL 10 RX6 ∈ tblG := tblG_ok (List.mem_of_getElem? (i := 725) (by decide +kernel)) rfl
theorem is_RX6 : Cond.instantiable RX6 43 ∈ tblG := tblG_ok (List.mem_of_getElem? (i := 726) (by decide +kernel)) rfl
theorem ob_RX6 : Cond.methodLink RX6 1 objectInit ∈ tblG := tblG_ok (List.mem_of_getElem? (i := 730) (by decide +kernel)) rfl
theorem nm_RX5_11 : (RX5, 11, yX3_init, "KitchenTouch") ∈ nestM := by decide +kernel
