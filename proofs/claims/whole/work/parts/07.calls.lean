def QI (q : Int → Mem → Prop) : Option PV → Mem → Prop := fun r μ' => ∃ z, r = some (vi z) ∧ q z μ'
def QL (q : BitVec 64 → Mem → Prop) : Option PV → Mem → Prop := fun r μ' => ∃ b, r = some (vl b) ∧ q b μ'
def QV (q : Mem → Prop) : Option PV → Mem → Prop := fun r μ' => r = none ∧ q μ'
theorem QI.mk {q : Int → Mem → Prop} {z : Int} {μ : Mem} (h : q z μ) : QI q (some (vi z)) μ := ⟨z, rfl, h⟩
theorem QL.mk {q : BitVec 64 → Mem → Prop} {b : BitVec 64} {μ : Mem} (h : q b μ) : QL q (some (vl b)) μ := ⟨b, rfl, h⟩
theorem QV.mk {q : Mem → Prop} {μ : Mem} (h : q μ) : QV q none μ := ⟨rfl, h⟩
theorem Stc.kept {ad : Nat → Nat} {A B : Nat → Prop} {s U : State} {H0 H : Heap} {locs : List Loc} (h : Stc ad A s H0) (hS : va_S A H0 H locs) (hAB : ∀ q, B q → A q) (hv : s.vm.Alike U.vm) : Stc ad B U H := ⟨((h.1.kept (hS.2.1)).narrow hAB).moved hv, ((h.2.kept (hS.2.1)).narrow hAB).moved hv⟩
theorem PC.of {S : List Shp} {d : Nat} {Y : Mth} {as : List PV} {μ : Mem} {Q : Option PV → Mem → Prop} (hy : plainName Y.1.cls = true) (hw : pwide as ≤ Y.2.2.1) (h : PW S d Y 0 (pargs 0 as) [] μ Q) : PC S d Y as μ Q := by
  intro l D cs ad sz
  refine Met.ofW (cc := Y.2.1) (maxL := Y.2.2.1) (ret := Y.2.2.2) hy rfl ?_
  intro p e s m args below meth c s₁ B hml hv
  obtain ⟨rfl, hsz, hP, hK, hD0, hN, hT⟩ := hv
  have hx := B.exec
  have hb := B.bytes
  have hr := B.returns
  have hts := atoms_spec (ws := .code Y.1 Y.2.1 Y.2.2.1 Y.2.2.2 :: tblG) B.pre
  have hown : s.vm.findClass Y.1.cls = some m.cls := findClass_of_methodNamed B.named
  have hlocks := B.notSynchronized
  subst hsz
  have hD := hD0.self (sz := s.heap.size)
  have hl := lv_entry (as.map (rv ad)) (n := Y.2.2.1) (by rw [pwide_sl]; exact hw)
  rw [lg_entry_eq]
  rw [rl_args] at hl
  exact h p l e s m _ below meth c D cs ad _ s.heap [] _ ⟨hx, hb, hml, hr, hlocks, hown, fun w hw => hts w (List.mem_cons_of_mem _ hw), hN⟩ ⟨fun q hq => Or.inr hq, va_S.rf, hK, hP, hD, hT⟩ hl
theorem PC.post {S : List Shp} {d : Nat} {Y : Mth} {as : List PV} {μ : Mem} {Q Q' : Option PV → Mem → Prop} (h : PC S d Y as μ Q') (hQ : ∀ r μ', Q' r μ' → Q r μ') : PC S d Y as μ Q := by
  intro l D cs ad sz
  have h1 := h l D cs ad sz
  intro p e ha hc hk s m args below hf hap hP htr
  obtain ⟨t, o, a1, a2, a3, ⟨⟨r, μ', c1, c2, c3⟩, c5⟩, c6⟩ := h1 p e ha hc hk s m args below hf hap hP htr
  exact ⟨t, o, a1, a2, a3, ⟨⟨r, μ', c1, hQ r μ' c2, c3⟩, c5⟩, c6⟩
/-- what the tables say of a method that is called -/
def MOK (Y : Mth) (n : Nat) : Prop := Cond.initialized Y.1.cls ∈ tblG ∧ Cond.code Y.1 Y.2.1 Y.2.2.1 Y.2.2.2 ∈ tblG ∧ (Y.1.cls ≠ "java/lang/invoke/MethodHandle" ∧ Y.1.cls ≠ "java/lang/invoke/VarHandle") ∧ (parseMethodDescriptor Y.1.desc).map (fun d => d.parameters.length) = some n ∧ Y.2.2.1 ≤ 45
section PCALL
variable {S : List Shp} {d d' : Nat} {Y Y' : Mth} {pc : Nat} {L : List (Nat × PV)} {st : List PV} {μ : Mem} {Q : Option PV → Mem → Prop}
theorem P_back {p : Program} {l : Launch} {e : Env} {s : State} {m : MethodId} {args : Array Value} {below : List Frame} {meth : Method} {c : Code} {D : va_G} {cs : Nat → ClassId} {ad : Nat → Nat} {A : Nat → Prop} {H : Heap} {locs : List Loc} {ls : Array Slot} {st0 : List Value} {Q' : Option PV → Mem → Prop} {a : Array Value}
    (hr : va_Run p l e (rm d) s m args below meth c H locs 0 0 0 0 (F0 m pc ls st0) (st.map (rv ad)) (QC S D cs ad (va_A (wld ad cs μ 0 S) H.size) Q' a) (va_A (wld ad cs μ 0 S) H.size))
    (C : Cxt Y p s args m meth c) (X : Wd S D cs ad A s H locs μ) (hl : lv_has ls Y.2.2.1 (L.map (rl ad))) (kk : ∀ r μ', Q' r μ' → PW S d Y (pc + 3) L (r.toList ++ st) μ' Q) :
    W p l e (rm d) s m args below meth c H locs 0 0 (MQ below (QC S D cs ad A Q) args s 0 0 A) (F0 m pc ls st0) := by
  obtain ⟨hA, hS, hK, hP, hD, hT⟩ := X
  have hin : ∀ q, va_A (wld ad cs μ 0 S) H.size q → A q := by
    rintro q (⟨k, e9, h⟩ | h)
    · exact hD.2 k (q, e9) h
    · exact hA q (Nat.le_trans hS.1 h)
  intro T hT2 X2
  obtain ⟨v, st₀, t, T', L2, h0, X', hL, e1, e2, ⟨⟨r, μ', hv, hq, hP1, hK1⟩, hz, hk⟩, stp⟩ := hr T hT2 X2
  have hv2 : v = r.map (rv ad) := Outcome.returned.inj hv
  subst hv2
  rw [h0] at hz hk
  have hS' : va_S A s.heap T'.heap (locs ++ L2) := by
    refine ⟨Nat.le_trans hS.1 (by rw [e1]; exact hz), fun q h1 h2 => ?_, fun q hq => ?_⟩
    · rw [e1, hk q (Nat.lt_of_lt_of_le h1 hS.1) (fun z => h2 (hin q z))]
      exact hS.2.1 q h1 h2
    · rcases List.mem_append.mp hq with h | h
      · exact hS.2.2 q h
      · exact hin _ (hL q h)
  obtain ⟨t2, a1, b1⟩ := kk r μ' hq p l e s m args below meth c D cs ad A T'.heap (locs ++ L2) ls C ⟨hA, hS', hK, by rw [e1]; exact hP1, wld_D hD, hT⟩ hl T' rfl X'
  refine ⟨t2, stp t2 ?_, b1⟩
  have e3 : (r.map (rv ad)).toList ++ st.map (rv ad) = (r.toList ++ st).map (rv ad) := by cases r <;> simp
  rw [e3]
  exact a1
theorem P_blind {S : List Shp} {D : va_G} {cs : Nat → ClassId} {ad : Nat → Nat} {μ : Mem} {sz : Nat} {av : List Value} : FrameBlind (va_Pc av (fun U => U.heap.size = sz ∧ va_P D vwCl (wld ad cs μ 0 S) U.heap ∧ va_K D vwCl (ctys cs) U ∧ va_D (fun _ => True) (wld ad cs μ 0 S) ∧ Nst U ∧ Stc ad (va_A (wld ad cs μ 0 S) sz) U U.heap)) := by
  rintro a U g mk ⟨h1, h2, h3, h4, h5, h6, h7⟩
  exact ⟨h1, h2, h3, va_K.moved (u := U) (U := U.calling g mk a) (Vm.Alike.refl U.vm) h4, h5, Nst.same (u := U) (U := U.calling g mk a) rfl h6, h7.1.moved (u := U) (U := U.calling g mk a) (Vm.Alike.refl U.vm), h7.2.moved (u := U) (U := U.calling g mk a) (Vm.Alike.refl U.vm)⟩
theorem P_pre {s : State} {D : va_G} {cs : Nat → ClassId} {ad : Nat → Nat} {A : Nat → Prop} {H : Heap} {locs : List Loc} {p : Program} {args : Array Value} {m : MethodId} {meth : Method} {c : Code} (C : Cxt Y p s args m meth c) (X : Wd S D cs ad A s H locs μ) (av : List Value) :
    PreS s H (va_Pc av (fun U => U.heap.size = H.size ∧ va_P D vwCl (wld ad cs μ 0 S) U.heap ∧ va_K D vwCl (ctys cs) U ∧ va_D (fun _ => True) (wld ad cs μ 0 S) ∧ Nst U ∧ Stc ad (va_A (wld ad cs μ 0 S) H.size) U U.heap)) av := by
  obtain ⟨hA, hS, hK, hP, hD, hT⟩ := X
  obtain ⟨-, -, -, -, -, -, -, hN⟩ := C
  refine ⟨P_blind, fun U hU hW => ⟨rfl, by rw [hU], by rw [hU]; exact hP, va_K.moved hW.alike hK, hD.weaken (fun _ _ _ _ => trivial), Nst.warm hW hN, ?_⟩⟩
  rw [hU]
  refine Stc.kept hT hS ?_ hW.alike
  rintro q (⟨k, e9, h⟩ | h)
  · exact hD.2 k (q, e9) h
  · exact hA q (Nat.le_trans hS.1 h)
theorem P_cb {s : State} {args : Array Value} {idx n : Nat} (hts : ∀ w ∈ tblG, w.before args s = true) (hlt : d' < d) (hm : MOK Y' n) (hl : Cond.methodLink Y.1.cls idx Y'.1 ∈ tblG) : CallB (rm d) s args Y.1.cls idx Y'.1 Y'.2.1 Y'.2.2.1 Y'.2.2.2 (.code Y'.1 Y'.2.1 Y'.2.2.1 Y'.2.2.2 :: tblG) (rm d') 0 0 n := by
  obtain ⟨h1, h2, h3, h4, h5⟩ := hm
  refine ⟨rfl, rfl, hlt, ?_, pay_in hts (fun w hw => ?_), List.mem_cons_self, hts _ h2, hts _ h1, h3, fun sig h => ?_, hts _ hl⟩
  · show 8 + (Y'.2.2.1 + 11) + 64 * d' ≤ 64 * d
    omega
  · rcases List.mem_cons.mp hw with rfl | hw
    · exact ⟨h2, tblG_good _ h2⟩
    · exact ⟨hw, tblG_good _ hw⟩
  · rw [h] at h4
    exact (Option.some.inj h4).symm
theorem P_callV {as : List PV} {st0 : List PV} {idx k ci N : Nat} {T : u_T} {fs : List (Option Nat)} {Q' : Option PV → Mem → Prop} (hd : decode Y.2.1 pc = .ok (.invokevirtual idx, 3)) (hst : as.reverse ++ vr k :: st = st0) (hlt : d' < d) (hk : S[k]? = some (.inl (ci, fs))) (hc : vwCl[ci]? = some (Y'.1.cls, T, N))
    (hl : Cond.methodLink Y.1.cls idx Y'.1 ∈ tblG) (hi : Cond.instanceMethod Y'.1 ∈ tblG) (hse : Cond.selects Y'.1.cls Y'.1 Y'.1 ∈ tblG) (hm : MOK Y' as.length) (hw : pwide st ≤ 8) (h : PC S d' Y' (vr k :: as) μ Q') (kk : ∀ r μ', Q' r μ' → PW S d Y (pc + 3) L (r.toList ++ st) μ' Q) : PW S d Y pc L st0 μ Q := by
  intro p l e s m args below meth c D cs ad A H locs ls C X hl2
  obtain ⟨hx, hb, hml, hret, hlocks, hown, hts, hN⟩ := id C
  obtain ⟨hA, hS, hK, hP, hD, hT⟩ := id X
  refine P_back (Q' := Q') (a := (Value.ref (ad k) :: as.map (rv ad)).toArray) ?_ C X hl2 kk
  subst hst
  have hp := P_pre C X (rv ad (vr k) :: as.map (rv ad))
  exact va_runV (C := Y'.1.cls) (b := ad k) (As := as.map (rv ad)) (rest := st.map (rv ad)) ⟨hx, hb, hml, hown, hts⟩ (h l D cs ad H.size) ⟨P_cb hts hlt hm hl, hts _ hi, hts _ hse⟩ ⟨hp.1, va_recv hK hP (ci := ci) (q0 := k) hc (wld_at hk), hp.2⟩ rfl (List.length_map _) hl2.1 (by simp [F0, rv]) (lv_room (by rw [pwide_sum]; exact hw)) hd ⟨Nat.le_refl _, Nat.le_refl _⟩
theorem P_callS {as : List PV} {st0 : List PV} {idx : Nat} {Q' : Option PV → Mem → Prop} (hd : decode Y.2.1 pc = .ok (.invokestatic idx, 3)) (hst : as.reverse ++ st = st0) (hlt : d' < d)
    (hl : Cond.methodLink Y.1.cls idx Y'.1 ∈ tblG) (hs : Cond.static Y'.1 ∈ tblG) (hm : MOK Y' as.length) (hw : pwide st ≤ 8) (h : PC S d' Y' as μ Q') (kk : ∀ r μ', Q' r μ' → PW S d Y (pc + 3) L (r.toList ++ st) μ' Q) : PW S d Y pc L st0 μ Q := by
  intro p l e s m args below meth c D cs ad A H locs ls C X hl2
  obtain ⟨hx, hb, hml, hret, hlocks, hown, hts, hN⟩ := id C
  refine P_back (Q' := Q') (a := (as.map (rv ad)).toArray) ?_ C X hl2 kk
  subst hst
  exact va_runS (As := as.map (rv ad)) (rest := st.map (rv ad)) ⟨hx, hb, hml, hown, hts⟩ (h l D cs ad H.size) ⟨P_cb hts hlt hm hl, hts _ hs⟩ (P_pre C X (as.map (rv ad))) rfl (List.length_map _) hl2.1 (by simp [F0]) (lv_room (by rw [pwide_sum]; exact hw)) hd ⟨Nat.le_refl _, Nat.le_refl _⟩
theorem P_callN {as : List PV} {st0 : List PV} {idx : Nat} {host : String} {Q' : Option PV → Mem → Prop} (hd : decode Y.2.1 pc = .ok (.invokestatic idx, 3)) (hst : as.reverse ++ st = st0) (hlt : d' < d)
    (hl : (Y.1.cls, idx, Y'.1, host) ∈ nestM) (hs : Cond.static Y'.1 ∈ tblG) (hm : MOK Y' as.length) (hw : pwide st ≤ 8) (h : PC S d' Y' as μ Q') (kk : ∀ r μ', Q' r μ' → PW S d Y (pc + 3) L (r.toList ++ st) μ' Q) : PW S d Y pc L st0 μ Q := by
  intro p l e s m args below meth c D cs ad A H locs ls C X hl2
  obtain ⟨hx, hb, hml, hret, hlocks, hown, hts, hN⟩ := id C
  refine P_back (Q' := Q') (a := (as.map (rv ad)).toArray) ?_ C X hl2 kk
  subst hst
  have hcn : va_CN (rm d) s args Y.1.cls idx Y'.1 host Y'.2.1 Y'.2.2.1 Y'.2.2.2 (.code Y'.1 Y'.2.1 Y'.2.2.1 Y'.2.2.2 :: tblG) (rm d') 0 0 as.length := by
    obtain ⟨h1, h2, h3, h4, h5⟩ := hm
    refine ⟨⟨rfl, rfl, hlt, ?_, pay_in hts (fun w hw => ?_), List.mem_cons_self⟩, hts _ h2, hts _ h1, h3, fun sig h => ?_, va_Nw.use rfl (hN.1 _ hl)⟩
    · show 8 + (Y'.2.2.1 + 11) + 64 * d' ≤ 64 * d
      omega
    · rcases List.mem_cons.mp hw with rfl | hw
      · exact ⟨h2, tblG_good _ h2⟩
      · exact ⟨hw, tblG_good _ hw⟩
    · rw [h] at h4
      exact (Option.some.inj h4).symm
  exact va_runSN (As := as.map (rv ad)) (rest := st.map (rv ad)) ⟨hx, hb, hml, hown, hts⟩ (h l D cs ad H.size) ⟨hcn, hts _ hs, trivial⟩ (P_pre C X (as.map (rv ad))) rfl (List.length_map _) hl2.1 (by simp [F0]) (lv_room (by rw [pwide_sum]; exact hw)) hd ⟨Nat.le_refl _, Nat.le_refl _⟩
end PCALL
