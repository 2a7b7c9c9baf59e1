/-! THE LAW: both systems side by side -/
def LA (s : State) : Nat → Prop := fun q => s.heap.size ≤ q
def LwF (p : Program) (s : State) (m : MethodId) (meth : Method) (c : Code) (b N : Nat) (xs : Nat → Int32) (D : va_G) (cs : Nat → ClassId) (aC aM : Nat → Nat) : Prop := (p.tables.exec = Jvm.exec ∧ c.code = code ∧ meth.sig.returnType = ret ∧ c.maxLocals = 4 ∧ s.vm.findClass RL = some m.cls ∧ (∀ w ∈ tblG, w.before #[Value.ref b] s = true) ∧ va_X b N xs s s.heap ∧ b < s.heap.size ∧ meth.locks = false) ∧ N ≤ 3072 ∧ Nst s ∧ va_K D vwCl (ctys cs) s ∧ Stc aC (LA s) s s.heap ∧ Stc aM (LA s) s s.heap
def LW0 (D : va_G) (cs : Nat → ClassId) (aC aM : Nat → Nat) (s : State) (H : Heap) (locs : List Loc) (μ ν : Mem) : Prop := va_S (LA s) s.heap H locs ∧ va_P D vwCl (wld aC cs μ 0 shC) H ∧ va_P D vwCl (wld aM cs ν 0 shM) H ∧ va_D (LA s) (wld aC cs μ 0 shC) ∧ va_D (LA s) (wld aM cs ν 0 shM) ∧ ∀ (i j : Nat) (p q : Nat × va_E), (wld aC cs μ 0 shC)[i]? = some p → (wld aM cs ν 0 shM)[j]? = some q → p.1 ≠ q.1
def LL (b : Nat) (aC aM : Nat → Nat) (i : Int) : List (Nat × Value) := [(0, .ref b), (1, .ref (aC 0)), (2, .ref (aM 0)), (3, .int (Int32.ofInt i))]
def aL (b : Nat) (aC aM : Nat → Nat) : Nat → Nat := fun k => if k = 0 then b else if k = 1 then aC 0 else aM 0
def LwP (p : Program) (l : Launch) (e : Env) (s : State) (m : MethodId) (below : List Frame) (meth : Method) (c : Code) (b : Nat) (D : va_G) (cs : Nat → ClassId) (aC aM : Nat → Nat) (i : Int) (pc : Nat) (st : List PV) (μ ν : Mem) : Prop :=
  ∀ (H : Heap) (locs : List Loc) (ls : Array Slot), LW0 D cs aC aM s H locs μ ν → lv_has ls 4 (LL b aC aM i) → W p l e room_1 s m #[Value.ref b] below meth c H locs 600000 7302250 (lw_Z below #[Value.ref b] s) (F0 m pc ls (st.map (rv (aL b aC aM))))
/-- the script's ints -/
def sx (xs : Nat → Int32) (j : Int) : Int := (xs j.toNat).toInt
def bz (z : Int) : Int := if z = 0 then 0 else 1
theorem sx_in (xs : Nat → Int32) (j : Int) : InR (sx xs j) := wI_in _
theorem bz_in (z : Int) : bz z = 0 ∨ bz z = 1 := by unfold bz; split; exact Or.inl rfl; exact Or.inr rfl
section LAW
variable {p : Program} {l : Launch} {e : Env} {s : State} {m : MethodId} {below : List Frame} {meth : Method} {c : Code} {b N : Nat} {xs : Nat → Int32} {D : va_G} {cs : Nat → ClassId} {aC aM : Nat → Nat} {i : Int} {pc : Nat} {st : List PV} {μ ν : Mem}
theorem L_a0 (F : LwF p s m meth c b N xs D cs aC aM) (hd : decode code pc = .ok (.aload_n 0, 1)) (k : LwP p l e s m below meth c b D cs aC aM i (pc + 1) (vr 0 :: st) μ ν) : LwP p l e s m below meth c b D cs aC aM i pc st μ ν := by
  intro H locs ls X hl
  obtain ⟨⟨hx, hb, hr, hml, hown, hts, hX, hbl, hlocks⟩, hN3, hN, hK, hTC, hTM⟩ := id F
  have hbA : ¬ LA s b := Nat.not_le.mpr hbl
  exact lv_aload_n (x := b) hx hb hd rfl (lv_at hl 0 rfl) (k H locs ls X hl)
theorem L_a1 (F : LwF p s m meth c b N xs D cs aC aM) (hd : decode code pc = .ok (.aload_n 1, 1)) (k : LwP p l e s m below meth c b D cs aC aM i (pc + 1) (vr 1 :: st) μ ν) : LwP p l e s m below meth c b D cs aC aM i pc st μ ν := by
  intro H locs ls X hl
  obtain ⟨⟨hx, hb, hr, hml, hown, hts, hX, hbl, hlocks⟩, hN3, hN, hK, hTC, hTM⟩ := id F
  have hbA : ¬ LA s b := Nat.not_le.mpr hbl
  exact lv_aload_n (x := (aC 0)) hx hb hd rfl (lv_at hl 1 rfl) (k H locs ls X hl)
theorem L_a2 (F : LwF p s m meth c b N xs D cs aC aM) (hd : decode code pc = .ok (.aload_n 2, 1)) (k : LwP p l e s m below meth c b D cs aC aM i (pc + 1) (vr 2 :: st) μ ν) : LwP p l e s m below meth c b D cs aC aM i pc st μ ν := by
  intro H locs ls X hl
  obtain ⟨⟨hx, hb, hr, hml, hown, hts, hX, hbl, hlocks⟩, hN3, hN, hK, hTC, hTM⟩ := id F
  have hbA : ¬ LA s b := Nat.not_le.mpr hbl
  exact lv_aload_n (x := (aM 0)) hx hb hd rfl (lv_at hl 2 rfl) (k H locs ls X hl)
theorem L_i3 (F : LwF p s m meth c b N xs D cs aC aM) (hd : decode code pc = .ok (.iload_n 3, 1)) (k : LwP p l e s m below meth c b D cs aC aM i (pc + 1) (vi i :: st) μ ν) : LwP p l e s m below meth c b D cs aC aM i pc st μ ν := by
  intro H locs ls X hl
  obtain ⟨⟨hx, hb, hr, hml, hown, hts, hX, hbl, hlocks⟩, hN3, hN, hK, hTC, hTM⟩ := id F
  have hbA : ¬ LA s b := Nat.not_le.mpr hbl
  exact lv_iload_n (x := Int32.ofInt i) hx hb hd rfl (lv_at hl 3 rfl) (k H locs ls X hl)
theorem L_iconst (F : LwF p s m meth c b N xs D cs aC aM) {n : Int} (hd : decode code pc = .ok (.iconst n, 1)) (k : LwP p l e s m below meth c b D cs aC aM i (pc + 1) (vi n :: st) μ ν) : LwP p l e s m below meth c b D cs aC aM i pc st μ ν := by
  intro H locs ls X hl
  obtain ⟨⟨hx, hb, hr, hml, hown, hts, hX, hbl, hlocks⟩, hN3, hN, hK, hTC, hTM⟩ := id F
  have hbA : ¬ LA s b := Nat.not_le.mpr hbl
  exact lv_iconst hx hb hd rfl (k H locs ls X hl)
theorem L_bipush (F : LwF p s m meth c b N xs D cs aC aM) {n : Int} (hd : decode code pc = .ok (.bipush n, 2)) (h : -128 ≤ n ∧ n < 128) (k : LwP p l e s m below meth c b D cs aC aM i (pc + 2) (vi n :: st) μ ν) : LwP p l e s m below meth c b D cs aC aM i pc st μ ν := by
  intro H locs ls X hl
  obtain ⟨⟨hx, hb, hr, hml, hown, hts, hX, hbl, hlocks⟩, hN3, hN, hK, hTC, hTM⟩ := id F
  have hbA : ¬ LA s b := Nat.not_le.mpr hbl
  exact lv_bipush hx hb hd (wI_b8 h) (k H locs ls X hl)
theorem L_iadd (F : LwF p s m meth c b N xs D cs aC aM) {x y : Int} (hd : decode code pc = .ok (.iadd, 1)) (k : LwP p l e s m below meth c b D cs aC aM i (pc + 1) (vi (x + y) :: st) μ ν) : LwP p l e s m below meth c b D cs aC aM i pc (vi y :: vi x :: st) μ ν := by
  intro H locs ls X hl
  obtain ⟨⟨hx, hb, hr, hml, hown, hts, hX, hbl, hlocks⟩, hN3, hN, hK, hTC, hTM⟩ := id F
  have hbA : ¬ LA s b := Nat.not_le.mpr hbl
  refine lv_iadd hx hb hd ?_
  rw [wI_add x y]
  exact k H locs ls X hl
theorem L_isub (F : LwF p s m meth c b N xs D cs aC aM) {x y : Int} (hd : decode code pc = .ok (.isub, 1)) (k : LwP p l e s m below meth c b D cs aC aM i (pc + 1) (vi (x - y) :: st) μ ν) : LwP p l e s m below meth c b D cs aC aM i pc (vi y :: vi x :: st) μ ν := by
  intro H locs ls X hl
  obtain ⟨⟨hx, hb, hr, hml, hown, hts, hX, hbl, hlocks⟩, hN3, hN, hK, hTC, hTM⟩ := id F
  have hbA : ¬ LA s b := Nat.not_le.mpr hbl
  refine lv_isub hx hb hd ?_
  rw [wI_sub x y]
  exact k H locs ls X hl
theorem L_iand (F : LwF p s m meth c b N xs D cs aC aM) {x y z : Int} (hd : decode code pc = .ok (.iand, 1)) (hz : Int32.ofInt x &&& Int32.ofInt y = Int32.ofInt z) (k : LwP p l e s m below meth c b D cs aC aM i (pc + 1) (vi z :: st) μ ν) : LwP p l e s m below meth c b D cs aC aM i pc (vi y :: vi x :: st) μ ν := by
  intro H locs ls X hl
  obtain ⟨⟨hx, hb, hr, hml, hown, hts, hX, hbl, hlocks⟩, hN3, hN, hK, hTC, hTM⟩ := id F
  have hbA : ¬ LA s b := Nat.not_le.mpr hbl
  refine lv_iand hx hb hd ?_
  rw [hz]
  exact k H locs ls X hl
theorem L_land (F : LwF p s m meth c b N xs D cs aC aM) {x y : BitVec 64} (hd : decode code pc = .ok (.land, 1)) (k : LwP p l e s m below meth c b D cs aC aM i (pc + 1) (vl (x &&& y) :: st) μ ν) : LwP p l e s m below meth c b D cs aC aM i pc (vl y :: vl x :: st) μ ν := by
  intro H locs ls X hl
  obtain ⟨⟨hx, hb, hr, hml, hown, hts, hX, hbl, hlocks⟩, hN3, hN, hK, hTC, hTM⟩ := id F
  have hbA : ¬ LA s b := Nat.not_le.mpr hbl
  exact lv_land hx hb hd (k H locs ls X hl)
theorem L_lor (F : LwF p s m meth c b N xs D cs aC aM) {x y : BitVec 64} (hd : decode code pc = .ok (.lor, 1)) (k : LwP p l e s m below meth c b D cs aC aM i (pc + 1) (vl (x ||| y) :: st) μ ν) : LwP p l e s m below meth c b D cs aC aM i pc (vl y :: vl x :: st) μ ν := by
  intro H locs ls X hl
  obtain ⟨⟨hx, hb, hr, hml, hown, hts, hX, hbl, hlocks⟩, hN3, hN, hK, hTC, hTM⟩ := id F
  have hbA : ¬ LA s b := Nat.not_le.mpr hbl
  exact lv_lor hx hb hd (k H locs ls X hl)
theorem L_lshl (F : LwF p s m meth c b N xs D cs aC aM) {x : BitVec 64} {n : Int} (hd : decode code pc = .ok (.lshl, 1)) (h0 : 0 ≤ n) (h1 : n < 64) (k : LwP p l e s m below meth c b D cs aC aM i (pc + 1) (vl (x <<< n.toNat) :: st) μ ν) : LwP p l e s m below meth c b D cs aC aM i pc (vi n :: vl x :: st) μ ν := by
  intro H locs ls X hl
  obtain ⟨⟨hx, hb, hr, hml, hown, hts, hX, hbl, hlocks⟩, hN3, hN, hK, hTC, hTM⟩ := id F
  have hbA : ¬ LA s b := Nat.not_le.mpr hbl
  exact lv_lshl hx hb hd (wL_shl x h0 h1) (k H locs ls X hl)
theorem L_i2l (F : LwF p s m meth c b N xs D cs aC aM) {z : Int} (hd : decode code pc = .ok (.i2l, 1)) (k : LwP p l e s m below meth c b D cs aC aM i (pc + 1) (vl ((Int32.ofInt z).toInt64.toBitVec) :: st) μ ν) : LwP p l e s m below meth c b D cs aC aM i pc (vi z :: st) μ ν := by
  intro H locs ls X hl
  obtain ⟨⟨hx, hb, hr, hml, hown, hts, hX, hbl, hlocks⟩, hN3, hN, hK, hTC, hTM⟩ := id F
  have hbA : ¬ LA s b := Nat.not_le.mpr hbl
  exact lv_i2l hx hb hd rfl (k H locs ls X hl)
theorem L_ldc2 (F : LwF p s m meth c b N xs D cs aC aM) (hd : decode code pc = .ok (.ldc2_w 42, 3)) (k : LwP p l e s m below meth c b D cs aC aM i (pc + 3) (vl 4294967295#64 :: st) μ ν) : LwP p l e s m below meth c b D cs aC aM i pc st μ ν := by
  intro H locs ls X hl
  obtain ⟨⟨hx, hb, hr, hml, hown, hts, hX, hbl, hlocks⟩, hN3, hN, hK, hTC, hTM⟩ := id F
  have hbA : ¬ LA s b := Nat.not_le.mpr hbl
  exact lv_ldc2 (v := Int64.ofBitVec 4294967295#64) hx hb hown (hts _ kl_RL_42) hd (k H locs ls X hl)
theorem L_ald (F : LwF p s m meth c b N xs D cs aC aM) {j : Int} (hd : decode code pc = .ok (.iaload, 1)) (h0 : 0 ≤ j) (h1 : j < N) (k : LwP p l e s m below meth c b D cs aC aM i (pc + 1) (vi (sx xs j) :: st) μ ν) : LwP p l e s m below meth c b D cs aC aM i pc (vi j :: vr 0 :: st) μ ν := by
  intro H locs ls X hl
  obtain ⟨⟨hx, hb, hr, hml, hown, hts, hX, hbl, hlocks⟩, hN3, hN, hK, hTC, hTM⟩ := id F
  have hbA : ¬ LA s b := Nat.not_le.mpr hbl
  have e9 := wI_cl (n := N) h0 h1 (by omega)
  refine va_sld hx hb hX hbl hbA X.1 (wI_vp (n := N) h0 h1 (by omega)) hd ?_
  rw [e9]
  have h9 := k H locs ls X hl
  have e8 : Int32.ofInt (sx xs j) = xs j.toNat := wI_of _
  have e7 : (vi (sx xs j) :: st).map (rv (aL b aC aM)) = .int (xs j.toNat) :: st.map (rv (aL b aC aM)) := by
    show Value.int (Int32.ofInt (sx xs j)) :: _ = _
    rw [e8]
  rw [e7] at h9
  exact h9
theorem L_len (F : LwF p s m meth c b N xs D cs aC aM) (hd : decode code pc = .ok (.arraylength, 1)) (k : LwP p l e s m below meth c b D cs aC aM i (pc + 1) (vi (N : Int) :: st) μ ν) : LwP p l e s m below meth c b D cs aC aM i pc (vr 0 :: st) μ ν := by
  intro H locs ls X hl
  obtain ⟨⟨hx, hb, hr, hml, hown, hts, hX, hbl, hlocks⟩, hN3, hN, hK, hTC, hTM⟩ := id F
  have hbA : ¬ LA s b := Nat.not_le.mpr hbl
  exact va_slen hx hb hX hbl hbA X.1 hd (k H locs ls X hl)
theorem L_rd (F : LwF p s m meth c b N xs D cs aC aM) {q : Int} (h0 : decode code pc = .ok (.aload_n 0, 1)) (h1 : decode code (pc + 1) = .ok (.iload_n 3, 1)) (h2 : decode code (pc + 1 + 1) = .ok (.iconst q, 1)) (h3 : decode code (pc + 1 + 1 + 1) = .ok (.iadd, 1)) (h4 : decode code (pc + 1 + 1 + 1 + 1) = .ok (.iaload, 1)) (hi : 0 ≤ i + q) (hi2 : i + q < N) (k : LwP p l e s m below meth c b D cs aC aM i (pc + 5) (vi (sx xs (i + q)) :: st) μ ν) : LwP p l e s m below meth c b D cs aC aM i pc st μ ν := by
  refine L_a0 F h0 ?_
  refine L_i3 F h1 ?_
  refine L_iconst F h2 ?_
  refine L_iadd F h3 ?_
  exact L_ald F h4 hi hi2 k
theorem L_bool (F : LwF p s m meth c b N xs D cs aC aM) {z : Int} (hz : InR z) (h0 : decode code pc = .ok (.ifCond .eq 7, 3)) (h1 : decode code (pc + 3) = .ok (.iconst 1, 1)) (h2 : decode code (pc + 4) = .ok (.goto 4, 3)) (h3 : decode code (pc + 7) = .ok (.iconst 0, 1)) (k : LwP p l e s m below meth c b D cs aC aM i (pc + 8) (vi (bz z) :: st) μ ν) : LwP p l e s m below meth c b D cs aC aM i pc (vi z :: st) μ ν := by
  intro H locs ls X hl
  obtain ⟨⟨hx, hb, hr, hml, hown, hts, hX, hbl, hlocks⟩, hN3, hN, hK, hTC, hTM⟩ := id F
  have hbA : ¬ LA s b := Nat.not_le.mpr hbl
  have hi0 : InR 0 := by unfold InR; omega
  refine lv_if_eq (tgt := pc + 7) hx hb h0 (by omega) (fun h => ?_) (fun h => ?_)
  · have e : z = 0 := (wI_eq hz hi0).mp h
    have e2 : bz z = 0 := by unfold bz; rw [if_pos e]
    rw [e2] at k
    exact lv_iconst hx hb h3 rfl (k H locs ls X hl)
  · have e : ¬ z = 0 := fun q => h ((wI_eq hz hi0).mpr q)
    have e2 : bz z = 1 := by unfold bz; rw [if_neg e]
    rw [e2] at k
    refine lv_iconst hx hb h1 rfl ?_
    exact lv_goto (tgt := pc + 8) hx hb h2 (by omega) (k H locs ls X hl)
theorem L_tin (F : LwF p s m meth c b N xs D cs aC aM) {dflt lo hi : Int} {offs : Array Int} {len : Nat} {x off : Int} {tgt : Nat} (hd : decode code pc = .ok (.tableswitch dflt lo hi offs, len)) (hx0 : InR x) (h1 : lo ≤ x) (h2 : x ≤ hi) (ho : offs[(x - lo).toNat]? = some off) (ht : (pc : Int) + off = (tgt : Int)) (k : LwP p l e s m below meth c b D cs aC aM i tgt st μ ν) : LwP p l e s m below meth c b D cs aC aM i pc (vi x :: st) μ ν := by
  intro H locs ls X hl
  obtain ⟨⟨hx, hb, hr, hml, hown, hts, hX, hbl, hlocks⟩, hN3, hN, hK, hTC, hTM⟩ := id F
  have hbA : ¬ LA s b := Nat.not_le.mpr hbl
  exact lv_tableIn hx hb hd (by rw [wI hx0]; omega) (by rw [wI hx0]; omega) (by rw [wI hx0]; exact ho) ht (k H locs ls X hl)
theorem L_tout (F : LwF p s m meth c b N xs D cs aC aM) {dflt lo hi : Int} {offs : Array Int} {len : Nat} {x : Int} {tgt : Nat} (hd : decode code pc = .ok (.tableswitch dflt lo hi offs, len)) (hx0 : InR x) (h : x < lo ∨ hi < x) (ht : (pc : Int) + dflt = (tgt : Int)) (k : LwP p l e s m below meth c b D cs aC aM i tgt st μ ν) : LwP p l e s m below meth c b D cs aC aM i pc (vi x :: st) μ ν := by
  intro H locs ls X hl
  obtain ⟨⟨hx, hb, hr, hml, hown, hts, hX, hbl, hlocks⟩, hN3, hN, hK, hTC, hTM⟩ := id F
  have hbA : ¬ LA s b := Nat.not_le.mpr hbl
  exact lv_tableOut hx hb hd (by rw [wI hx0]; exact h) ht (k H locs ls X hl)
theorem L_gt (F : LwF p s m meth c b N xs D cs aC aM) {x y off : Int} {tgt : Nat} (hd : decode code pc = .ok (.if_icmp .gt off, 3)) (ht : (pc : Int) + off = (tgt : Int)) (hx0 : InR x) (hy0 : InR y) (kt : y < x → LwP p l e s m below meth c b D cs aC aM i tgt st μ ν) (kf : x ≤ y → LwP p l e s m below meth c b D cs aC aM i (pc + 3) st μ ν) : LwP p l e s m below meth c b D cs aC aM i pc (vi y :: vi x :: st) μ ν := by
  intro H locs ls X hl
  obtain ⟨⟨hx, hb, hr, hml, hown, hts, hX, hbl, hlocks⟩, hN3, hN, hK, hTC, hTM⟩ := id F
  have hbA : ¬ LA s b := Nat.not_le.mpr hbl
  exact lv_icmp_gt hx hb hd ht (fun h => kt ((wI_lt hy0 hx0).mp h) H locs ls X hl) (fun h => kf (Int.not_lt.mp (fun z => h ((wI_lt hy0 hx0).mpr z))) H locs ls X hl)
theorem L_eq (F : LwF p s m meth c b N xs D cs aC aM) {x y off : Int} {tgt : Nat} (hd : decode code pc = .ok (.if_icmp .eq off, 3)) (ht : (pc : Int) + off = (tgt : Int)) (he : x = y) (k : LwP p l e s m below meth c b D cs aC aM i tgt st μ ν) : LwP p l e s m below meth c b D cs aC aM i pc (vi y :: vi x :: st) μ ν := by
  subst he
  intro H locs ls X hl
  obtain ⟨⟨hx, hb, hr, hml, hown, hts, hX, hbl, hlocks⟩, hN3, hN, hK, hTC, hTM⟩ := id F
  have hbA : ¬ LA s b := Nat.not_le.mpr hbl
  exact lv_icmp_eq hx hb hd ht (fun _ => k H locs ls X hl) (fun h => absurd rfl h)
theorem L_next (F : LwF p s m meth c b N xs D cs aC aM) (k : LwP p l e s m below meth c b D cs aC aM (i + 6) 18 [] μ ν) : LwP p l e s m below meth c b D cs aC aM i 1051 [] μ ν := by
  intro H locs ls X hl
  obtain ⟨⟨hx, hb, hr, hml, hown, hts, hX, hbl, hlocks⟩, hN3, hN, hK, hTC, hTM⟩ := id F
  have hbA : ¬ LA s b := Nat.not_le.mpr hbl
  refine lv_iinc (x := Int32.ofInt i) (v := Int32.ofInt (i + 6)) (lv' := [(3, .int (Int32.ofInt (i + 6))), (0, .ref b), (1, .ref (aC 0)), (2, .ref (aM 0))]) hx hb dL_law_1051 hl (k := 3) rfl (wI_add i 6) (by decide) rfl (fun ls hl => ?_)
  refine lv_goto (tgt := 18) hx hb dL_law_1054 (by decide) ?_
  exact k H locs ls X (lv_sub hl [1, 2, 3, 0] rfl)
theorem L_end (F : LwF p s m meth c b N xs D cs aC aM) : LwP p l e s m below meth c b D cs aC aM i 1057 [] μ ν := by
  intro H locs ls X hl
  obtain ⟨⟨hx, hb, hr, hml, hown, hts, hX, hbl, hlocks⟩, hN3, hN, hK, hTC, hTM⟩ := id F
  have hbA : ¬ LA s b := Nat.not_le.mpr hbl
  refine lv_iconst (v := 1) hx hb dL_law_1057 (by decide) ?_
  refine va_forget (fun q hq => X.1.2.2 q hq) ?_
  exact lw_ret hx hb hr hlocks dL_law_1058
theorem L_callC (F : LwF p s m meth c b N xs D cs aC aM) {as st0 : List PV} {idx d' : Nat} {Y' : Mth} {q : Int → Mem → Prop} (hd : decode code pc = .ok (.invokevirtual idx, 3)) (hst : as.reverse ++ vr 1 :: st = st0) (hc : vwCl[5]? = some (Y'.1.cls, TX5, 10)) (hl0 : Cond.methodLink RL idx Y'.1 ∈ tblG) (hi : Cond.instanceMethod Y'.1 ∈ tblG) (hse : Cond.selects Y'.1.cls Y'.1 Y'.1 ∈ tblG) (hm : MOK Y' as.length) (hd' : d' ≤ 1000) (hw : pwide st ≤ 8) (has : as.map (rv aC) = as.map (rv (aL b aC aM))) (h : PC shC d' Y' (vr 0 :: as) μ (QI q)) (kk : ∀ z μ', q z μ' → LwP p l e s m below meth c b D cs aC aM i (pc + 3) (vi z :: st) μ' ν) : LwP p l e s m below meth c b D cs aC aM i pc st0 μ ν := by
  intro H locs ls X hl
  obtain ⟨⟨hx, hb, hr, hml, hown, hts, hX, hbl, hlocks⟩, hN3, hN, hK, hTC, hTM⟩ := id F
  have hbA : ¬ LA s b := Nat.not_le.mpr hbl
  obtain ⟨hS, hPC, hPM, hDC, hDM, hap⟩ := id X
  have hin : ∀ q, va_A (wld aC cs μ 0 shC) H.size q → LA s q := by
    rintro q (⟨k, e9, h⟩ | h)
    · exact hDC.2 k (q, e9) h
    · exact Nat.le_trans hS.1 h
  have hpre : PreS s H (va_Pc (.ref (aC 0) :: as.map (rv aC)) (fun U => U.heap.size = H.size ∧ va_P D vwCl (wld aC cs μ 0 shC) U.heap ∧ va_K D vwCl (ctys cs) U ∧ va_D (fun _ => True) (wld aC cs μ 0 shC) ∧ Nst U ∧ Stc aC (va_A (wld aC cs μ 0 shC) H.size) U U.heap)) (.ref (aC 0) :: as.map (rv aC)) := by
    refine ⟨P_blind, fun U hU hW => ⟨rfl, by rw [hU], by rw [hU]; exact hPC, va_K.moved hW.alike hK, hDC.weaken (fun _ _ _ _ => trivial), Nst.warm hW hN, ?_⟩⟩
    rw [hU]
    exact Stc.kept hTC hS hin hW.alike
  have hcb : CallB room_1 s #[Value.ref b] RL idx Y'.1 Y'.2.1 Y'.2.2.1 Y'.2.2.2 (.code Y'.1 Y'.2.1 Y'.2.2.1 Y'.2.2.2 :: tblG) (rm d') 0 0 as.length := by
    obtain ⟨h1, h2, h3, h4, h5⟩ := hm
    refine ⟨rfl, rfl, ?_, ?_, pay_in hts (fun w hw => ?_), List.mem_cons_self, hts _ h2, hts _ h1, h3, fun sig h => ?_, hts _ hl0⟩
    · show d' + 1 ≤ 2048
      omega
    · show 8 + (Y'.2.2.1 + 11) + 64 * d' ≤ 84000
      omega
    · rcases List.mem_cons.mp hw with rfl | hw
      · exact ⟨h2, tblG_good _ h2⟩
      · exact ⟨hw, tblG_good _ hw⟩
    · rw [h] at h4
      exact (Option.some.inj h4).symm
  subst hst
  have e5 : (as.reverse ++ vr 1 :: st).map (rv (aL b aC aM)) = (as.map (rv aC)).reverse ++ .ref (aC 0) :: st.map (rv (aL b aC aM)) := by
    rw [has, List.map_append, List.map_reverse]
    rfl
  rw [e5]
  have hrun := va_runV (p := p) (l := l) (e := e) (below := below) (meth := meth) (c := c) (locs := locs) (cells := 600000) (slots := 7302250) (C := Y'.1.cls) (b := aC 0) (g := F0 m pc ls ((as.map (rv aC)).reverse ++ .ref (aC 0) :: st.map (rv (aL b aC aM)))) (As := as.map (rv aC)) (rest := st.map (rv (aL b aC aM))) ⟨hx, hb, hml, hown, hts⟩ (h l D cs aC H.size) ⟨hcb, hts _ hi, hts _ hse⟩ ⟨hpre.1, va_recv hK hPC (ci := 5) (q0 := 0) hc (wld_at sC_0), hpre.2⟩ rfl (List.length_map _) hl.1 rfl (lv_room (by rw [pwide_sum]; exact hw)) hd ⟨Nat.le_refl _, Nat.le_refl _⟩
  intro T hT2 X2
  obtain ⟨v, st₀, t, T', L2, h0, X', hL, e1, e2, ⟨⟨r, μ', hv, hq, hP1, hK1⟩, hz, hk⟩, stp⟩ := hrun T hT2 X2
  obtain ⟨z, rfl, hq⟩ := hq
  have hv2 : v = some (rv aC (vi z)) := Outcome.returned.inj hv
  subst hv2
  rw [h0] at hz hk
  have hS' : va_S (LA s) s.heap T'.heap (locs ++ L2) := by
    refine ⟨Nat.le_trans hS.1 (by rw [e1]; exact hz), fun q h1 h2 => ?_, fun q hq => ?_⟩
    · rw [e1, hk q (Nat.lt_of_lt_of_le h1 hS.1) (fun z => h2 (hin q z))]
      exact hS.2.1 q h1 h2
    · rcases List.mem_append.mp hq with h | h
      · exact hS.2.2 q h
      · exact hin _ (hL q h)
  obtain ⟨t2, a1, b1⟩ := kk z μ' hq T'.heap (locs ++ L2) ls ⟨hS', by rw [e1]; exact hP1, hPM.kept (fun k q hk9 => by
      rw [e1]
      refine hk q.1 (hPM k q hk9).lt ?_
      rintro (⟨k2, e9, h2⟩ | h2)
      · exact (fun h2 => (hap k2 k (q.1, e9) q h2 hk9 rfl)) h2
      · have := (hPM k q hk9).lt
        omega), wld_D hDC, hDM, fun i j x y hi hj => by
      obtain ⟨x', h1, e1⟩ := wld_addr (μ' := μ) hi
      rw [← e1]
      exact hap i j x' y h1 hj⟩ hl T' rfl X'
  exact ⟨t2, stp t2 a1, b1⟩
theorem L_callM (F : LwF p s m meth c b N xs D cs aC aM) {as st0 : List PV} {idx d' : Nat} {Y' : Mth} {q : Int → Mem → Prop} (hd : decode code pc = .ok (.invokevirtual idx, 3)) (hst : as.reverse ++ vr 2 :: st = st0) (hc : vwCl[6]? = some (Y'.1.cls, TX6, 43)) (hl0 : Cond.methodLink RL idx Y'.1 ∈ tblG) (hi : Cond.instanceMethod Y'.1 ∈ tblG) (hse : Cond.selects Y'.1.cls Y'.1 Y'.1 ∈ tblG) (hm : MOK Y' as.length) (hd' : d' ≤ 1000) (hw : pwide st ≤ 8) (has : as.map (rv aM) = as.map (rv (aL b aC aM))) (h : PC shM d' Y' (vr 0 :: as) ν (QI q)) (kk : ∀ z μ', q z μ' → LwP p l e s m below meth c b D cs aC aM i (pc + 3) (vi z :: st) μ μ') : LwP p l e s m below meth c b D cs aC aM i pc st0 μ ν := by
  intro H locs ls X hl
  obtain ⟨⟨hx, hb, hr, hml, hown, hts, hX, hbl, hlocks⟩, hN3, hN, hK, hTC, hTM⟩ := id F
  have hbA : ¬ LA s b := Nat.not_le.mpr hbl
  obtain ⟨hS, hPC, hPM, hDC, hDM, hap⟩ := id X
  have hin : ∀ q, va_A (wld aM cs ν 0 shM) H.size q → LA s q := by
    rintro q (⟨k, e9, h⟩ | h)
    · exact hDM.2 k (q, e9) h
    · exact Nat.le_trans hS.1 h
  have hpre : PreS s H (va_Pc (.ref (aM 0) :: as.map (rv aM)) (fun U => U.heap.size = H.size ∧ va_P D vwCl (wld aM cs ν 0 shM) U.heap ∧ va_K D vwCl (ctys cs) U ∧ va_D (fun _ => True) (wld aM cs ν 0 shM) ∧ Nst U ∧ Stc aM (va_A (wld aM cs ν 0 shM) H.size) U U.heap)) (.ref (aM 0) :: as.map (rv aM)) := by
    refine ⟨P_blind, fun U hU hW => ⟨rfl, by rw [hU], by rw [hU]; exact hPM, va_K.moved hW.alike hK, hDM.weaken (fun _ _ _ _ => trivial), Nst.warm hW hN, ?_⟩⟩
    rw [hU]
    exact Stc.kept hTM hS hin hW.alike
  have hcb : CallB room_1 s #[Value.ref b] RL idx Y'.1 Y'.2.1 Y'.2.2.1 Y'.2.2.2 (.code Y'.1 Y'.2.1 Y'.2.2.1 Y'.2.2.2 :: tblG) (rm d') 0 0 as.length := by
    obtain ⟨h1, h2, h3, h4, h5⟩ := hm
    refine ⟨rfl, rfl, ?_, ?_, pay_in hts (fun w hw => ?_), List.mem_cons_self, hts _ h2, hts _ h1, h3, fun sig h => ?_, hts _ hl0⟩
    · show d' + 1 ≤ 2048
      omega
    · show 8 + (Y'.2.2.1 + 11) + 64 * d' ≤ 84000
      omega
    · rcases List.mem_cons.mp hw with rfl | hw
      · exact ⟨h2, tblG_good _ h2⟩
      · exact ⟨hw, tblG_good _ hw⟩
    · rw [h] at h4
      exact (Option.some.inj h4).symm
  subst hst
  have e5 : (as.reverse ++ vr 2 :: st).map (rv (aL b aC aM)) = (as.map (rv aM)).reverse ++ .ref (aM 0) :: st.map (rv (aL b aC aM)) := by
    rw [has, List.map_append, List.map_reverse]
    rfl
  rw [e5]
  have hrun := va_runV (p := p) (l := l) (e := e) (below := below) (meth := meth) (c := c) (locs := locs) (cells := 600000) (slots := 7302250) (C := Y'.1.cls) (b := aM 0) (g := F0 m pc ls ((as.map (rv aM)).reverse ++ .ref (aM 0) :: st.map (rv (aL b aC aM)))) (As := as.map (rv aM)) (rest := st.map (rv (aL b aC aM))) ⟨hx, hb, hml, hown, hts⟩ (h l D cs aM H.size) ⟨hcb, hts _ hi, hts _ hse⟩ ⟨hpre.1, va_recv hK hPM (ci := 6) (q0 := 0) hc (wld_at sM_0), hpre.2⟩ rfl (List.length_map _) hl.1 rfl (lv_room (by rw [pwide_sum]; exact hw)) hd ⟨Nat.le_refl _, Nat.le_refl _⟩
  intro T hT2 X2
  obtain ⟨v, st₀, t, T', L2, h0, X', hL, e1, e2, ⟨⟨r, μ', hv, hq, hP1, hK1⟩, hz, hk⟩, stp⟩ := hrun T hT2 X2
  obtain ⟨z, rfl, hq⟩ := hq
  have hv2 : v = some (rv aM (vi z)) := Outcome.returned.inj hv
  subst hv2
  rw [h0] at hz hk
  have hS' : va_S (LA s) s.heap T'.heap (locs ++ L2) := by
    refine ⟨Nat.le_trans hS.1 (by rw [e1]; exact hz), fun q h1 h2 => ?_, fun q hq => ?_⟩
    · rw [e1, hk q (Nat.lt_of_lt_of_le h1 hS.1) (fun z => h2 (hin q z))]
      exact hS.2.1 q h1 h2
    · rcases List.mem_append.mp hq with h | h
      · exact hS.2.2 q h
      · exact hin _ (hL q h)
  obtain ⟨t2, a1, b1⟩ := kk z μ' hq T'.heap (locs ++ L2) ls ⟨hS', hPC.kept (fun k q hk9 => by
      rw [e1]
      refine hk q.1 (hPC k q hk9).lt ?_
      rintro (⟨k2, e9, h2⟩ | h2)
      · exact (fun h2 => (hap k k2 q (q.1, e9) hk9 h2 rfl)) h2
      · have := (hPC k q hk9).lt
        omega), by rw [e1]; exact hP1, hDC, wld_D hDM, fun i j x y hi hj => by
      obtain ⟨y', h1, e1⟩ := wld_addr (μ' := ν) hj
      rw [← e1]
      exact hap i j x y' hi h1⟩ hl T' rfl X'
  exact ⟨t2, stp t2 a1, b1⟩
end LAW
/-! the static row of bits, the nest's words, the array classes, at the start -/
theorem stc_start {b : Nat} {s : State} (hg : (Jvm.Cond.and given_1 narrow_1).before #[Value.ref b] s = true) (hts : ∀ w ∈ lw_tbl, w.before #[Value.ref b] s = true) : ∃ t : Nat, ∀ ad : Nat → Nat, ad 99 = t → Stc ad (LA s) s s.heap := by
  have hs := flat_of_before _ hg
  have harr : (Cond.arrayOf (.static "KitchenTouch" "IS_ONE" "[J") .long).before #[Value.ref b] s = true := hs _ (by decide +kernel)
  have hlen := va_eqt (s := s) (args := #[Value.ref b]) (t := .length (.static "KitchenTouch" "IS_ONE" "[J")) (z := 6) (hs _ (by decide +kernel))
  have hel : ∀ j : Nat, j < 6 → (Term.elem (.static "KitchenTouch" "IS_ONE" "[J") (.int (Int32.ofNat j))).eval #[Value.ref b] s none [] s = some (.long (Int64.ofBitVec (oneB (j : Int)))) := by
    intro j hj
    rcases (show j = 0 ∨ j = 1 ∨ j = 2 ∨ j = 3 ∨ j = 4 ∨ j = 5 by omega) with rfl | rfl | rfl | rfl | rfl | rfl
    · exact va_eqtl (t := .elem (.static "KitchenTouch" "IS_ONE" "[J") (.int 0)) (z := -6148914691236517206) (hs _ (by decide +kernel))
    · exact va_eqtl (t := .elem (.static "KitchenTouch" "IS_ONE" "[J") (.int 1)) (z := -3689348814741910324) (hs _ (by decide +kernel))
    · exact va_eqtl (t := .elem (.static "KitchenTouch" "IS_ONE" "[J") (.int 2)) (z := -1085102592571150096) (hs _ (by decide +kernel))
    · exact va_eqtl (t := .elem (.static "KitchenTouch" "IS_ONE" "[J") (.int 3)) (z := -71777214294589696) (hs _ (by decide +kernel))
    · exact va_eqtl (t := .elem (.static "KitchenTouch" "IS_ONE" "[J") (.int 4)) (z := -281470681808896) (hs _ (by decide +kernel))
    · exact va_eqtl (t := .elem (.static "KitchenTouch" "IS_ONE" "[J") (.int 5)) (z := -4294967296) (hs _ (by decide +kernel))
  have hA : ∀ a : Nat, a < s.heap.size → ¬ LA s a := fun a h => Nat.not_le.mpr h
  obtain ⟨t, ht, hT⟩ := va_Tof (N := 6) (f := fun j => .long (Int64.ofBitVec (oneB (j : Int)))) (A := LA s) (by decide) harr hlen hel hA
  have hZ := va_Zof (A := LA s) (hts (.laysStatic "KitchenTouch" "IS_ONE" "[J") (by decide +kernel)) (hts (.initialized "KitchenTouch") (by decide +kernel)) ht hA
  exact ⟨t, fun ad h => by unfold Stc; rw [h]; exact ⟨hZ, hT⟩⟩
theorem nst_start {b : Nat} {s : State} (hts : ∀ w ∈ lw_tbl, w.before #[Value.ref b] s = true) : Nst s := by
  have k1 : ∀ q ∈ nestM, Cond.methodLinkNest q.1 q.2.1 q.2.2.1 q.2.2.2 ∈ lw_tbl := by decide +kernel
  have k2 : ∀ q ∈ nestF, Cond.fieldLinkNest q.1 q.2.1 q.2.2.1 q.2.2.2.1 q.2.2.2.2.1 q.2.2.2.2.2 ∈ lw_tbl := by decide +kernel
  exact ⟨fun q hq => va_Nw.of rfl (hts _ (k1 q hq)), fun q hq => va_Nw.of rfl (hts _ (k2 q hq))⟩
theorem kty_start {b : Nat} {s : State} (hts : ∀ w ∈ tblG, w.before #[Value.ref b] s = true) : ∃ cs : Nat → ClassId, ∀ (k : Nat) (q : ClassId × FieldType), (ctys cs)[k]? = some q → ArrOfT s q.1 q.2 ∧ va_RA s q.1 q.2 := by
  obtain ⟨c0, k0, m0, n0, h0, g0⟩ := Cond.arrayClass_spec (hts _ k_ai)
  obtain ⟨c1, k1, m1, n1, h1, g1⟩ := Cond.arrayClass_spec (hts _ k_al)
  obtain ⟨c2, k2, m2, n2, h2, g2⟩ := Cond.arrayClass_spec (hts _ k_az)
  refine ⟨fun k => if k = 0 then c0 else if k = 1 then c1 else c2, fun k q hq => ?_⟩
  match k, hq with
  | 0, hq => cases hq; exact ⟨fun n z => ⟨fun k h => (by cases h), k0, h0, m0, g0⟩, n0⟩
  | 1, hq => cases hq; exact ⟨fun n z => ⟨fun k h => (by cases h), k1, h1, m1, g1⟩, n1⟩
  | 2, hq => cases hq; exact ⟨fun n z => ⟨fun k h => (by cases h), k2, h2, m2, g2⟩, n2⟩
  | k + 3, hq => simp [ctys] at hq
