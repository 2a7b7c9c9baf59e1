section PR
variable {S : List Shp} {d : Nat} {Y : Mth} {pc : Nat} {L : List (Nat × PV)} {st : List PV} {μ : Mem} {Q : Option PV → Mem → Prop}
theorem pl_at {ad : Nat → Nat} {ls : Array Slot} {n : Nat} {L : List (Nat × PV)} (h : lv_has ls n (L.map (rl ad))) (k : Nat) {i : Nat} {v : PV} (hk : L[k]? = some (i, v)) : ls[i]? = some (.val (rv ad v)) := lv_at h k (by rw [List.getElem?_map, hk]; rfl)
theorem P_sub (ks : List Nat) {L' : List (Nat × PV)} (hL : ks.map (fun k => L[k]?) = L'.map some) (k : PW S d Y pc L' st μ Q) : PW S d Y pc L st μ Q := by
  intro p l e s m args below meth c D cs ad A H locs ls C X hl
  obtain ⟨hx, hb, hml, hret, hlocks, hown, hts, hN⟩ := id C
  refine k p l e s m args below meth c D cs ad A H locs ls C X (lv_sub hl ks ?_)
  have h2 : ∀ (ks : List Nat) (L' : List (Nat × PV)), ks.map (fun k => L[k]?) = L'.map some → lv_pick (L.map (rl ad)) ks = L'.map (rl ad) := by
    intro ks
    induction ks with
    | nil => intro L' h; cases L' with
      | nil => rfl
      | cons a r => simp at h
    | cons a r ih =>
      intro L' h
      cases L' with
      | nil => simp at h
      | cons b r' =>
        simp only [List.map_cons, List.cons.injEq] at h
        have h3 := ih r' h.2
        unfold lv_pick at h3 ⊢
        rw [List.filterMap_cons, List.getElem?_map, h.1]
        simp only [Option.map_some, h3, List.map_cons]
  exact h2 ks L' hL
theorem P_mem {μ' : Mem} (h : μ = μ') (k : PW S d Y pc L st μ' Q) : PW S d Y pc L st μ Q := h ▸ k
theorem P_st {st' : List PV} (h : st = st') (k : PW S d Y pc L st' μ Q) : PW S d Y pc L st μ Q := h ▸ k
theorem P_post {Q' : Option PV → Mem → Prop} (h : ∀ r μ', Q' r μ' → Q r μ') (k : PW S d Y pc L st μ Q') : PW S d Y pc L st μ Q := by
  intro p l e s m args below meth c D cs ad A H locs ls C X hl
  obtain ⟨hx, hb, hml, hret, hlocks, hown, hts, hN⟩ := id C
  intro T hT X2
  obtain ⟨t, a, o, b1, b2, ⟨⟨r, μ', c1, c2, c3, c4⟩, c5⟩, b4⟩ := k p l e s m args below meth c D cs ad A H locs ls C X hl T hT X2
  exact ⟨t, a, o, b1, b2, ⟨⟨r, μ', c1, h r μ' c2, c3, c4⟩, c5⟩, b4⟩
theorem P_aload_n {kf : Fin 4} {i : Nat} {a : Nat} (hd : decode Y.2.1 pc = .ok (.aload_n kf, 1)) (hi : (kf : Nat) = i) (k0 : Nat) (hk : L[k0]? = some (i, vr a)) (k : PW S d Y (pc + 1) L (vr a :: st) μ Q) : PW S d Y pc L st μ Q := by
  intro p l e s m args below meth c D cs ad A H locs ls C X hl
  obtain ⟨hx, hb, hml, hret, hlocks, hown, hts, hN⟩ := id C
  exact lv_aload_n hx hb hd hi (pl_at hl k0 hk) (k p l e s m args below meth c D cs ad A H locs ls C X hl)
theorem P_aload {i : Nat} {a : Nat} (hd : decode Y.2.1 pc = .ok (.aload i, 2)) (k0 : Nat) (hk : L[k0]? = some (i, vr a)) (k : PW S d Y (pc + 2) L (vr a :: st) μ Q) : PW S d Y pc L st μ Q := by
  intro p l e s m args below meth c D cs ad A H locs ls C X hl
  obtain ⟨hx, hb, hml, hret, hlocks, hown, hts, hN⟩ := id C
  exact lv_aload hx hb hd (pl_at hl k0 hk) (k p l e s m args below meth c D cs ad A H locs ls C X hl)
theorem P_iload_n {kf : Fin 4} {i : Nat} {a : Int} (hd : decode Y.2.1 pc = .ok (.iload_n kf, 1)) (hi : (kf : Nat) = i) (k0 : Nat) (hk : L[k0]? = some (i, vi a)) (k : PW S d Y (pc + 1) L (vi a :: st) μ Q) : PW S d Y pc L st μ Q := by
  intro p l e s m args below meth c D cs ad A H locs ls C X hl
  obtain ⟨hx, hb, hml, hret, hlocks, hown, hts, hN⟩ := id C
  exact lv_iload_n hx hb hd hi (pl_at hl k0 hk) (k p l e s m args below meth c D cs ad A H locs ls C X hl)
theorem P_iload {i : Nat} {a : Int} (hd : decode Y.2.1 pc = .ok (.iload i, 2)) (k0 : Nat) (hk : L[k0]? = some (i, vi a)) (k : PW S d Y (pc + 2) L (vi a :: st) μ Q) : PW S d Y pc L st μ Q := by
  intro p l e s m args below meth c D cs ad A H locs ls C X hl
  obtain ⟨hx, hb, hml, hret, hlocks, hown, hts, hN⟩ := id C
  exact lv_iload hx hb hd (pl_at hl k0 hk) (k p l e s m args below meth c D cs ad A H locs ls C X hl)
theorem P_lload_n {kf : Fin 4} {i : Nat} {a : BitVec 64} (hd : decode Y.2.1 pc = .ok (.lload_n kf, 1)) (hi : (kf : Nat) = i) (k0 : Nat) (hk : L[k0]? = some (i, vl a)) (k : PW S d Y (pc + 1) L (vl a :: st) μ Q) : PW S d Y pc L st μ Q := by
  intro p l e s m args below meth c D cs ad A H locs ls C X hl
  obtain ⟨hx, hb, hml, hret, hlocks, hown, hts, hN⟩ := id C
  exact lv_lload_n hx hb hd hi (pl_at hl k0 hk) (k p l e s m args below meth c D cs ad A H locs ls C X hl)
theorem P_lload {i : Nat} {a : BitVec 64} (hd : decode Y.2.1 pc = .ok (.lload i, 2)) (k0 : Nat) (hk : L[k0]? = some (i, vl a)) (k : PW S d Y (pc + 2) L (vl a :: st) μ Q) : PW S d Y pc L st μ Q := by
  intro p l e s m args below meth c D cs ad A H locs ls C X hl
  obtain ⟨hx, hb, hml, hret, hlocks, hown, hts, hN⟩ := id C
  exact lv_lload hx hb hd (pl_at hl k0 hk) (k p l e s m args below meth c D cs ad A H locs ls C X hl)
def pf1 (i : Nat) (q : Nat × PV) : Bool := !(q.1 == i) && !(q.1 + 1 == i && pcat q.2 == 2)
def pf2 (i : Nat) (q : Nat × PV) : Bool := !(q.1 == i) && (!(q.1 == i + 1) && !(q.1 + 1 == i && pcat q.2 == 2))
theorem pf1_eq {ad : Nat → Nat} {i : Nat} {v : PV} {L L' : List (Nat × PV)} (h : (i, v) :: L.filter (pf1 i) = L') : (i, rv ad v) :: (L.map (rl ad)).filter (fun q => !(q.1 == i) && !(q.1 + 1 == i && q.2.category == 2)) = L'.map (rl ad) := by
  rw [← h, List.map_cons, List.filter_map]
  have e : ((fun q : Nat × Value => !(q.1 == i) && !(q.1 + 1 == i && q.2.category == 2)) ∘ rl ad) = pf1 i := by funext q; simp [rl, pf1, rv_cat]
  rw [e]; rfl
theorem pf2_eq {ad : Nat → Nat} {i : Nat} {v : PV} {L L' : List (Nat × PV)} (h : (i, v) :: L.filter (pf2 i) = L') : (i, rv ad v) :: (L.map (rl ad)).filter (fun q => !(q.1 == i) && (!(q.1 == i + 1) && !(q.1 + 1 == i && q.2.category == 2))) = L'.map (rl ad) := by
  rw [← h, List.map_cons, List.filter_map]
  have e : ((fun q : Nat × Value => !(q.1 == i) && (!(q.1 == i + 1) && !(q.1 + 1 == i && q.2.category == 2))) ∘ rl ad) = pf2 i := by funext q; simp [rl, pf2, rv_cat]
  rw [e]; rfl
theorem P_astore_n {kf : Fin 4} {i : Nat} {a : Nat} {L' : List (Nat × PV)} (hd : decode Y.2.1 pc = .ok (.astore_n kf, 1)) (hi : (kf : Nat) = i) (hn : i < Y.2.2.1) (hL : (i, vr a) :: L.filter (pf1 i) = L') (k : PW S d Y (pc + 1) L' st μ Q) : PW S d Y pc L (vr a :: st) μ Q := by
  intro p l e s m args below meth c D cs ad A H locs ls C X hl
  obtain ⟨hx, hb, hml, hret, hlocks, hown, hts, hN⟩ := id C
  exact lv_astore_n hx hb hd hi hl hn (pf1_eq hL) (fun ls hl => k p l e s m args below meth c D cs ad A H locs ls C X hl)
theorem P_astore {i : Nat} {a : Nat} {L' : List (Nat × PV)} (hd : decode Y.2.1 pc = .ok (.astore i, 2)) (hn : i < Y.2.2.1) (hL : (i, vr a) :: L.filter (pf1 i) = L') (k : PW S d Y (pc + 2) L' st μ Q) : PW S d Y pc L (vr a :: st) μ Q := by
  intro p l e s m args below meth c D cs ad A H locs ls C X hl
  obtain ⟨hx, hb, hml, hret, hlocks, hown, hts, hN⟩ := id C
  exact lv_astore hx hb hd hl hn (pf1_eq hL) (fun ls hl => k p l e s m args below meth c D cs ad A H locs ls C X hl)
theorem P_istore_n {kf : Fin 4} {i : Nat} {a : Int} {L' : List (Nat × PV)} (hd : decode Y.2.1 pc = .ok (.istore_n kf, 1)) (hi : (kf : Nat) = i) (hn : i < Y.2.2.1) (hL : (i, vi a) :: L.filter (pf1 i) = L') (k : PW S d Y (pc + 1) L' st μ Q) : PW S d Y pc L (vi a :: st) μ Q := by
  intro p l e s m args below meth c D cs ad A H locs ls C X hl
  obtain ⟨hx, hb, hml, hret, hlocks, hown, hts, hN⟩ := id C
  exact lv_istore_n hx hb hd hi hl hn (pf1_eq hL) (fun ls hl => k p l e s m args below meth c D cs ad A H locs ls C X hl)
theorem P_istore {i : Nat} {a : Int} {L' : List (Nat × PV)} (hd : decode Y.2.1 pc = .ok (.istore i, 2)) (hn : i < Y.2.2.1) (hL : (i, vi a) :: L.filter (pf1 i) = L') (k : PW S d Y (pc + 2) L' st μ Q) : PW S d Y pc L (vi a :: st) μ Q := by
  intro p l e s m args below meth c D cs ad A H locs ls C X hl
  obtain ⟨hx, hb, hml, hret, hlocks, hown, hts, hN⟩ := id C
  exact lv_istore hx hb hd hl hn (pf1_eq hL) (fun ls hl => k p l e s m args below meth c D cs ad A H locs ls C X hl)
theorem P_lstore_n {kf : Fin 4} {i : Nat} {a : BitVec 64} {L' : List (Nat × PV)} (hd : decode Y.2.1 pc = .ok (.lstore_n kf, 1)) (hi : (kf : Nat) = i) (hn : i + 1 < Y.2.2.1) (hL : (i, vl a) :: L.filter (pf2 i) = L') (k : PW S d Y (pc + 1) L' st μ Q) : PW S d Y pc L (vl a :: st) μ Q := by
  intro p l e s m args below meth c D cs ad A H locs ls C X hl
  obtain ⟨hx, hb, hml, hret, hlocks, hown, hts, hN⟩ := id C
  exact lv_lstore_n hx hb hd hi hl hn (pf2_eq hL) (fun ls hl => k p l e s m args below meth c D cs ad A H locs ls C X hl)
theorem P_lstore {i : Nat} {a : BitVec 64} {L' : List (Nat × PV)} (hd : decode Y.2.1 pc = .ok (.lstore i, 2)) (hn : i + 1 < Y.2.2.1) (hL : (i, vl a) :: L.filter (pf2 i) = L') (k : PW S d Y (pc + 2) L' st μ Q) : PW S d Y pc L (vl a :: st) μ Q := by
  intro p l e s m args below meth c D cs ad A H locs ls C X hl
  obtain ⟨hx, hb, hml, hret, hlocks, hown, hts, hN⟩ := id C
  exact lv_lstore hx hb hd hl hn (pf2_eq hL) (fun ls hl => k p l e s m args below meth c D cs ad A H locs ls C X hl)
theorem P_iinc {i : Nat} {n z : Int} {L' : List (Nat × PV)} (hd : decode Y.2.1 pc = .ok (.iinc i n, 3)) (hn : i < Y.2.2.1) (k0 : Nat) (hk : L[k0]? = some (i, vi z)) (hL : (i, vi (z + n)) :: L.filter (pf1 i) = L') (k : PW S d Y (pc + 3) L' st μ Q) : PW S d Y pc L st μ Q := by
  intro p l e s m args below meth c D cs ad A H locs ls C X hl
  obtain ⟨hx, hb, hml, hret, hlocks, hown, hts, hN⟩ := id C
  exact lv_iinc (x := Int32.ofInt z) (v := Int32.ofInt (z + n)) hx hb hd hl (k := k0) (by rw [List.getElem?_map, hk]; rfl) (wI_add z n) hn (pf1_eq hL) (fun ls hl => k p l e s m args below meth c D cs ad A H locs ls C X hl)
theorem P_iconst {n : Int} (hd : decode Y.2.1 pc = .ok (.iconst n, 1)) (k : PW S d Y (pc + 1) L (vi n :: st) μ Q) : PW S d Y pc L st μ Q := by
  intro p l e s m args below meth c D cs ad A H locs ls C X hl
  obtain ⟨hx, hb, hml, hret, hlocks, hown, hts, hN⟩ := id C
  exact lv_iconst hx hb hd rfl (k p l e s m args below meth c D cs ad A H locs ls C X hl)
theorem P_bipush {n : Int} (hd : decode Y.2.1 pc = .ok (.bipush n, 2)) (h : -128 ≤ n ∧ n < 128) (k : PW S d Y (pc + 2) L (vi n :: st) μ Q) : PW S d Y pc L st μ Q := by
  intro p l e s m args below meth c D cs ad A H locs ls C X hl
  obtain ⟨hx, hb, hml, hret, hlocks, hown, hts, hN⟩ := id C
  exact lv_bipush hx hb hd (wI_b8 h) (k p l e s m args below meth c D cs ad A H locs ls C X hl)
theorem P_sipush {n : Int} (hd : decode Y.2.1 pc = .ok (.sipush n, 3)) (h : -32768 ≤ n ∧ n < 32768) (k : PW S d Y (pc + 3) L (vi n :: st) μ Q) : PW S d Y pc L st μ Q := by
  intro p l e s m args below meth c D cs ad A H locs ls C X hl
  obtain ⟨hx, hb, hml, hret, hlocks, hown, hts, hN⟩ := id C
  exact lv_sipush hx hb hd (wI_b16 h) (k p l e s m args below meth c D cs ad A H locs ls C X hl)
theorem P_lconst {n : Fin 2} {b : BitVec 64} (hd : decode Y.2.1 pc = .ok (.lconst n, 1)) (h : Int64.ofNat (n : Nat) = Int64.ofBitVec b) (k : PW S d Y (pc + 1) L (vl b :: st) μ Q) : PW S d Y pc L st μ Q := by
  intro p l e s m args below meth c D cs ad A H locs ls C X hl
  obtain ⟨hx, hb, hml, hret, hlocks, hown, hts, hN⟩ := id C
  exact lv_lconst hx hb hd h (k p l e s m args below meth c D cs ad A H locs ls C X hl)
theorem P_ldc2 {idx : Nat} {v : Int64} {b : BitVec 64} (hd : decode Y.2.1 pc = .ok (.ldc2_w idx, 3)) (hc : Cond.constantLong Y.1.cls idx v ∈ tblG) (h : v = Int64.ofBitVec b) (k : PW S d Y (pc + 3) L (vl b :: st) μ Q) : PW S d Y pc L st μ Q := by
  intro p l e s m args below meth c D cs ad A H locs ls C X hl
  obtain ⟨hx, hb, hml, hret, hlocks, hown, hts, hN⟩ := id C
  subst h
  exact lv_ldc2 hx hb hown (hts _ hc) hd (k p l e s m args below meth c D cs ad A H locs ls C X hl)
theorem P_ldcw {idx : Nat} {v : Int32} {z : Int} (hd : decode Y.2.1 pc = .ok (.ldc_w idx, 3)) (hc : Cond.constant Y.1.cls idx v ∈ tblG) (h : v = Int32.ofInt z) (k : PW S d Y (pc + 3) L (vi z :: st) μ Q) : PW S d Y pc L st μ Q := by
  intro p l e s m args below meth c D cs ad A H locs ls C X hl
  obtain ⟨hx, hb, hml, hret, hlocks, hown, hts, hN⟩ := id C
  subst h
  exact lv_ldcw hx hb hown (hts _ hc) hd (k p l e s m args below meth c D cs ad A H locs ls C X hl)
theorem P_iadd {x y : Int} (hd : decode Y.2.1 pc = .ok (.iadd, 1)) (k : PW S d Y (pc + 1) L (vi (x + y) :: st) μ Q) : PW S d Y pc L (vi y :: vi x :: st) μ Q := by
  intro p l e s m args below meth c D cs ad A H locs ls C X hl
  obtain ⟨hx, hb, hml, hret, hlocks, hown, hts, hN⟩ := id C
  refine lv_iadd hx hb hd ?_
  rw [wI_add x y]
  exact k p l e s m args below meth c D cs ad A H locs ls C X hl
theorem P_isub {x y : Int} (hd : decode Y.2.1 pc = .ok (.isub, 1)) (k : PW S d Y (pc + 1) L (vi (x - y) :: st) μ Q) : PW S d Y pc L (vi y :: vi x :: st) μ Q := by
  intro p l e s m args below meth c D cs ad A H locs ls C X hl
  obtain ⟨hx, hb, hml, hret, hlocks, hown, hts, hN⟩ := id C
  refine lv_isub hx hb hd ?_
  rw [wI_sub x y]
  exact k p l e s m args below meth c D cs ad A H locs ls C X hl
theorem P_imul {x y : Int} (hd : decode Y.2.1 pc = .ok (.imul, 1)) (k : PW S d Y (pc + 1) L (vi (x * y) :: st) μ Q) : PW S d Y pc L (vi y :: vi x :: st) μ Q := by
  intro p l e s m args below meth c D cs ad A H locs ls C X hl
  obtain ⟨hx, hb, hml, hret, hlocks, hown, hts, hN⟩ := id C
  refine lv_imul hx hb hd ?_
  rw [wI_mul x y]
  exact k p l e s m args below meth c D cs ad A H locs ls C X hl
theorem P_ineg {x : Int} (hd : decode Y.2.1 pc = .ok (.ineg, 1)) (k : PW S d Y (pc + 1) L (vi (-x) :: st) μ Q) : PW S d Y pc L (vi x :: st) μ Q := by
  intro p l e s m args below meth c D cs ad A H locs ls C X hl
  obtain ⟨hx, hb, hml, hret, hlocks, hown, hts, hN⟩ := id C
  refine lv_ineg hx hb hd ?_
  rw [wI_neg x]
  exact k p l e s m args below meth c D cs ad A H locs ls C X hl
theorem P_iand {x y z : Int} (hd : decode Y.2.1 pc = .ok (.iand, 1)) (hz : Int32.ofInt x &&& Int32.ofInt y = Int32.ofInt z) (k : PW S d Y (pc + 1) L (vi z :: st) μ Q) : PW S d Y pc L (vi y :: vi x :: st) μ Q := by
  intro p l e s m args below meth c D cs ad A H locs ls C X hl
  obtain ⟨hx, hb, hml, hret, hlocks, hown, hts, hN⟩ := id C
  refine lv_iand hx hb hd ?_
  rw [hz]
  exact k p l e s m args below meth c D cs ad A H locs ls C X hl
theorem P_ior {x y z : Int} (hd : decode Y.2.1 pc = .ok (.ior, 1)) (hz : Int32.ofInt x ||| Int32.ofInt y = Int32.ofInt z) (k : PW S d Y (pc + 1) L (vi z :: st) μ Q) : PW S d Y pc L (vi y :: vi x :: st) μ Q := by
  intro p l e s m args below meth c D cs ad A H locs ls C X hl
  obtain ⟨hx, hb, hml, hret, hlocks, hown, hts, hN⟩ := id C
  refine lv_ior hx hb hd ?_
  rw [hz]
  exact k p l e s m args below meth c D cs ad A H locs ls C X hl
theorem P_ixor {x y z : Int} (hd : decode Y.2.1 pc = .ok (.ixor, 1)) (hz : Int32.ofInt x ^^^ Int32.ofInt y = Int32.ofInt z) (k : PW S d Y (pc + 1) L (vi z :: st) μ Q) : PW S d Y pc L (vi y :: vi x :: st) μ Q := by
  intro p l e s m args below meth c D cs ad A H locs ls C X hl
  obtain ⟨hx, hb, hml, hret, hlocks, hown, hts, hN⟩ := id C
  refine lv_ixor hx hb hd ?_
  rw [hz]
  exact k p l e s m args below meth c D cs ad A H locs ls C X hl
theorem P_ishl {x y z : Int} (hd : decode Y.2.1 pc = .ok (.ishl, 1)) (hz : Int32.ofInt x <<< (Int32.ofInt y &&& 31) = Int32.ofInt z) (k : PW S d Y (pc + 1) L (vi z :: st) μ Q) : PW S d Y pc L (vi y :: vi x :: st) μ Q := by
  intro p l e s m args below meth c D cs ad A H locs ls C X hl
  obtain ⟨hx, hb, hml, hret, hlocks, hown, hts, hN⟩ := id C
  refine lv_ishl hx hb hd ?_
  rw [hz]
  exact k p l e s m args below meth c D cs ad A H locs ls C X hl
theorem P_ishr {x y z : Int} (hd : decode Y.2.1 pc = .ok (.ishr, 1)) (hz : Int32.ofInt x >>> (Int32.ofInt y &&& 31) = Int32.ofInt z) (k : PW S d Y (pc + 1) L (vi z :: st) μ Q) : PW S d Y pc L (vi y :: vi x :: st) μ Q := by
  intro p l e s m args below meth c D cs ad A H locs ls C X hl
  obtain ⟨hx, hb, hml, hret, hlocks, hown, hts, hN⟩ := id C
  refine lv_ishr hx hb hd ?_
  rw [hz]
  exact k p l e s m args below meth c D cs ad A H locs ls C X hl
theorem P_iushr {x y z : Int} (hd : decode Y.2.1 pc = .ok (.iushr, 1)) (hz : ((Int32.ofInt x).toUInt32 >>> ((Int32.ofInt y).toUInt32 &&& Int32.toUInt32 31)).toInt32 = Int32.ofInt z) (k : PW S d Y (pc + 1) L (vi z :: st) μ Q) : PW S d Y pc L (vi y :: vi x :: st) μ Q := by
  intro p l e s m args below meth c D cs ad A H locs ls C X hl
  obtain ⟨hx, hb, hml, hret, hlocks, hown, hts, hN⟩ := id C
  exact lv_iushr hx hb hd hz (k p l e s m args below meth c D cs ad A H locs ls C X hl)
theorem P_irem {x y z : Int} (hd : decode Y.2.1 pc = .ok (.irem, 1)) (hy : ¬ Int32.ofInt y = 0) (hz : Int32.ofInt x - Int32.ofInt x / Int32.ofInt y * Int32.ofInt y = Int32.ofInt z) (k : PW S d Y (pc + 1) L (vi z :: st) μ Q) : PW S d Y pc L (vi y :: vi x :: st) μ Q := by
  intro p l e s m args below meth c D cs ad A H locs ls C X hl
  obtain ⟨hx, hb, hml, hret, hlocks, hown, hts, hN⟩ := id C
  refine lv_irem hx hb hd hy ?_
  rw [hz]
  exact k p l e s m args below meth c D cs ad A H locs ls C X hl
theorem P_land {x y : BitVec 64} (hd : decode Y.2.1 pc = .ok (.land, 1)) (k : PW S d Y (pc + 1) L (vl (x &&& y) :: st) μ Q) : PW S d Y pc L (vl y :: vl x :: st) μ Q := by
  intro p l e s m args below meth c D cs ad A H locs ls C X hl
  obtain ⟨hx, hb, hml, hret, hlocks, hown, hts, hN⟩ := id C
  exact lv_land hx hb hd (k p l e s m args below meth c D cs ad A H locs ls C X hl)
theorem P_lor {x y : BitVec 64} (hd : decode Y.2.1 pc = .ok (.lor, 1)) (k : PW S d Y (pc + 1) L (vl (x ||| y) :: st) μ Q) : PW S d Y pc L (vl y :: vl x :: st) μ Q := by
  intro p l e s m args below meth c D cs ad A H locs ls C X hl
  obtain ⟨hx, hb, hml, hret, hlocks, hown, hts, hN⟩ := id C
  exact lv_lor hx hb hd (k p l e s m args below meth c D cs ad A H locs ls C X hl)
theorem P_lxor {x y : BitVec 64} (hd : decode Y.2.1 pc = .ok (.lxor, 1)) (k : PW S d Y (pc + 1) L (vl (x ^^^ y) :: st) μ Q) : PW S d Y pc L (vl y :: vl x :: st) μ Q := by
  intro p l e s m args below meth c D cs ad A H locs ls C X hl
  obtain ⟨hx, hb, hml, hret, hlocks, hown, hts, hN⟩ := id C
  exact lv_lxor hx hb hd (k p l e s m args below meth c D cs ad A H locs ls C X hl)
theorem P_lnot {x : BitVec 64} (hd : decode Y.2.1 pc = .ok (.lxor, 1)) (k : PW S d Y (pc + 1) L (vl (~~~x) :: st) μ Q) : PW S d Y pc L (vl (BitVec.allOnes 64) :: vl x :: st) μ Q := by
  intro p l e s m args below meth c D cs ad A H locs ls C X hl
  obtain ⟨hx, hb, hml, hret, hlocks, hown, hts, hN⟩ := id C
  have e9 : x ^^^ BitVec.allOnes 64 = ~~~x := BitVec.xor_allOnes
  refine lv_lxor hx hb hd ?_
  rw [wL_xor, e9]
  exact k p l e s m args below meth c D cs ad A H locs ls C X hl
theorem P_lushr {x : BitVec 64} {n : Int} (hd : decode Y.2.1 pc = .ok (.lushr, 1)) (h0 : 0 ≤ n) (h1 : n < 64) (k : PW S d Y (pc + 1) L (vl (x >>> n.toNat) :: st) μ Q) : PW S d Y pc L (vi n :: vl x :: st) μ Q := by
  intro p l e s m args below meth c D cs ad A H locs ls C X hl
  obtain ⟨hx, hb, hml, hret, hlocks, hown, hts, hN⟩ := id C
  exact lv_lushr hx hb hd (wL_ushr x h0 h1) (k p l e s m args below meth c D cs ad A H locs ls C X hl)
theorem P_lshl {x : BitVec 64} {n : Int} (hd : decode Y.2.1 pc = .ok (.lshl, 1)) (h0 : 0 ≤ n) (h1 : n < 64) (k : PW S d Y (pc + 1) L (vl (x <<< n.toNat) :: st) μ Q) : PW S d Y pc L (vi n :: vl x :: st) μ Q := by
  intro p l e s m args below meth c D cs ad A H locs ls C X hl
  obtain ⟨hx, hb, hml, hret, hlocks, hown, hts, hN⟩ := id C
  exact lv_lshl hx hb hd (wL_shl x h0 h1) (k p l e s m args below meth c D cs ad A H locs ls C X hl)
theorem P_lshr {x : BitVec 64} {n : Int} (hd : decode Y.2.1 pc = .ok (.lshr, 1)) (h0 : 0 ≤ n) (h1 : n < 64) (k : PW S d Y (pc + 1) L (vl (x.sshiftRight n.toNat) :: st) μ Q) : PW S d Y pc L (vi n :: vl x :: st) μ Q := by
  intro p l e s m args below meth c D cs ad A H locs ls C X hl
  obtain ⟨hx, hb, hml, hret, hlocks, hown, hts, hN⟩ := id C
  exact lv_lshr hx hb hd (wL_shr x h0 h1) (k p l e s m args below meth c D cs ad A H locs ls C X hl)
theorem P_ladd {x y z : BitVec 64} (hd : decode Y.2.1 pc = .ok (.ladd, 1)) (hz : x + y = z) (k : PW S d Y (pc + 1) L (vl z :: st) μ Q) : PW S d Y pc L (vl y :: vl x :: st) μ Q := by
  intro p l e s m args below meth c D cs ad A H locs ls C X hl
  obtain ⟨hx, hb, hml, hret, hlocks, hown, hts, hN⟩ := id C
  subst hz
  exact lv_ladd hx hb hd (k p l e s m args below meth c D cs ad A H locs ls C X hl)
theorem P_lsub {x y z : BitVec 64} (hd : decode Y.2.1 pc = .ok (.lsub, 1)) (hz : x - y = z) (k : PW S d Y (pc + 1) L (vl z :: st) μ Q) : PW S d Y pc L (vl y :: vl x :: st) μ Q := by
  intro p l e s m args below meth c D cs ad A H locs ls C X hl
  obtain ⟨hx, hb, hml, hret, hlocks, hown, hts, hN⟩ := id C
  subst hz
  exact lv_lsub hx hb hd (k p l e s m args below meth c D cs ad A H locs ls C X hl)
theorem P_l2i {x : BitVec 64} {z : Int} (hd : decode Y.2.1 pc = .ok (.l2i, 1)) (hz : (Int64.ofBitVec x).toInt32 = Int32.ofInt z) (k : PW S d Y (pc + 1) L (vi z :: st) μ Q) : PW S d Y pc L (vl x :: st) μ Q := by
  intro p l e s m args below meth c D cs ad A H locs ls C X hl
  obtain ⟨hx, hb, hml, hret, hlocks, hown, hts, hN⟩ := id C
  exact lv_l2i hx hb hd hz (k p l e s m args below meth c D cs ad A H locs ls C X hl)
theorem P_i2l {x : BitVec 64} {z : Int} (hd : decode Y.2.1 pc = .ok (.i2l, 1)) (hz : (Int32.ofInt z).toInt64 = Int64.ofBitVec x) (k : PW S d Y (pc + 1) L (vl x :: st) μ Q) : PW S d Y pc L (vi z :: st) μ Q := by
  intro p l e s m args below meth c D cs ad A H locs ls C X hl
  obtain ⟨hx, hb, hml, hret, hlocks, hown, hts, hN⟩ := id C
  exact lv_i2l hx hb hd hz (k p l e s m args below meth c D cs ad A H locs ls C X hl)
theorem P_dup {v : PV} (hd : decode Y.2.1 pc = .ok (.dup, 1)) (hv : pcat v = 1) (k : PW S d Y (pc + 1) L (v :: v :: st) μ Q) : PW S d Y pc L (v :: st) μ Q := by
  intro p l e s m args below meth c D cs ad A H locs ls C X hl
  obtain ⟨hx, hb, hml, hret, hlocks, hown, hts, hN⟩ := id C
  exact lv_dup hx hb hd ((rv_cat ad v).trans hv) (k p l e s m args below meth c D cs ad A H locs ls C X hl)
theorem P_pop {v : PV} (hd : decode Y.2.1 pc = .ok (.pop, 1)) (hv : pcat v = 1) (k : PW S d Y (pc + 1) L st μ Q) : PW S d Y pc L (v :: st) μ Q := by
  intro p l e s m args below meth c D cs ad A H locs ls C X hl
  obtain ⟨hx, hb, hml, hret, hlocks, hown, hts, hN⟩ := id C
  exact lv_pop hx hb hd ((rv_cat ad v).trans hv) (k p l e s m args below meth c D cs ad A H locs ls C X hl)
theorem P_dup_x1 {v u : PV} (hd : decode Y.2.1 pc = .ok (.dup_x1, 1)) (hv : pcat v = 1) (hu : pcat u = 1) (k : PW S d Y (pc + 1) L (v :: u :: v :: st) μ Q) : PW S d Y pc L (v :: u :: st) μ Q := by
  intro p l e s m args below meth c D cs ad A H locs ls C X hl
  obtain ⟨hx, hb, hml, hret, hlocks, hown, hts, hN⟩ := id C
  exact lv_dup_x1 hx hb hd ((rv_cat ad v).trans hv) ((rv_cat ad u).trans hu) (k p l e s m args below meth c D cs ad A H locs ls C X hl)
theorem P_dup2_11 {v u : PV} (hd : decode Y.2.1 pc = .ok (.dup2, 1)) (hv : pcat v = 1) (hu : pcat u = 1) (k : PW S d Y (pc + 1) L (v :: u :: v :: u :: st) μ Q) : PW S d Y pc L (v :: u :: st) μ Q := by
  intro p l e s m args below meth c D cs ad A H locs ls C X hl
  obtain ⟨hx, hb, hml, hret, hlocks, hown, hts, hN⟩ := id C
  exact lv_dup2_11 hx hb hd ((rv_cat ad v).trans hv) ((rv_cat ad u).trans hu) (k p l e s m args below meth c D cs ad A H locs ls C X hl)
theorem P_dup2_2 {v : PV} (hd : decode Y.2.1 pc = .ok (.dup2, 1)) (hv : pcat v = 2) (k : PW S d Y (pc + 1) L (v :: v :: st) μ Q) : PW S d Y pc L (v :: st) μ Q := by
  intro p l e s m args below meth c D cs ad A H locs ls C X hl
  obtain ⟨hx, hb, hml, hret, hlocks, hown, hts, hN⟩ := id C
  exact lv_dup2_2 hx hb hd ((rv_cat ad v).trans hv) (k p l e s m args below meth c D cs ad A H locs ls C X hl)
theorem P_pop2_2 {v : PV} (hd : decode Y.2.1 pc = .ok (.pop2, 1)) (hv : pcat v = 2) (k : PW S d Y (pc + 1) L st μ Q) : PW S d Y pc L (v :: st) μ Q := by
  intro p l e s m args below meth c D cs ad A H locs ls C X hl
  obtain ⟨hx, hb, hml, hret, hlocks, hown, hts, hN⟩ := id C
  exact lv_pop2_2 hx hb hd ((rv_cat ad v).trans hv) (k p l e s m args below meth c D cs ad A H locs ls C X hl)
theorem P_if_eq {x : Int} {off : Int} {tgt : Nat} (hd : decode Y.2.1 pc = .ok (.ifCond .eq off, 3)) (ht : (pc : Int) + off = (tgt : Int)) (hx0 : InR x) (kt : x = 0 → PW S d Y tgt L st μ Q) (kf : x ≠ 0 → PW S d Y (pc + 3) L st μ Q) : PW S d Y pc L (vi x :: st) μ Q := by
  intro p l e s m args below meth c D cs ad A H locs ls C X hl
  obtain ⟨hx, hb, hml, hret, hlocks, hown, hts, hN⟩ := id C
  have hy0 : InR 0 := by unfold InR; omega
  exact lv_if_eq hx hb hd ht (fun h => kt ((wI_eq hx0 hy0).mp h) p l e s m args below meth c D cs ad A H locs ls C X hl) (fun h => kf (fun z => h ((wI_eq hx0 hy0).mpr z)) p l e s m args below meth c D cs ad A H locs ls C X hl)
theorem P_icmp_eq {x y : Int} {off : Int} {tgt : Nat} (hd : decode Y.2.1 pc = .ok (.if_icmp .eq off, 3)) (ht : (pc : Int) + off = (tgt : Int)) (hx0 : InR x) (hy0 : InR y) (kt : x = y → PW S d Y tgt L st μ Q) (kf : x ≠ y → PW S d Y (pc + 3) L st μ Q) : PW S d Y pc L (vi y :: vi x :: st) μ Q := by
  intro p l e s m args below meth c D cs ad A H locs ls C X hl
  obtain ⟨hx, hb, hml, hret, hlocks, hown, hts, hN⟩ := id C
  exact lv_icmp_eq hx hb hd ht (fun h => kt ((wI_eq hx0 hy0).mp h) p l e s m args below meth c D cs ad A H locs ls C X hl) (fun h => kf (fun z => h ((wI_eq hx0 hy0).mpr z)) p l e s m args below meth c D cs ad A H locs ls C X hl)
theorem P_if_ne {x : Int} {off : Int} {tgt : Nat} (hd : decode Y.2.1 pc = .ok (.ifCond .ne off, 3)) (ht : (pc : Int) + off = (tgt : Int)) (hx0 : InR x) (kt : x ≠ 0 → PW S d Y tgt L st μ Q) (kf : x = 0 → PW S d Y (pc + 3) L st μ Q) : PW S d Y pc L (vi x :: st) μ Q := by
  intro p l e s m args below meth c D cs ad A H locs ls C X hl
  obtain ⟨hx, hb, hml, hret, hlocks, hown, hts, hN⟩ := id C
  have hy0 : InR 0 := by unfold InR; omega
  exact lv_if_ne hx hb hd ht (fun h => kt (fun z => h ((wI_eq hx0 hy0).mpr z)) p l e s m args below meth c D cs ad A H locs ls C X hl) (fun h => kf ((wI_eq hx0 hy0).mp h) p l e s m args below meth c D cs ad A H locs ls C X hl)
theorem P_icmp_ne {x y : Int} {off : Int} {tgt : Nat} (hd : decode Y.2.1 pc = .ok (.if_icmp .ne off, 3)) (ht : (pc : Int) + off = (tgt : Int)) (hx0 : InR x) (hy0 : InR y) (kt : x ≠ y → PW S d Y tgt L st μ Q) (kf : x = y → PW S d Y (pc + 3) L st μ Q) : PW S d Y pc L (vi y :: vi x :: st) μ Q := by
  intro p l e s m args below meth c D cs ad A H locs ls C X hl
  obtain ⟨hx, hb, hml, hret, hlocks, hown, hts, hN⟩ := id C
  exact lv_icmp_ne hx hb hd ht (fun h => kt (fun z => h ((wI_eq hx0 hy0).mpr z)) p l e s m args below meth c D cs ad A H locs ls C X hl) (fun h => kf ((wI_eq hx0 hy0).mp h) p l e s m args below meth c D cs ad A H locs ls C X hl)
theorem P_if_lt {x : Int} {off : Int} {tgt : Nat} (hd : decode Y.2.1 pc = .ok (.ifCond .lt off, 3)) (ht : (pc : Int) + off = (tgt : Int)) (hx0 : InR x) (kt : x < 0 → PW S d Y tgt L st μ Q) (kf : 0 ≤ x → PW S d Y (pc + 3) L st μ Q) : PW S d Y pc L (vi x :: st) μ Q := by
  intro p l e s m args below meth c D cs ad A H locs ls C X hl
  obtain ⟨hx, hb, hml, hret, hlocks, hown, hts, hN⟩ := id C
  have hy0 : InR 0 := by unfold InR; omega
  exact lv_if_lt hx hb hd ht (fun h => kt ((wI_lt hx0 hy0).mp h) p l e s m args below meth c D cs ad A H locs ls C X hl) (fun h => kf (Int.not_lt.mp (fun z => h ((wI_lt hx0 hy0).mpr z))) p l e s m args below meth c D cs ad A H locs ls C X hl)
theorem P_icmp_lt {x y : Int} {off : Int} {tgt : Nat} (hd : decode Y.2.1 pc = .ok (.if_icmp .lt off, 3)) (ht : (pc : Int) + off = (tgt : Int)) (hx0 : InR x) (hy0 : InR y) (kt : x < y → PW S d Y tgt L st μ Q) (kf : y ≤ x → PW S d Y (pc + 3) L st μ Q) : PW S d Y pc L (vi y :: vi x :: st) μ Q := by
  intro p l e s m args below meth c D cs ad A H locs ls C X hl
  obtain ⟨hx, hb, hml, hret, hlocks, hown, hts, hN⟩ := id C
  exact lv_icmp_lt hx hb hd ht (fun h => kt ((wI_lt hx0 hy0).mp h) p l e s m args below meth c D cs ad A H locs ls C X hl) (fun h => kf (Int.not_lt.mp (fun z => h ((wI_lt hx0 hy0).mpr z))) p l e s m args below meth c D cs ad A H locs ls C X hl)
theorem P_if_ge {x : Int} {off : Int} {tgt : Nat} (hd : decode Y.2.1 pc = .ok (.ifCond .ge off, 3)) (ht : (pc : Int) + off = (tgt : Int)) (hx0 : InR x) (kt : 0 ≤ x → PW S d Y tgt L st μ Q) (kf : x < 0 → PW S d Y (pc + 3) L st μ Q) : PW S d Y pc L (vi x :: st) μ Q := by
  intro p l e s m args below meth c D cs ad A H locs ls C X hl
  obtain ⟨hx, hb, hml, hret, hlocks, hown, hts, hN⟩ := id C
  have hy0 : InR 0 := by unfold InR; omega
  exact lv_if_ge hx hb hd ht (fun h => kt ((wI_le hy0 hx0).mp h) p l e s m args below meth c D cs ad A H locs ls C X hl) (fun h => kf (Int.not_le.mp (fun z => h ((wI_le hy0 hx0).mpr z))) p l e s m args below meth c D cs ad A H locs ls C X hl)
theorem P_icmp_ge {x y : Int} {off : Int} {tgt : Nat} (hd : decode Y.2.1 pc = .ok (.if_icmp .ge off, 3)) (ht : (pc : Int) + off = (tgt : Int)) (hx0 : InR x) (hy0 : InR y) (kt : y ≤ x → PW S d Y tgt L st μ Q) (kf : x < y → PW S d Y (pc + 3) L st μ Q) : PW S d Y pc L (vi y :: vi x :: st) μ Q := by
  intro p l e s m args below meth c D cs ad A H locs ls C X hl
  obtain ⟨hx, hb, hml, hret, hlocks, hown, hts, hN⟩ := id C
  exact lv_icmp_ge hx hb hd ht (fun h => kt ((wI_le hy0 hx0).mp h) p l e s m args below meth c D cs ad A H locs ls C X hl) (fun h => kf (Int.not_le.mp (fun z => h ((wI_le hy0 hx0).mpr z))) p l e s m args below meth c D cs ad A H locs ls C X hl)
theorem P_if_gt {x : Int} {off : Int} {tgt : Nat} (hd : decode Y.2.1 pc = .ok (.ifCond .gt off, 3)) (ht : (pc : Int) + off = (tgt : Int)) (hx0 : InR x) (kt : 0 < x → PW S d Y tgt L st μ Q) (kf : x ≤ 0 → PW S d Y (pc + 3) L st μ Q) : PW S d Y pc L (vi x :: st) μ Q := by
  intro p l e s m args below meth c D cs ad A H locs ls C X hl
  obtain ⟨hx, hb, hml, hret, hlocks, hown, hts, hN⟩ := id C
  have hy0 : InR 0 := by unfold InR; omega
  exact lv_if_gt hx hb hd ht (fun h => kt ((wI_lt hy0 hx0).mp h) p l e s m args below meth c D cs ad A H locs ls C X hl) (fun h => kf (Int.not_lt.mp (fun z => h ((wI_lt hy0 hx0).mpr z))) p l e s m args below meth c D cs ad A H locs ls C X hl)
theorem P_icmp_gt {x y : Int} {off : Int} {tgt : Nat} (hd : decode Y.2.1 pc = .ok (.if_icmp .gt off, 3)) (ht : (pc : Int) + off = (tgt : Int)) (hx0 : InR x) (hy0 : InR y) (kt : y < x → PW S d Y tgt L st μ Q) (kf : x ≤ y → PW S d Y (pc + 3) L st μ Q) : PW S d Y pc L (vi y :: vi x :: st) μ Q := by
  intro p l e s m args below meth c D cs ad A H locs ls C X hl
  obtain ⟨hx, hb, hml, hret, hlocks, hown, hts, hN⟩ := id C
  exact lv_icmp_gt hx hb hd ht (fun h => kt ((wI_lt hy0 hx0).mp h) p l e s m args below meth c D cs ad A H locs ls C X hl) (fun h => kf (Int.not_lt.mp (fun z => h ((wI_lt hy0 hx0).mpr z))) p l e s m args below meth c D cs ad A H locs ls C X hl)
theorem P_if_le {x : Int} {off : Int} {tgt : Nat} (hd : decode Y.2.1 pc = .ok (.ifCond .le off, 3)) (ht : (pc : Int) + off = (tgt : Int)) (hx0 : InR x) (kt : x ≤ 0 → PW S d Y tgt L st μ Q) (kf : 0 < x → PW S d Y (pc + 3) L st μ Q) : PW S d Y pc L (vi x :: st) μ Q := by
  intro p l e s m args below meth c D cs ad A H locs ls C X hl
  obtain ⟨hx, hb, hml, hret, hlocks, hown, hts, hN⟩ := id C
  have hy0 : InR 0 := by unfold InR; omega
  exact lv_if_le hx hb hd ht (fun h => kt ((wI_le hx0 hy0).mp h) p l e s m args below meth c D cs ad A H locs ls C X hl) (fun h => kf (Int.not_le.mp (fun z => h ((wI_le hx0 hy0).mpr z))) p l e s m args below meth c D cs ad A H locs ls C X hl)
theorem P_icmp_le {x y : Int} {off : Int} {tgt : Nat} (hd : decode Y.2.1 pc = .ok (.if_icmp .le off, 3)) (ht : (pc : Int) + off = (tgt : Int)) (hx0 : InR x) (hy0 : InR y) (kt : x ≤ y → PW S d Y tgt L st μ Q) (kf : y < x → PW S d Y (pc + 3) L st μ Q) : PW S d Y pc L (vi y :: vi x :: st) μ Q := by
  intro p l e s m args below meth c D cs ad A H locs ls C X hl
  obtain ⟨hx, hb, hml, hret, hlocks, hown, hts, hN⟩ := id C
  exact lv_icmp_le hx hb hd ht (fun h => kt ((wI_le hx0 hy0).mp h) p l e s m args below meth c D cs ad A H locs ls C X hl) (fun h => kf (Int.not_le.mp (fun z => h ((wI_le hx0 hy0).mpr z))) p l e s m args below meth c D cs ad A H locs ls C X hl)
theorem P_goto {off : Int} {tgt : Nat} (hd : decode Y.2.1 pc = .ok (.goto off, 3)) (ht : (pc : Int) + off = (tgt : Int)) (k : PW S d Y tgt L st μ Q) : PW S d Y pc L st μ Q := by
  intro p l e s m args below meth c D cs ad A H locs ls C X hl
  obtain ⟨hx, hb, hml, hret, hlocks, hown, hts, hN⟩ := id C
  exact lv_goto hx hb hd ht (k p l e s m args below meth c D cs ad A H locs ls C X hl)
theorem P_icmp_ne_eq {x : Int} {off : Int} (hd : decode Y.2.1 pc = .ok (.if_icmp .ne off, 3)) (ht : ∃ tgt : Nat, (pc : Int) + off = (tgt : Int)) (k : PW S d Y (pc + 3) L st μ Q) : PW S d Y pc L (vi x :: vi x :: st) μ Q := by
  intro p l e s m args below meth c D cs ad A H locs ls C X hl
  obtain ⟨hx, hb, hml, hret, hlocks, hown, hts, hN⟩ := id C
  obtain ⟨tgt, ht⟩ := ht
  exact lv_icmp_ne hx hb hd ht (fun h => absurd rfl h) (fun _ => k p l e s m args below meth c D cs ad A H locs ls C X hl)
theorem P_icmp_eq_eq {x : Int} {off : Int} {tgt : Nat} (hd : decode Y.2.1 pc = .ok (.if_icmp .eq off, 3)) (ht : (pc : Int) + off = (tgt : Int)) (k : PW S d Y tgt L st μ Q) : PW S d Y pc L (vi x :: vi x :: st) μ Q := by
  intro p l e s m args below meth c D cs ad A H locs ls C X hl
  obtain ⟨hx, hb, hml, hret, hlocks, hown, hts, hN⟩ := id C
  exact lv_icmp_eq hx hb hd ht (fun _ => k p l e s m args below meth c D cs ad A H locs ls C X hl) (fun h => absurd rfl h)
theorem P_lcmp_eq {x y : BitVec 64} {off : Int} {tgt : Nat} (hd : decode Y.2.1 pc = .ok (.lcmp, 1)) (hd2 : decode Y.2.1 (pc + 1) = .ok (.ifCond .eq off, 3)) (ht : ((pc + 1 : Nat) : Int) + off = (tgt : Int)) (kt : x = y → PW S d Y tgt L st μ Q) (kf : x ≠ y → PW S d Y (pc + 1 + 3) L st μ Q) : PW S d Y pc L (vl y :: vl x :: st) μ Q := by
  intro p l e s m args below meth c D cs ad A H locs ls C X hl
  obtain ⟨hx, hb, hml, hret, hlocks, hown, hts, hN⟩ := id C
  refine W.lcmp hx hb hd ?_
  refine lv_if_eq hx hb hd2 ht (fun h => ?_) (fun h => ?_)
  · exact kt (wL_eq.mp ((lg_cmp_eq _ _).mp h)) p l e s m args below meth c D cs ad A H locs ls C X hl
  · exact kf (fun z => h ((lg_cmp_eq _ _).mpr (wL_eq.mpr z))) p l e s m args below meth c D cs ad A H locs ls C X hl
theorem P_lcmp_ne {x y : BitVec 64} {off : Int} {tgt : Nat} (hd : decode Y.2.1 pc = .ok (.lcmp, 1)) (hd2 : decode Y.2.1 (pc + 1) = .ok (.ifCond .ne off, 3)) (ht : ((pc + 1 : Nat) : Int) + off = (tgt : Int)) (kt : x ≠ y → PW S d Y tgt L st μ Q) (kf : x = y → PW S d Y (pc + 1 + 3) L st μ Q) : PW S d Y pc L (vl y :: vl x :: st) μ Q := by
  intro p l e s m args below meth c D cs ad A H locs ls C X hl
  obtain ⟨hx, hb, hml, hret, hlocks, hown, hts, hN⟩ := id C
  refine W.lcmp hx hb hd ?_
  refine lv_if_ne hx hb hd2 ht (fun h => ?_) (fun h => ?_)
  · exact kt (fun z => h ((lg_cmp_eq _ _).mpr (wL_eq.mpr z))) p l e s m args below meth c D cs ad A H locs ls C X hl
  · exact kf (wL_eq.mp ((lg_cmp_eq _ _).mp h)) p l e s m args below meth c D cs ad A H locs ls C X hl
theorem P_tableIn {dflt lo hi : Int} {offs : Array Int} {len : Nat} {x off : Int} {tgt : Nat} (hd : decode Y.2.1 pc = .ok (.tableswitch dflt lo hi offs, len)) (hx0 : InR x) (h1 : lo ≤ x) (h2 : x ≤ hi) (ho : offs[(x - lo).toNat]? = some off) (ht : (pc : Int) + off = (tgt : Int)) (k : PW S d Y tgt L st μ Q) : PW S d Y pc L (vi x :: st) μ Q := by
  intro p l e s m args below meth c D cs ad A H locs ls C X hl
  obtain ⟨hx, hb, hml, hret, hlocks, hown, hts, hN⟩ := id C
  exact lv_tableIn hx hb hd (by rw [wI hx0]; omega) (by rw [wI hx0]; omega) (by rw [wI hx0]; exact ho) ht (k p l e s m args below meth c D cs ad A H locs ls C X hl)
theorem P_tableOut {dflt lo hi : Int} {offs : Array Int} {len : Nat} {x : Int} {tgt : Nat} (hd : decode Y.2.1 pc = .ok (.tableswitch dflt lo hi offs, len)) (hx0 : InR x) (h : x < lo ∨ hi < x) (ht : (pc : Int) + dflt = (tgt : Int)) (k : PW S d Y tgt L st μ Q) : PW S d Y pc L (vi x :: st) μ Q := by
  intro p l e s m args below meth c D cs ad A H locs ls C X hl
  obtain ⟨hx, hb, hml, hret, hlocks, hown, hts, hN⟩ := id C
  exact lv_tableOut hx hb hd (by rw [wI hx0]; exact h) ht (k p l e s m args below meth c D cs ad A H locs ls C X hl)
theorem P_lookup {dflt : Int} {ps : Array (Int × Int)} {len : Nat} {x off : Int} {tgt : Nat} (hd : decode Y.2.1 pc = .ok (.lookupswitch dflt ps, len)) (hp : (ps.toList.zip (ps.toList.drop 1)).all (fun (a, next) => a.1 < next.1) = true) (hx0 : InR x) (ho : Op.lookupswitch.offset ps.toList dflt x = off) (ht : (pc : Int) + off = (tgt : Int)) (k : PW S d Y tgt L st μ Q) : PW S d Y pc L (vi x :: st) μ Q := by
  intro p l e s m args below meth c D cs ad A H locs ls C X hl
  obtain ⟨hx, hb, hml, hret, hlocks, hown, hts, hN⟩ := id C
  exact lv_lookup hx hb hd hp (by rw [wI hx0]; exact ho) ht (k p l e s m args below meth c D cs ad A H locs ls C X hl)
theorem P_iret {z : Int} (hd : decode Y.2.1 pc = .ok (.ireturn, 1)) (hr : Y.2.2.2 = some .int) (hQ : Q (some (vi z)) μ) : PW S d Y pc L [vi z] μ Q := by
  intro p l e s m args below meth c D cs ad A H locs ls C X hl
  obtain ⟨hx, hb, hml, hret, hlocks, hown, hts, hN⟩ := id C
  obtain ⟨hA, hS, hK, hP, hD, hT⟩ := X
  exact W.iret (v := Int32.ofInt z) hx hb (hret.trans hr) (fun t ht hW => ⟨⟨some (vi z), μ, rfl, hQ, by rw [ht]; exact hP, va_K.moved hW.alike hK⟩, hS.F ht⟩) hS.2.2 hd hlocks
theorem P_zret {z : Int} (hd : decode Y.2.1 pc = .ok (.ireturn, 1)) (hr : Y.2.2.2 = some .boolean) (hz : z = 0 ∨ z = 1) (hQ : Q (some (vi z)) μ) : PW S d Y pc L [vi z] μ Q := by
  intro p l e s m args below meth c D cs ad A H locs ls C X hl
  obtain ⟨hx, hb, hml, hret, hlocks, hown, hts, hN⟩ := id C
  obtain ⟨hA, hS, hK, hP, hD, hT⟩ := X
  exact W.zret (v := Int32.ofInt z) hx hb (hret.trans hr) (by rcases hz with rfl | rfl <;> decide) (fun t ht hW => ⟨⟨some (vi z), μ, rfl, hQ, by rw [ht]; exact hP, va_K.moved hW.alike hK⟩, hS.F ht⟩) hS.2.2 hd hlocks
theorem P_lret {b : BitVec 64} (hd : decode Y.2.1 pc = .ok (.lreturn, 1)) (hr : Y.2.2.2 = some .long) (hQ : Q (some (vl b)) μ) : PW S d Y pc L [vl b] μ Q := by
  intro p l e s m args below meth c D cs ad A H locs ls C X hl
  obtain ⟨hx, hb, hml, hret, hlocks, hown, hts, hN⟩ := id C
  obtain ⟨hA, hS, hK, hP, hD, hT⟩ := X
  exact W.lret (v := Int64.ofBitVec b) hx hb (hret.trans hr) (fun t ht hW => ⟨⟨some (vl b), μ, rfl, hQ, by rw [ht]; exact hP, va_K.moved hW.alike hK⟩, hS.F ht⟩) hS.2.2 hd hlocks
theorem P_vret (hd : decode Y.2.1 pc = .ok (.return_, 1)) (hr : Y.2.2.2 = none) (hQ : Q none μ) : PW S d Y pc L [] μ Q := by
  intro p l e s m args below meth c D cs ad A H locs ls C X hl
  obtain ⟨hx, hb, hml, hret, hlocks, hown, hts, hN⟩ := id C
  obtain ⟨hA, hS, hK, hP, hD, hT⟩ := X
  exact W.vret hx hb (hret.trans hr) (fun t ht hW => ⟨⟨none, μ, rfl, hQ, by rw [ht]; exact hP, va_K.moved hW.alike hK⟩, hS.F ht⟩) hS.2.2 hd hlocks
end PR
