/-- as PC.of, for a class whose name has folders: no native's row stands for the method -/
theorem PC.ofF {S : List Shp} {d : Nat} {Y : Mth} {as : List PV} {μ : Mem} {Q : Option PV → Mem → Prop} (hy : plainFor Y.1 = true) (hw : pwide as ≤ Y.2.2.1) (h : PW S d Y 0 (pargs 0 as) [] μ Q) : PC S d Y as μ Q := by
  intro l D cs ad sz
  refine MetFree.of_bodySF (code := Y.2.1) (maxLocals := Y.2.2.1) (ret := Y.2.2.2) hy (fun args s m hpre hn => ?_) (fun p e s m args below meth c s₁ B hml hv _ => ?_)
  · obtain ⟨mt, cd, k1, k2, k3, k4, k5, k6, _⟩ := Cond.code_spec hn (atoms_spec (ws := .code Y.1 Y.2.1 Y.2.2.1 Y.2.2.2 :: tblG) hpre _ List.mem_cons_self)
    exact ⟨mt, cd, k1, k2, k3, k4, k5, k6⟩
  have hst : s₁.heap = s.heap := by rw [B.state]; rfl
  obtain ⟨rfl, hsz, hP, hK, hD0, hN, hT⟩ := hv
  have hx := B.exec
  have hb := B.bytes
  have hr := B.returns
  have hts := atoms_spec (ws := .code Y.1 Y.2.1 Y.2.2.1 Y.2.2.2 :: tblG) B.pre
  have hown : s.vm.findClass Y.1.cls = some m.cls := findClass_of_methodNamed B.named
  have hlocks := B.notSynchronized
  subst hsz
  have hD := hD0.self (sz := s.heap.size)
  have hl := lv_entry (as.map (rv ad)) (n := Y.2.2.1) (by rw [pwide_sl]; exact hw)
  rw [lg_entry_eq]
  rw [rl_args] at hl
  have run := h p l e s m _ below meth c D cs ad _ s.heap [] _ ⟨hx, hb, hml, hr, hlocks, hown, fun w hw => hts w (List.mem_cons_of_mem _ hw), hN⟩ ⟨fun q hq => Or.inr hq, va_S.rf, hK, hP, hD, hT⟩ hl
  obtain ⟨t, r1, o, r2, r3, r4⟩ := run s₁ hst (Stand.of_body B)
  exact ⟨t, o, r1, r2, r3, r4.1, r4.2⟩
theorem pop64 {x y1 y2 y3 y4 y5 y6 : BitVec 64} (h1 : y1 = x - ((x >>> 1) &&& 6148914691236517205#64)) (h2 : y2 = (y1 &&& 3689348814741910323#64) + ((y1 >>> 2) &&& 3689348814741910323#64)) (h3 : y3 = (y2 + y2 >>> 4) &&& 1085102592571150095#64) (h4 : y4 = y3 + y3 >>> 8) (h5 : y5 = y4 + y4 >>> 16) (h6 : y6 = y5 + y5 >>> 32) : y6.toNat &&& 127 = cnt (fun i => x.getLsbD i) 64 := by
  obtain ⟨X, hX⟩ : ∃ X, x.toNat = X := ⟨_, rfl⟩
  have hlt : X < 2 ^ 64 := by rw [← hX]; exact x.isLt
  have hP := popN (show X / 256 ^ 0 % 256 < 256 from Nat.mod_lt _ (by decide)) (show X / 256 ^ 1 % 256 < 256 from Nat.mod_lt _ (by decide)) (show X / 256 ^ 2 % 256 < 256 from Nat.mod_lt _ (by decide)) (show X / 256 ^ 3 % 256 < 256 from Nat.mod_lt _ (by decide)) (show X / 256 ^ 4 % 256 < 256 from Nat.mod_lt _ (by decide)) (show X / 256 ^ 5 % 256 < 256 from Nat.mod_lt _ (by decide)) (show X / 256 ^ 6 % 256 < 256 from Nat.mod_lt _ (by decide)) (show X / 256 ^ 7 % 256 < 256 from Nat.mod_lt _ (by decide)) (X := X) (by omega) rfl rfl rfl rfl rfl rfl
  obtain ⟨p1, p2, p3, p4, p5⟩ := hP
  generalize hY1 : X - ((X / 2) &&& 6148914691236517205) = Y1 at p1 p2 p3 p4 p5
  generalize hY2 : (Y1 &&& 3689348814741910323) + ((Y1 / 4) &&& 3689348814741910323) = Y2 at p2 p3 p4 p5
  generalize hY3 : (Y2 + Y2 / 16) &&& 1085102592571150095 = Y3 at p4 p5
  generalize hY4 : Y3 + Y3 / 256 = Y4 at p4 p5
  generalize hY5 : Y4 + Y4 / 65536 = Y5 at p4 p5
  generalize hY6 : Y5 + Y5 / 4294967296 = Y6 at p4 p5
  have sh : ∀ (v : BitVec 64) (k : Nat), (v >>> k).toNat = v.toNat / 2 ^ k := fun v k => by rw [BitVec.toNat_ushiftRight, Nat.shiftRight_eq_div_pow]
  have k5 : (6148914691236517205#64).toNat = 6148914691236517205 := by decide
  have k3 : (3689348814741910323#64).toNat = 3689348814741910323 := by decide
  have kf : (1085102592571150095#64).toNat = 1085102592571150095 := by decide
  have e1 : y1.toNat = Y1 := by
    have t : ((x >>> 1) &&& 6148914691236517205#64).toNat = ((X / 2) &&& 6148914691236517205) := by rw [BitVec.toNat_and, sh, hX, k5]
    rw [h1, BitVec.toNat_sub_of_le (by rw [BitVec.le_def, t, hX]; exact p1), t, hX, hY1]
  have e2 : y2.toNat = Y2 := by
    rw [h2, BitVec.toNat_add, BitVec.toNat_and, BitVec.toNat_and, sh, e1, k3, show (2 : Nat) ^ 2 = 4 from rfl, hY2]
    exact Nat.mod_eq_of_lt (by omega)
  have e3 : y3.toNat = Y3 := by
    rw [h3, BitVec.toNat_and, BitVec.toNat_add, sh, e2, kf, show (2 : Nat) ^ 4 = 16 from rfl, Nat.mod_eq_of_lt (by omega), hY3]
  have e4 : y4.toNat = Y4 := by
    rw [h4, BitVec.toNat_add, sh, e3, show (2 : Nat) ^ 8 = 256 from rfl, hY4]
    exact Nat.mod_eq_of_lt (by omega)
  have e5 : y5.toNat = Y5 := by
    rw [h5, BitVec.toNat_add, sh, e4, show (2 : Nat) ^ 16 = 65536 from rfl, hY5]
    exact Nat.mod_eq_of_lt (by omega)
  have e6 : y6.toNat = Y6 := by
    rw [h6, BitVec.toNat_add, sh, e5, show (2 : Nat) ^ 32 = 4294967296 from rfl, hY6]
    exact Nat.mod_eq_of_lt (by omega)
  rw [e6, show (127 : Nat) = 2 ^ 7 - 1 from rfl, Nat.and_two_pow_sub_one_eq_mod, show (2 : Nat) ^ 7 = 128 from rfl, p5]
  rw [show (fun i => x.getLsbD i) = (fun i => X.testBit i) from by funext i; rw [← hX]; rfl]
  exact cnt_64.symm
set_option maxHeartbeats 1000000 in
set_option maxRecDepth 100000 in
theorem c_J13_bitCount_95d88 {μ : Mem} {x : BitVec 64}  : PC shC 0 mJ13_bitCount_95d88 [vl x] (μ) (QI (fun z μ' => z = (cnt (fun i => x.getLsbD i) 64 : Int) ∧ μ' = μ)) := by
  refine PC.ofF (by decide +kernel) (Nat.le_of_ble_eq_true rfl) ?_
  refine P_sub (L' := [(0, vl x)]) [0] rfl ?_
  refine P_lload_n (pc := 0) dJ13_bitCount_95d88_0 rfl 0 rfl ?_
  refine P_lload_n (pc := 1) dJ13_bitCount_95d88_1 rfl 0 rfl ?_
  refine P_iconst (pc := 2) dJ13_bitCount_95d88_2 ?_
  refine P_lushr (pc := 3) dJ13_bitCount_95d88_3 (by omega) (by omega) ?_
  refine P_ldc2 (b := 6148914691236517205#64) (pc := 4) dJ13_bitCount_95d88_4 kl_RJ13_314 (by decide +kernel) ?_
  refine P_land (pc := 7) dJ13_bitCount_95d88_7 ?_
  refine P_lsub (pc := 8) dJ13_bitCount_95d88_8 rfl ?_
  refine P_lstore_n (L' := [(0, vl _)]) (pc := 9) dJ13_bitCount_95d88_9 rfl (by decide) rfl ?_
  refine P_lload_n (pc := 10) dJ13_bitCount_95d88_10 rfl 0 rfl ?_
  refine P_ldc2 (b := 3689348814741910323#64) (pc := 11) dJ13_bitCount_95d88_11 kl_RJ13_316 (by decide +kernel) ?_
  refine P_land (pc := 14) dJ13_bitCount_95d88_14 ?_
  refine P_lload_n (pc := 15) dJ13_bitCount_95d88_15 rfl 0 rfl ?_
  refine P_iconst (pc := 16) dJ13_bitCount_95d88_16 ?_
  refine P_lushr (pc := 17) dJ13_bitCount_95d88_17 (by omega) (by omega) ?_
  refine P_ldc2 (b := 3689348814741910323#64) (pc := 18) dJ13_bitCount_95d88_18 kl_RJ13_316 (by decide +kernel) ?_
  refine P_land (pc := 21) dJ13_bitCount_95d88_21 ?_
  refine P_ladd (pc := 22) dJ13_bitCount_95d88_22 rfl ?_
  refine P_lstore_n (L' := [(0, vl _)]) (pc := 23) dJ13_bitCount_95d88_23 rfl (by decide) rfl ?_
  refine P_lload_n (pc := 24) dJ13_bitCount_95d88_24 rfl 0 rfl ?_
  refine P_lload_n (pc := 25) dJ13_bitCount_95d88_25 rfl 0 rfl ?_
  refine P_iconst (pc := 26) dJ13_bitCount_95d88_26 ?_
  refine P_lushr (pc := 27) dJ13_bitCount_95d88_27 (by omega) (by omega) ?_
  refine P_ladd (pc := 28) dJ13_bitCount_95d88_28 rfl ?_
  refine P_ldc2 (b := 1085102592571150095#64) (pc := 29) dJ13_bitCount_95d88_29 kl_RJ13_318 (by decide +kernel) ?_
  refine P_land (pc := 32) dJ13_bitCount_95d88_32 ?_
  refine P_lstore_n (L' := [(0, vl _)]) (pc := 33) dJ13_bitCount_95d88_33 rfl (by decide) rfl ?_
  refine P_lload_n (pc := 34) dJ13_bitCount_95d88_34 rfl 0 rfl ?_
  refine P_lload_n (pc := 35) dJ13_bitCount_95d88_35 rfl 0 rfl ?_
  refine P_bipush (pc := 36) dJ13_bitCount_95d88_36 (by decide) ?_
  refine P_lushr (pc := 38) dJ13_bitCount_95d88_38 (by omega) (by omega) ?_
  refine P_ladd (pc := 39) dJ13_bitCount_95d88_39 rfl ?_
  refine P_lstore_n (L' := [(0, vl _)]) (pc := 40) dJ13_bitCount_95d88_40 rfl (by decide) rfl ?_
  refine P_lload_n (pc := 41) dJ13_bitCount_95d88_41 rfl 0 rfl ?_
  refine P_lload_n (pc := 42) dJ13_bitCount_95d88_42 rfl 0 rfl ?_
  refine P_bipush (pc := 43) dJ13_bitCount_95d88_43 (by decide) ?_
  refine P_lushr (pc := 45) dJ13_bitCount_95d88_45 (by omega) (by omega) ?_
  refine P_ladd (pc := 46) dJ13_bitCount_95d88_46 rfl ?_
  refine P_lstore_n (L' := [(0, vl _)]) (pc := 47) dJ13_bitCount_95d88_47 rfl (by decide) rfl ?_
  refine P_lload_n (pc := 48) dJ13_bitCount_95d88_48 rfl 0 rfl ?_
  refine P_lload_n (pc := 49) dJ13_bitCount_95d88_49 rfl 0 rfl ?_
  refine P_bipush (pc := 50) dJ13_bitCount_95d88_50 (by decide) ?_
  refine P_lushr (pc := 52) dJ13_bitCount_95d88_52 (by omega) (by omega) ?_
  refine P_ladd (pc := 53) dJ13_bitCount_95d88_53 rfl ?_
  refine P_lstore_n (L' := [(0, vl _)]) (pc := 54) dJ13_bitCount_95d88_54 rfl (by decide) rfl ?_
  refine P_lload_n (pc := 55) dJ13_bitCount_95d88_55 rfl 0 rfl ?_
  refine P_l2i (pc := 56) dJ13_bitCount_95d88_56 (wL_2i _) ?_
  refine P_bipush (pc := 57) dJ13_bitCount_95d88_57 (by decide) ?_
  refine P_iand (pc := 59) dJ13_bitCount_95d88_59 (wN_and (b := 127)) ?_
  exact P_iret (pc := 60) dJ13_bitCount_95d88_60 rfl (QI.mk (by refine ⟨congrArg Nat.cast ?_, rfl⟩; exact pop64 rfl rfl rfl rfl rfl rfl))
set_option maxHeartbeats 1000000 in
set_option maxRecDepth 100000 in
theorem c_J9_max_7cf53 {μ : Mem} {a b : Int} (ha : InR a) (hb : InR b) : PC shC 0 mJ9_max_7cf53 [vi a, vi b] (μ) (QI (fun z μ' => z = (if a < b then b else a) ∧ μ' = μ)) := by
  refine PC.ofF (by decide +kernel) (Nat.le_of_ble_eq_true rfl) ?_
  refine P_sub (L' := [(0, vi a), (1, vi b)]) [0, 1] rfl ?_
  refine P_iload_n (pc := 0) dJ9_max_7cf53_0 rfl 0 rfl ?_
  refine P_iload_n (pc := 1) dJ9_max_7cf53_1 rfl 1 rfl ?_
  refine P_icmp_lt (tgt := 9) (pc := 2) dJ9_max_7cf53_2 (by decide) (by assumption) (by assumption) (fun c_2 => ?_) (fun c_2 => ?_)
  · refine P_iload_n (pc := 9) dJ9_max_7cf53_9 rfl 1 rfl ?_
    exact P_iret (pc := 10) dJ9_max_7cf53_10 rfl (QI.mk (by first | exact ⟨by rw [if_pos (by omega)], rfl⟩ | exact ⟨by rw [if_neg (by omega)], rfl⟩))
  · refine P_iload_n (pc := 5) dJ9_max_7cf53_5 rfl 0 rfl ?_
    refine P_goto (tgt := 10) (pc := 6) dJ9_max_7cf53_6 (by decide) ?_
    exact P_iret (pc := 10) dJ9_max_7cf53_10 rfl (QI.mk (by first | exact ⟨by rw [if_pos (by omega)], rfl⟩ | exact ⟨by rw [if_neg (by omega)], rfl⟩))
set_option maxHeartbeats 1000000 in
set_option maxRecDepth 100000 in
theorem c_J9_min_7cf53 {μ : Mem} {a b : Int} (ha : InR a) (hb : InR b) : PC shC 0 mJ9_min_7cf53 [vi a, vi b] (μ) (QI (fun z μ' => z = (if a > b then b else a) ∧ μ' = μ)) := by
  refine PC.ofF (by decide +kernel) (Nat.le_of_ble_eq_true rfl) ?_
  refine P_sub (L' := [(0, vi a), (1, vi b)]) [0, 1] rfl ?_
  refine P_iload_n (pc := 0) dJ9_min_7cf53_0 rfl 0 rfl ?_
  refine P_iload_n (pc := 1) dJ9_min_7cf53_1 rfl 1 rfl ?_
  refine P_icmp_gt (tgt := 9) (pc := 2) dJ9_min_7cf53_2 (by decide) (by assumption) (by assumption) (fun c_2 => ?_) (fun c_2 => ?_)
  · refine P_iload_n (pc := 9) dJ9_min_7cf53_9 rfl 1 rfl ?_
    exact P_iret (pc := 10) dJ9_min_7cf53_10 rfl (QI.mk (by first | exact ⟨by rw [if_pos (by omega)], rfl⟩ | exact ⟨by rw [if_neg (by omega)], rfl⟩))
  · refine P_iload_n (pc := 5) dJ9_min_7cf53_5 rfl 0 rfl ?_
    refine P_goto (tgt := 10) (pc := 6) dJ9_min_7cf53_6 (by decide) ?_
    exact P_iret (pc := 10) dJ9_min_7cf53_10 rfl (QI.mk (by first | exact ⟨by rw [if_pos (by omega)], rfl⟩ | exact ⟨by rw [if_neg (by omega)], rfl⟩))
set_option maxHeartbeats 1000000 in
set_option maxRecDepth 100000 in
theorem c_J6_bitCount_0f7a4 {μ : Mem} {s : Nat} (hs : s < 256) : PC shC 0 mJ6_bitCount_0f7a4 [vi (s : Int)] (μ) (QI (fun z μ' => z = (cnt31 s : Int) ∧ μ' = μ)) := by
  refine PC.ofF (by decide +kernel) (Nat.le_of_ble_eq_true rfl) ?_
  refine P_sub (L' := [(0, vi (s : Int))]) [0] rfl ?_
  refine P_iload_n (pc := 0) dJ6_bitCount_0f7a4_0 rfl 0 rfl ?_
  refine P_iload_n (pc := 1) dJ6_bitCount_0f7a4_1 rfl 0 rfl ?_
  refine P_iconst (pc := 2) dJ6_bitCount_0f7a4_2 ?_
  refine P_iushr (pc := 3) dJ6_bitCount_0f7a4_3 (wI_ushr (by omega) (by omega) (by clear μ; revert hs; revert s; decide +kernel) (by clear μ; revert hs; revert s; decide +kernel)) ?_
  refine P_ldcw (z := 1431655765) (pc := 4) dJ6_bitCount_0f7a4_4 ki_RJ6_265 rfl ?_
  refine P_iand (pc := 7) dJ6_bitCount_0f7a4_7 (wI_and (by clear μ; revert hs; revert s; decide +kernel) (by clear μ; revert hs; revert s; decide +kernel) (by clear μ; revert hs; revert s; decide +kernel) (by clear μ; revert hs; revert s; decide +kernel)) ?_
  refine P_isub (pc := 8) dJ6_bitCount_0f7a4_8 ?_
  refine P_istore_n (L' := [(0, vi _)]) (pc := 9) dJ6_bitCount_0f7a4_9 rfl (by decide) rfl ?_
  refine P_iload_n (pc := 10) dJ6_bitCount_0f7a4_10 rfl 0 rfl ?_
  refine P_ldcw (z := 858993459) (pc := 11) dJ6_bitCount_0f7a4_11 ki_RJ6_266 rfl ?_
  refine P_iand (pc := 14) dJ6_bitCount_0f7a4_14 (wI_and (by clear μ; revert hs; revert s; decide +kernel) (by clear μ; revert hs; revert s; decide +kernel) (by clear μ; revert hs; revert s; decide +kernel) (by clear μ; revert hs; revert s; decide +kernel)) ?_
  refine P_iload_n (pc := 15) dJ6_bitCount_0f7a4_15 rfl 0 rfl ?_
  refine P_iconst (pc := 16) dJ6_bitCount_0f7a4_16 ?_
  refine P_iushr (pc := 17) dJ6_bitCount_0f7a4_17 (wI_ushr (by omega) (by omega) (by clear μ; revert hs; revert s; decide +kernel) (by clear μ; revert hs; revert s; decide +kernel)) ?_
  refine P_ldcw (z := 858993459) (pc := 18) dJ6_bitCount_0f7a4_18 ki_RJ6_266 rfl ?_
  refine P_iand (pc := 21) dJ6_bitCount_0f7a4_21 (wI_and (by clear μ; revert hs; revert s; decide +kernel) (by clear μ; revert hs; revert s; decide +kernel) (by clear μ; revert hs; revert s; decide +kernel) (by clear μ; revert hs; revert s; decide +kernel)) ?_
  refine P_iadd (pc := 22) dJ6_bitCount_0f7a4_22 ?_
  refine P_istore_n (L' := [(0, vi _)]) (pc := 23) dJ6_bitCount_0f7a4_23 rfl (by decide) rfl ?_
  refine P_iload_n (pc := 24) dJ6_bitCount_0f7a4_24 rfl 0 rfl ?_
  refine P_iload_n (pc := 25) dJ6_bitCount_0f7a4_25 rfl 0 rfl ?_
  refine P_iconst (pc := 26) dJ6_bitCount_0f7a4_26 ?_
  refine P_iushr (pc := 27) dJ6_bitCount_0f7a4_27 (wI_ushr (by omega) (by omega) (by clear μ; revert hs; revert s; decide +kernel) (by clear μ; revert hs; revert s; decide +kernel)) ?_
  refine P_iadd (pc := 28) dJ6_bitCount_0f7a4_28 ?_
  refine P_ldcw (z := 252645135) (pc := 29) dJ6_bitCount_0f7a4_29 ki_RJ6_267 rfl ?_
  refine P_iand (pc := 32) dJ6_bitCount_0f7a4_32 (wI_and (by clear μ; revert hs; revert s; decide +kernel) (by clear μ; revert hs; revert s; decide +kernel) (by clear μ; revert hs; revert s; decide +kernel) (by clear μ; revert hs; revert s; decide +kernel)) ?_
  refine P_istore_n (L' := [(0, vi _)]) (pc := 33) dJ6_bitCount_0f7a4_33 rfl (by decide) rfl ?_
  refine P_iload_n (pc := 34) dJ6_bitCount_0f7a4_34 rfl 0 rfl ?_
  refine P_iload_n (pc := 35) dJ6_bitCount_0f7a4_35 rfl 0 rfl ?_
  refine P_bipush (pc := 36) dJ6_bitCount_0f7a4_36 (by decide) ?_
  refine P_iushr (pc := 38) dJ6_bitCount_0f7a4_38 (wI_ushr (by omega) (by omega) (by clear μ; revert hs; revert s; decide +kernel) (by clear μ; revert hs; revert s; decide +kernel)) ?_
  refine P_iadd (pc := 39) dJ6_bitCount_0f7a4_39 ?_
  refine P_istore_n (L' := [(0, vi _)]) (pc := 40) dJ6_bitCount_0f7a4_40 rfl (by decide) rfl ?_
  refine P_iload_n (pc := 41) dJ6_bitCount_0f7a4_41 rfl 0 rfl ?_
  refine P_iload_n (pc := 42) dJ6_bitCount_0f7a4_42 rfl 0 rfl ?_
  refine P_bipush (pc := 43) dJ6_bitCount_0f7a4_43 (by decide) ?_
  refine P_iushr (pc := 45) dJ6_bitCount_0f7a4_45 (wI_ushr (by omega) (by omega) (by clear μ; revert hs; revert s; decide +kernel) (by clear μ; revert hs; revert s; decide +kernel)) ?_
  refine P_iadd (pc := 46) dJ6_bitCount_0f7a4_46 ?_
  refine P_istore_n (L' := [(0, vi _)]) (pc := 47) dJ6_bitCount_0f7a4_47 rfl (by decide) rfl ?_
  refine P_iload_n (pc := 48) dJ6_bitCount_0f7a4_48 rfl 0 rfl ?_
  refine P_bipush (pc := 49) dJ6_bitCount_0f7a4_49 (by decide) ?_
  refine P_iand (pc := 51) dJ6_bitCount_0f7a4_51 (wI_and (by clear μ; revert hs; revert s; decide +kernel) (by clear μ; revert hs; revert s; decide +kernel) (by clear μ; revert hs; revert s; decide +kernel) (by clear μ; revert hs; revert s; decide +kernel)) ?_
  exact P_iret (pc := 52) dJ6_bitCount_0f7a4_52 rfl (QI.mk (by refine ⟨?_, rfl⟩; clear μ; revert hs; revert s; decide +kernel))
