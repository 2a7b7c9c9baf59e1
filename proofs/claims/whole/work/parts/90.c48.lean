set_option maxHeartbeats 1000000 in
set_option maxRecDepth 100000 in
theorem c_X5_thing {n : Int} {μ ν : Mem} {k w g : Int} (h : RLN n μ ν) (hn : n < 2147483648) (hk : InR k) (hw : w = 0 ∨ w = 1) (hg : g = 0 ∨ g = 1) : PC shC 2 mX5_thing [vr 0, vi k, vi w, vi g] (μ) (QI (fun z μ' => z = (if whyT ν.1 k = 0 then ν.1 0 11 else whyT ν.1 k) ∧ RLN (n + 1) μ' (if whyT ν.1 k = 0 then comesM ν k w g else refM ν (whyT ν.1 k)))) := by
  refine PC.of (by decide +kernel) (Nat.le_of_ble_eq_true rfl) ?_
  refine P_sub (L' := [(0, vr 0), (1, vi k), (2, vi w), (3, vi g)]) [0, 1, 2, 3] rfl ?_
  have h6 := RL_6 h
  have h7 := RL_7 h
  have hkr := h.1.2.2.2.1
  have h8 : μ.1 1 8 = ν.1 0 30 := h.1.2.2.2.2.2.1.1
  have h30 := h.1.2.1.1
  have h9 : μ.1 1 9 = ν.1 0 37 := h.1.2.2.2.2.2.2.1
  have h37 := h.1.2.2.1.1
  have h10 : μ.1 10 = ν.1 2 := hkr.2.1
  obtain ⟨W_, hW, hW2, -⟩ := hkr.2.2.2.2.2
  obtain ⟨H_, hH, hH2, -⟩ := h.1.2.2.2.2.1
  refine P_iload_n (pc := 0) dX5_thing_0 rfl 1 rfl ?_
  refine P_if_lt (tgt := 10) (pc := 1) dX5_thing_1 (by decide) (by first | assumption | (unfold InR; omega)) (fun c_1 => ?_) (fun c_1 => ?_)
  · refine P_aload_n (pc := 10) dX5_thing_10 rfl 0 rfl ?_
    refine P_bipush (pc := 11) dX5_thing_11 (by decide) ?_
    refine P_callVi (Y' := mX5_refuse) (as := [_]) (pc := 13) dX5_thing_13 rfl (by decide : 0 < 2) sC_0 rfl ml_RX5_67 im_X5_refuse se_X5_refuse mk_X5_refuse (Nat.le_of_ble_eq_true rfl) (c_X5_refuse h hn (by omega)) (fun z_ μ_ hq => ?_)
    obtain ⟨hzr, hRr⟩ := hq
    skip
    exact P_iret (pc := 16) dX5_thing_16 rfl (QI.mk (by
          first
            | (exfalso; omega)
            | (have e : whyT ν.1 k = -2 := by
                 unfold whyT
                 repeat (first | rw [if_pos (by omega)] | rw [if_neg (by omega)])
               rw [e]
               exact ⟨by rw [if_neg (by decide)]; exact hzr, by rw [if_neg (by decide)]; exact RL_mono hRr (by omega)⟩)))
  · refine P_iload_n (pc := 4) dX5_thing_4 rfl 1 rfl ?_
    refine P_bipush (pc := 5) dX5_thing_5 (by decide) ?_
    refine P_icmp_lt (tgt := 17) (pc := 7) dX5_thing_7 (by decide) (by first | assumption | (unfold InR; omega)) (by first | assumption | (unfold InR; omega)) (fun c_7 => ?_) (fun c_7 => ?_)
    · refine P_iload_n (pc := 17) dX5_thing_17 rfl 1 rfl ?_
      refine P_iconst (pc := 18) dX5_thing_18 ?_
      refine P_icmp_ne (tgt := 39) (pc := 19) dX5_thing_19 (by decide) (by first | assumption | (unfold InR; omega)) (by first | assumption | (unfold InR; omega)) (fun c_19 => ?_) (fun c_19 => ?_)
      · refine P_aload_n (pc := 39) dX5_thing_39 rfl 0 rfl ?_
        refine P_getR (pc := 40) dX5_thing_40 fa_RX5_12 sC_0 fC0_0 ?_
        refine P_getI (jj := 6) (pc := 43) dX5_thing_43 fa_RX5_75 sC_1 fC1_6 rfl ?_
        skip
        refine P_bipush (pc := 46) dX5_thing_46 (by decide) ?_
        refine P_icmp_lt (tgt := 58) (pc := 48) dX5_thing_48 (by decide) (by first | assumption | (unfold InR; omega)) (by first | assumption | (unfold InR; omega)) (fun c_48 => ?_) (fun c_48 => ?_)
        · refine P_aload_n (pc := 58) dX5_thing_58 rfl 0 rfl ?_
          refine P_getR (pc := 59) dX5_thing_59 fa_RX5_12 sC_0 fC0_0 ?_
          refine P_iload_n (pc := 62) dX5_thing_62 rfl 1 rfl ?_
          refine P_iload_n (pc := 63) dX5_thing_63 rfl 2 rfl ?_
          refine P_iload_n (pc := 64) dX5_thing_64 rfl 3 rfl ?_
          refine P_callVi (Y' := mX3_addThing) (as := [_, _, _]) (pc := 65) dX5_thing_65 rfl (by decide : 0 < 2) sC_1 rfl ml_RX5_79 im_X3_addThing se_X3_addThing mk_X3_addThing (Nat.le_of_ble_eq_true rfl) (c_X3_addThing (by omega) hW hH hk hw hg) (fun z_ μ_ hq => ?_)
          obtain ⟨hz2, hμ_⟩ := hq
          subst hμ_
          skip
          exact P_iret (pc := 68) dX5_thing_68 rfl (QI.mk (by
                first
                  | (exfalso; omega)
                  | (have e : whyT ν.1 k = 0 := by
                       unfold whyT
                       repeat (first | rw [if_pos (by omega)] | rw [if_neg (by omega)])
                     rw [e]
                     exact ⟨by rw [if_pos rfl]; exact hz2.trans h6.1, by rw [if_pos rfl]; exact UP_thing h hW hH (by omega) (by omega) hw hg⟩)))
        · refine P_aload_n (pc := 51) dX5_thing_51 rfl 0 rfl ?_
          refine P_bipush (pc := 52) dX5_thing_52 (by decide) ?_
          refine P_callVi (Y' := mX5_refuse) (as := [_]) (pc := 54) dX5_thing_54 rfl (by decide : 0 < 2) sC_0 rfl ml_RX5_67 im_X5_refuse se_X5_refuse mk_X5_refuse (Nat.le_of_ble_eq_true rfl) (c_X5_refuse h hn (by omega)) (fun z_ μ_ hq => ?_)
          obtain ⟨hzr, hRr⟩ := hq
          skip
          exact P_iret (pc := 57) dX5_thing_57 rfl (QI.mk (by
                first
                  | (exfalso; omega)
                  | (have e : whyT ν.1 k = -6 := by
                       unfold whyT
                       repeat (first | rw [if_pos (by omega)] | rw [if_neg (by omega)])
                     rw [e]
                     exact ⟨by rw [if_neg (by decide)]; exact hzr, by rw [if_neg (by decide)]; exact RL_mono hRr (by omega)⟩)))
      · refine P_aload_n (pc := 22) dX5_thing_22 rfl 0 rfl ?_
        refine P_getR (pc := 23) dX5_thing_23 fa_RX5_12 sC_0 fC0_0 ?_
        refine P_callVi (Y' := mX3_hasPartnerAhead) (as := []) (pc := 26) dX5_thing_26 rfl (by decide : 1 < 2) sC_1 rfl ml_RX5_71 im_X3_hasPartnerAhead se_X3_hasPartnerAhead mk_X3_hasPartnerAhead (Nat.le_of_ble_eq_true rfl) (c_X3_hasPartnerAhead (by omega) (by rw [h10]; exact h.1.1.1.2.2.1)) (fun z_ μ_ hq => ?_)
        obtain ⟨hz, hμ_⟩ := hq
        have hμ_ := hμ_.symm
        subst hμ_
        rw [h6.1, h10] at hz
        have hz := ite01 hz
        skip
        refine P_if_ne (tgt := 39) (pc := 29) dX5_thing_29 (by decide) (by first | assumption | (unfold InR; omega)) (fun c_29 => ?_) (fun c_29 => ?_)
        · refine P_aload_n (pc := 39) dX5_thing_39 rfl 0 rfl ?_
          refine P_getR (pc := 40) dX5_thing_40 fa_RX5_12 sC_0 fC0_0 ?_
          refine P_getI (jj := 6) (pc := 43) dX5_thing_43 fa_RX5_75 sC_1 fC1_6 rfl ?_
          skip
          refine P_bipush (pc := 46) dX5_thing_46 (by decide) ?_
          refine P_icmp_lt (tgt := 58) (pc := 48) dX5_thing_48 (by decide) (by first | assumption | (unfold InR; omega)) (by first | assumption | (unfold InR; omega)) (fun c_48 => ?_) (fun c_48 => ?_)
          · refine P_aload_n (pc := 58) dX5_thing_58 rfl 0 rfl ?_
            refine P_getR (pc := 59) dX5_thing_59 fa_RX5_12 sC_0 fC0_0 ?_
            refine P_iload_n (pc := 62) dX5_thing_62 rfl 1 rfl ?_
            refine P_iload_n (pc := 63) dX5_thing_63 rfl 2 rfl ?_
            refine P_iload_n (pc := 64) dX5_thing_64 rfl 3 rfl ?_
            refine P_callVi (Y' := mX3_addThing) (as := [_, _, _]) (pc := 65) dX5_thing_65 rfl (by decide : 0 < 2) sC_1 rfl ml_RX5_79 im_X3_addThing se_X3_addThing mk_X3_addThing (Nat.le_of_ble_eq_true rfl) (c_X3_addThing (by omega) hW hH hk hw hg) (fun z_ μ_ hq => ?_)
            obtain ⟨hz2, hμ_⟩ := hq
            subst hμ_
            skip
            exact P_iret (pc := 68) dX5_thing_68 rfl (QI.mk (by
                  first
                    | (exfalso; omega)
                    | (have e : whyT ν.1 k = 0 := by
                         unfold whyT
                         repeat (first | rw [if_pos (by omega)] | rw [if_neg (by omega)])
                       rw [e]
                       exact ⟨by rw [if_pos rfl]; exact hz2.trans h6.1, by rw [if_pos rfl]; exact UP_thing h hW hH (by omega) (by omega) hw hg⟩)))
          · refine P_aload_n (pc := 51) dX5_thing_51 rfl 0 rfl ?_
            refine P_bipush (pc := 52) dX5_thing_52 (by decide) ?_
            refine P_callVi (Y' := mX5_refuse) (as := [_]) (pc := 54) dX5_thing_54 rfl (by decide : 0 < 2) sC_0 rfl ml_RX5_67 im_X5_refuse se_X5_refuse mk_X5_refuse (Nat.le_of_ble_eq_true rfl) (c_X5_refuse h hn (by omega)) (fun z_ μ_ hq => ?_)
            obtain ⟨hzr, hRr⟩ := hq
            skip
            exact P_iret (pc := 57) dX5_thing_57 rfl (QI.mk (by
                  first
                    | (exfalso; omega)
                    | (have e : whyT ν.1 k = -6 := by
                         unfold whyT
                         repeat (first | rw [if_pos (by omega)] | rw [if_neg (by omega)])
                       rw [e]
                       exact ⟨by rw [if_neg (by decide)]; exact hzr, by rw [if_neg (by decide)]; exact RL_mono hRr (by omega)⟩)))
        · refine P_aload_n (pc := 32) dX5_thing_32 rfl 0 rfl ?_
          refine P_bipush (pc := 33) dX5_thing_33 (by decide) ?_
          refine P_callVi (Y' := mX5_refuse) (as := [_]) (pc := 35) dX5_thing_35 rfl (by decide : 0 < 2) sC_0 rfl ml_RX5_67 im_X5_refuse se_X5_refuse mk_X5_refuse (Nat.le_of_ble_eq_true rfl) (c_X5_refuse h hn (by omega)) (fun z_ μ_ hq => ?_)
          obtain ⟨hzr, hRr⟩ := hq
          skip
          exact P_iret (pc := 38) dX5_thing_38 rfl (QI.mk (by
                first
                  | (exfalso; omega)
                  | (have e : whyT ν.1 k = -3 := by
                       unfold whyT
                       repeat (first | rw [if_pos (by omega)] | rw [if_neg (by omega)])
                     rw [e]
                     exact ⟨by rw [if_neg (by decide)]; exact hzr, by rw [if_neg (by decide)]; exact RL_mono hRr (by omega)⟩)))
    · refine P_aload_n (pc := 10) dX5_thing_10 rfl 0 rfl ?_
      refine P_bipush (pc := 11) dX5_thing_11 (by decide) ?_
      refine P_callVi (Y' := mX5_refuse) (as := [_]) (pc := 13) dX5_thing_13 rfl (by decide : 0 < 2) sC_0 rfl ml_RX5_67 im_X5_refuse se_X5_refuse mk_X5_refuse (Nat.le_of_ble_eq_true rfl) (c_X5_refuse h hn (by omega)) (fun z_ μ_ hq => ?_)
      obtain ⟨hzr, hRr⟩ := hq
      skip
      exact P_iret (pc := 16) dX5_thing_16 rfl (QI.mk (by
            first
              | (exfalso; omega)
              | (have e : whyT ν.1 k = -2 := by
                   unfold whyT
                   repeat (first | rw [if_pos (by omega)] | rw [if_neg (by omega)])
                 rw [e]
                 exact ⟨by rw [if_neg (by decide)]; exact hzr, by rw [if_neg (by decide)]; exact RL_mono hRr (by omega)⟩)))
set_option maxHeartbeats 1000000 in
set_option maxRecDepth 100000 in
theorem c_X5_takes {n : Int} {μ ν : Mem} {k v o : Int} (h : RLN n μ ν) (hn : n < 2147483648) (hk : InR k) (hv : InR v) (ho : o = 0 ∨ o = 1) : PC shC 1 mX5_takes [vr 0, vi k, vi v, vi o] (μ) (QI (fun z μ' => z = (if whyK k v 5 = 0 then ν.1 5 (if o = 1 then 6 + k else k) else whyK k v 5) ∧ RLN (n + 1) μ' (if whyK k v 5 = 0 then putI ν 5 (if o = 1 then 6 + k else k) v else refM ν (whyK k v 5)))) := by
  refine PC.of (by decide +kernel) (Nat.le_of_ble_eq_true rfl) ?_
  refine P_sub (L' := [(0, vr 0), (1, vi k), (2, vi v), (3, vi o)]) [0, 1, 2, 3] rfl ?_
  have h6 := RL_6 h
  have h7 := RL_7 h
  have hkr := h.1.2.2.2.1
  have h8 : μ.1 1 8 = ν.1 0 30 := h.1.2.2.2.2.2.1.1
  have h30 := h.1.2.1.1
  have h9 : μ.1 1 9 = ν.1 0 37 := h.1.2.2.2.2.2.2.1
  have h37 := h.1.2.2.1.1
  refine P_iload_n (pc := 0) dX5_takes_0 rfl 1 rfl ?_
  refine P_if_lt (tgt := 10) (pc := 1) dX5_takes_1 (by decide) (by first | assumption | (unfold InR; omega)) (fun c_1 => ?_) (fun c_1 => ?_)
  · refine P_aload_n (pc := 10) dX5_takes_10 rfl 0 rfl ?_
    refine P_bipush (pc := 11) dX5_takes_11 (by decide) ?_
    refine P_callVi (Y' := mX5_refuse) (as := [_]) (pc := 13) dX5_takes_13 rfl (by decide : 0 < 1) sC_0 rfl ml_RX5_67 im_X5_refuse se_X5_refuse mk_X5_refuse (Nat.le_of_ble_eq_true rfl) (c_X5_refuse h hn (by omega)) (fun z_ μ_ hq => ?_)
    obtain ⟨hzr, hRr⟩ := hq
    skip
    exact P_iret (pc := 16) dX5_takes_16 rfl (QI.mk (by
          first
            | (exfalso; omega)
            | (have e : whyK k v 5 = -2 := by
                 unfold whyK
                 repeat (first | rw [if_pos (by omega)] | rw [if_neg (by omega)])
               rw [e]
               exact ⟨by rw [if_neg (by decide)]; exact hzr, by rw [if_neg (by decide)]; exact RL_mono hRr (by omega)⟩)))
  · refine P_iload_n (pc := 4) dX5_takes_4 rfl 1 rfl ?_
    refine P_bipush (pc := 5) dX5_takes_5 (by decide) ?_
    refine P_icmp_lt (tgt := 17) (pc := 7) dX5_takes_7 (by decide) (by first | assumption | (unfold InR; omega)) (by first | assumption | (unfold InR; omega)) (fun c_7 => ?_) (fun c_7 => ?_)
    · refine P_iload_n (pc := 17) dX5_takes_17 rfl 2 rfl ?_
      refine P_if_ge (tgt := 28) (pc := 18) dX5_takes_18 (by decide) (by first | assumption | (unfold InR; omega)) (fun c_18 => ?_) (fun c_18 => ?_)
      · refine P_iload_n (pc := 28) dX5_takes_28 rfl 2 rfl ?_
        refine P_iconst (pc := 29) dX5_takes_29 ?_
        refine P_icmp_le (tgt := 40) (pc := 30) dX5_takes_30 (by decide) (by first | assumption | (unfold InR; omega)) (by first | assumption | (unfold InR; omega)) (fun c_30 => ?_) (fun c_30 => ?_)
        · refine P_aload_n (pc := 40) dX5_takes_40 rfl 0 rfl ?_
          refine P_getR (pc := 41) dX5_takes_41 fa_RX5_12 sC_0 fC0_0 ?_
          refine P_iload_n (pc := 44) dX5_takes_44 rfl 3 rfl ?_
          refine P_if_eq (tgt := 55) (pc := 45) dX5_takes_45 (by decide) (by first | assumption | (unfold InR; omega)) (fun c_45 => ?_) (fun c_45 => ?_)
          · refine P_iload_n (pc := 55) dX5_takes_55 rfl 1 rfl ?_
            refine P_iload_n (pc := 56) dX5_takes_56 rfl 2 rfl ?_
            refine P_callVi (Y' := mX3_setTaken) (as := [_, _]) (pc := 57) dX5_takes_57 rfl (by decide : 0 < 1) sC_1 rfl ml_RX5_83 im_X3_setTaken se_X3_setTaken mk_X3_setTaken (Nat.le_of_ble_eq_true rfl) (c_X3_setTaken (by omega)) (fun z_ μ_ hq => ?_)
            obtain ⟨hz2, hμ_⟩ := hq
            subst hμ_
            skip
            exact P_iret (pc := 60) dX5_takes_60 rfl (QI.mk (by
                  first
                    | rw [if_pos (show o = 1 by omega)]
                    | rw [if_neg (show ¬ o = 1 by omega)]
                  first
                    | (exfalso; omega)
                    | (have e : whyK k v 5 = 0 := by
                         unfold whyK
                         repeat (first | rw [if_pos (by omega)] | rw [if_neg (by omega)])
                       rw [e]
                       exact ⟨by rw [if_pos rfl]; exact hz2.trans (congrFun hkr.2.2.1 _), by rw [if_pos rfl]; exact UP_take h (by omega) (by omega)⟩)))
          · refine P_bipush (pc := 48) dX5_takes_48 (by decide) ?_
            refine P_iload_n (pc := 50) dX5_takes_50 rfl 1 rfl ?_
            refine P_iadd (pc := 51) dX5_takes_51 ?_
            refine P_goto (tgt := 56) (pc := 52) dX5_takes_52 (by decide) ?_
            refine P_iload_n (pc := 56) dX5_takes_56 rfl 2 rfl ?_
            refine P_callVi (Y' := mX3_setTaken) (as := [_, _]) (pc := 57) dX5_takes_57 rfl (by decide : 0 < 1) sC_1 rfl ml_RX5_83 im_X3_setTaken se_X3_setTaken mk_X3_setTaken (Nat.le_of_ble_eq_true rfl) (c_X3_setTaken (by omega)) (fun z_ μ_ hq => ?_)
            obtain ⟨hz2, hμ_⟩ := hq
            subst hμ_
            skip
            exact P_iret (pc := 60) dX5_takes_60 rfl (QI.mk (by
                  first
                    | rw [if_pos (show o = 1 by omega)]
                    | rw [if_neg (show ¬ o = 1 by omega)]
                  first
                    | (exfalso; omega)
                    | (have e : whyK k v 5 = 0 := by
                         unfold whyK
                         repeat (first | rw [if_pos (by omega)] | rw [if_neg (by omega)])
                       rw [e]
                       exact ⟨by rw [if_pos rfl]; exact hz2.trans (congrFun hkr.2.2.1 _), by rw [if_pos rfl]; exact UP_take h (by omega) (by omega)⟩)))
        · refine P_aload_n (pc := 33) dX5_takes_33 rfl 0 rfl ?_
          refine P_bipush (pc := 34) dX5_takes_34 (by decide) ?_
          refine P_callVi (Y' := mX5_refuse) (as := [_]) (pc := 36) dX5_takes_36 rfl (by decide : 0 < 1) sC_0 rfl ml_RX5_67 im_X5_refuse se_X5_refuse mk_X5_refuse (Nat.le_of_ble_eq_true rfl) (c_X5_refuse h hn (by omega)) (fun z_ μ_ hq => ?_)
          obtain ⟨hzr, hRr⟩ := hq
          skip
          exact P_iret (pc := 39) dX5_takes_39 rfl (QI.mk (by
                first
                  | (exfalso; omega)
                  | (have e : whyK k v 5 = -6 := by
                       unfold whyK
                       repeat (first | rw [if_pos (by omega)] | rw [if_neg (by omega)])
                     rw [e]
                     exact ⟨by rw [if_neg (by decide)]; exact hzr, by rw [if_neg (by decide)]; exact RL_mono hRr (by omega)⟩)))
      · refine P_aload_n (pc := 21) dX5_takes_21 rfl 0 rfl ?_
        refine P_bipush (pc := 22) dX5_takes_22 (by decide) ?_
        refine P_callVi (Y' := mX5_refuse) (as := [_]) (pc := 24) dX5_takes_24 rfl (by decide : 0 < 1) sC_0 rfl ml_RX5_67 im_X5_refuse se_X5_refuse mk_X5_refuse (Nat.le_of_ble_eq_true rfl) (c_X5_refuse h hn (by omega)) (fun z_ μ_ hq => ?_)
        obtain ⟨hzr, hRr⟩ := hq
        skip
        exact P_iret (pc := 27) dX5_takes_27 rfl (QI.mk (by
              first
                | (exfalso; omega)
                | (have e : whyK k v 5 = -4 := by
                     unfold whyK
                     repeat (first | rw [if_pos (by omega)] | rw [if_neg (by omega)])
                   rw [e]
                   exact ⟨by rw [if_neg (by decide)]; exact hzr, by rw [if_neg (by decide)]; exact RL_mono hRr (by omega)⟩)))
    · refine P_aload_n (pc := 10) dX5_takes_10 rfl 0 rfl ?_
      refine P_bipush (pc := 11) dX5_takes_11 (by decide) ?_
      refine P_callVi (Y' := mX5_refuse) (as := [_]) (pc := 13) dX5_takes_13 rfl (by decide : 0 < 1) sC_0 rfl ml_RX5_67 im_X5_refuse se_X5_refuse mk_X5_refuse (Nat.le_of_ble_eq_true rfl) (c_X5_refuse h hn (by omega)) (fun z_ μ_ hq => ?_)
      obtain ⟨hzr, hRr⟩ := hq
      skip
      exact P_iret (pc := 16) dX5_takes_16 rfl (QI.mk (by
            first
              | (exfalso; omega)
              | (have e : whyK k v 5 = -2 := by
                   unfold whyK
                   repeat (first | rw [if_pos (by omega)] | rw [if_neg (by omega)])
                 rw [e]
                 exact ⟨by rw [if_neg (by decide)]; exact hzr, by rw [if_neg (by decide)]; exact RL_mono hRr (by omega)⟩)))
set_option maxHeartbeats 1000000 in
set_option maxRecDepth 100000 in
theorem c_X5_law {n : Int} {μ ν : Mem} {k v : Int} (h : RLN n μ ν) (hn : n < 2147483648) (hk : InR k) (hv : InR v) : PC shC 1 mX5_law [vr 0, vi k, vi v] (μ) (QI (fun z μ' => z = (if whyK k v 2 = 0 then ν.1 6 k else whyK k v 2) ∧ RLN (n + 1) μ' (if whyK k v 2 = 0 then putI ν 6 k v else refM ν (whyK k v 2)))) := by
  refine PC.of (by decide +kernel) (Nat.le_of_ble_eq_true rfl) ?_
  refine P_sub (L' := [(0, vr 0), (1, vi k), (2, vi v)]) [0, 1, 2] rfl ?_
  have h6 := RL_6 h
  have h7 := RL_7 h
  have hkr := h.1.2.2.2.1
  have h8 : μ.1 1 8 = ν.1 0 30 := h.1.2.2.2.2.2.1.1
  have h30 := h.1.2.1.1
  have h9 : μ.1 1 9 = ν.1 0 37 := h.1.2.2.2.2.2.2.1
  have h37 := h.1.2.2.1.1
  refine P_iload_n (pc := 0) dX5_law_0 rfl 1 rfl ?_
  refine P_if_lt (tgt := 9) (pc := 1) dX5_law_1 (by decide) (by first | assumption | (unfold InR; omega)) (fun c_1 => ?_) (fun c_1 => ?_)
  · refine P_aload_n (pc := 9) dX5_law_9 rfl 0 rfl ?_
    refine P_bipush (pc := 10) dX5_law_10 (by decide) ?_
    refine P_callVi (Y' := mX5_refuse) (as := [_]) (pc := 12) dX5_law_12 rfl (by decide : 0 < 1) sC_0 rfl ml_RX5_67 im_X5_refuse se_X5_refuse mk_X5_refuse (Nat.le_of_ble_eq_true rfl) (c_X5_refuse h hn (by omega)) (fun z_ μ_ hq => ?_)
    obtain ⟨hzr, hRr⟩ := hq
    skip
    exact P_iret (pc := 15) dX5_law_15 rfl (QI.mk (by
          first
            | (exfalso; omega)
            | (have e : whyK k v 2 = -2 := by
                 unfold whyK
                 repeat (first | rw [if_pos (by omega)] | rw [if_neg (by omega)])
               rw [e]
               exact ⟨by rw [if_neg (by decide)]; exact hzr, by rw [if_neg (by decide)]; exact RL_mono hRr (by omega)⟩)))
  · refine P_iload_n (pc := 4) dX5_law_4 rfl 1 rfl ?_
    refine P_iconst (pc := 5) dX5_law_5 ?_
    refine P_icmp_lt (tgt := 16) (pc := 6) dX5_law_6 (by decide) (by first | assumption | (unfold InR; omega)) (by first | assumption | (unfold InR; omega)) (fun c_6 => ?_) (fun c_6 => ?_)
    · refine P_iload_n (pc := 16) dX5_law_16 rfl 2 rfl ?_
      refine P_if_ge (tgt := 27) (pc := 17) dX5_law_17 (by decide) (by first | assumption | (unfold InR; omega)) (fun c_17 => ?_) (fun c_17 => ?_)
      · refine P_iload_n (pc := 27) dX5_law_27 rfl 2 rfl ?_
        refine P_iload_n (pc := 28) dX5_law_28 rfl 1 rfl ?_
        refine P_if_ne (tgt := 36) (pc := 29) dX5_law_29 (by decide) (by first | assumption | (unfold InR; omega)) (fun c_29 => ?_) (fun c_29 => ?_)
        · refine P_iconst (pc := 36) dX5_law_36 ?_
          refine P_icmp_le (tgt := 47) (pc := 37) dX5_law_37 (by decide) (by first | assumption | (unfold InR; omega)) (by first | assumption | (unfold InR; omega)) (fun c_37 => ?_) (fun c_37 => ?_)
          · refine P_aload_n (pc := 47) dX5_law_47 rfl 0 rfl ?_
            refine P_getR (pc := 48) dX5_law_48 fa_RX5_12 sC_0 fC0_0 ?_
            refine P_iload_n (pc := 51) dX5_law_51 rfl 1 rfl ?_
            refine P_iload_n (pc := 52) dX5_law_52 rfl 2 rfl ?_
            refine P_callVi (Y' := mX3_setRule) (as := [_, _]) (pc := 53) dX5_law_53 rfl (by decide : 0 < 1) sC_1 rfl ml_RX5_87 im_X3_setRule se_X3_setRule mk_X3_setRule (Nat.le_of_ble_eq_true rfl) (c_X3_setRule (by omega)) (fun z_ μ_ hq => ?_)
            obtain ⟨hz2, hμ_⟩ := hq
            subst hμ_
            skip
            exact P_iret (pc := 56) dX5_law_56 rfl (QI.mk (by
                  first
                    | (exfalso; omega)
                    | (have e : whyK k v 2 = 0 := by
                         unfold whyK
                         repeat (first | rw [if_pos (by omega)] | rw [if_neg (by omega)])
                       rw [e]
                       exact ⟨by rw [if_pos rfl]; exact hz2.trans (congrFun hkr.2.2.2.1 _), by rw [if_pos rfl]; exact UP_rule h (by omega) (by omega)⟩)))
          · refine P_aload_n (pc := 40) dX5_law_40 rfl 0 rfl ?_
            refine P_bipush (pc := 41) dX5_law_41 (by decide) ?_
            refine P_callVi (Y' := mX5_refuse) (as := [_]) (pc := 43) dX5_law_43 rfl (by decide : 0 < 1) sC_0 rfl ml_RX5_67 im_X5_refuse se_X5_refuse mk_X5_refuse (Nat.le_of_ble_eq_true rfl) (c_X5_refuse h hn (by omega)) (fun z_ μ_ hq => ?_)
            obtain ⟨hzr, hRr⟩ := hq
            skip
            exact P_iret (pc := 46) dX5_law_46 rfl (QI.mk (by
                  first
                    | (exfalso; omega)
                    | (have e : whyK k v 2 = -6 := by
                         unfold whyK
                         repeat (first | rw [if_pos (by omega)] | rw [if_neg (by omega)])
                       rw [e]
                       exact ⟨by rw [if_neg (by decide)]; exact hzr, by rw [if_neg (by decide)]; exact RL_mono hRr (by omega)⟩)))
        · refine P_iconst (pc := 32) dX5_law_32 ?_
          refine P_goto (tgt := 37) (pc := 33) dX5_law_33 (by decide) ?_
          refine P_icmp_le (tgt := 47) (pc := 37) dX5_law_37 (by decide) (by first | assumption | (unfold InR; omega)) (by first | assumption | (unfold InR; omega)) (fun c_37 => ?_) (fun c_37 => ?_)
          · refine P_aload_n (pc := 47) dX5_law_47 rfl 0 rfl ?_
            refine P_getR (pc := 48) dX5_law_48 fa_RX5_12 sC_0 fC0_0 ?_
            refine P_iload_n (pc := 51) dX5_law_51 rfl 1 rfl ?_
            refine P_iload_n (pc := 52) dX5_law_52 rfl 2 rfl ?_
            refine P_callVi (Y' := mX3_setRule) (as := [_, _]) (pc := 53) dX5_law_53 rfl (by decide : 0 < 1) sC_1 rfl ml_RX5_87 im_X3_setRule se_X3_setRule mk_X3_setRule (Nat.le_of_ble_eq_true rfl) (c_X3_setRule (by omega)) (fun z_ μ_ hq => ?_)
            obtain ⟨hz2, hμ_⟩ := hq
            subst hμ_
            skip
            exact P_iret (pc := 56) dX5_law_56 rfl (QI.mk (by
                  first
                    | (exfalso; omega)
                    | (have e : whyK k v 2 = 0 := by
                         unfold whyK
                         repeat (first | rw [if_pos (by omega)] | rw [if_neg (by omega)])
                       rw [e]
                       exact ⟨by rw [if_pos rfl]; exact hz2.trans (congrFun hkr.2.2.2.1 _), by rw [if_pos rfl]; exact UP_rule h (by omega) (by omega)⟩)))
          · refine P_aload_n (pc := 40) dX5_law_40 rfl 0 rfl ?_
            refine P_bipush (pc := 41) dX5_law_41 (by decide) ?_
            refine P_callVi (Y' := mX5_refuse) (as := [_]) (pc := 43) dX5_law_43 rfl (by decide : 0 < 1) sC_0 rfl ml_RX5_67 im_X5_refuse se_X5_refuse mk_X5_refuse (Nat.le_of_ble_eq_true rfl) (c_X5_refuse h hn (by omega)) (fun z_ μ_ hq => ?_)
            obtain ⟨hzr, hRr⟩ := hq
            skip
            exact P_iret (pc := 46) dX5_law_46 rfl (QI.mk (by
                  first
                    | (exfalso; omega)
                    | (have e : whyK k v 2 = -6 := by
                         unfold whyK
                         repeat (first | rw [if_pos (by omega)] | rw [if_neg (by omega)])
                       rw [e]
                       exact ⟨by rw [if_neg (by decide)]; exact hzr, by rw [if_neg (by decide)]; exact RL_mono hRr (by omega)⟩)))
      · refine P_aload_n (pc := 20) dX5_law_20 rfl 0 rfl ?_
        refine P_bipush (pc := 21) dX5_law_21 (by decide) ?_
        refine P_callVi (Y' := mX5_refuse) (as := [_]) (pc := 23) dX5_law_23 rfl (by decide : 0 < 1) sC_0 rfl ml_RX5_67 im_X5_refuse se_X5_refuse mk_X5_refuse (Nat.le_of_ble_eq_true rfl) (c_X5_refuse h hn (by omega)) (fun z_ μ_ hq => ?_)
        obtain ⟨hzr, hRr⟩ := hq
        skip
        exact P_iret (pc := 26) dX5_law_26 rfl (QI.mk (by
              first
                | (exfalso; omega)
                | (have e : whyK k v 2 = -4 := by
                     unfold whyK
                     repeat (first | rw [if_pos (by omega)] | rw [if_neg (by omega)])
                   rw [e]
                   exact ⟨by rw [if_neg (by decide)]; exact hzr, by rw [if_neg (by decide)]; exact RL_mono hRr (by omega)⟩)))
    · refine P_aload_n (pc := 9) dX5_law_9 rfl 0 rfl ?_
      refine P_bipush (pc := 10) dX5_law_10 (by decide) ?_
      refine P_callVi (Y' := mX5_refuse) (as := [_]) (pc := 12) dX5_law_12 rfl (by decide : 0 < 1) sC_0 rfl ml_RX5_67 im_X5_refuse se_X5_refuse mk_X5_refuse (Nat.le_of_ble_eq_true rfl) (c_X5_refuse h hn (by omega)) (fun z_ μ_ hq => ?_)
      obtain ⟨hzr, hRr⟩ := hq
      skip
      exact P_iret (pc := 15) dX5_law_15 rfl (QI.mk (by
            first
              | (exfalso; omega)
              | (have e : whyK k v 2 = -2 := by
                   unfold whyK
                   repeat (first | rw [if_pos (by omega)] | rw [if_neg (by omega)])
                 rw [e]
                 exact ⟨by rw [if_neg (by decide)]; exact hzr, by rw [if_neg (by decide)]; exact RL_mono hRr (by omega)⟩)))
set_option maxHeartbeats 1000000 in
set_option maxRecDepth 100000 in
theorem c_X5_event {n : Int} {μ ν : Mem} {q k a b u : Int} (h : RLN n μ ν) (hn : n < 2147483648) (hq0 : InR q) (hk : InR k) (ha : InR a) (hb : InR b) (hu : InR u) : PC shC 2 mX5_event [vr 0, vi q, vi k, vi a, vi b, vi u] (μ) (QI (fun z μ' => z = (if whyE ν.1 q k a b u = 0 then ν.1 0 12 else whyE ν.1 q k a b u) ∧ RLN (n + 1) μ' (if whyE ν.1 q k a b u = 0 then happM ν q k a b u else refM ν (whyE ν.1 q k a b u)))) := by
  refine PC.of (by decide +kernel) (Nat.le_of_ble_eq_true rfl) ?_
  refine P_sub (L' := [(0, vr 0), (1, vi q), (2, vi k), (3, vi a), (4, vi b), (5, vi u)]) [0, 1, 2, 3, 4, 5] rfl ?_
  have h6 := RL_6 h
  have h7 := RL_7 h
  have hkr := h.1.2.2.2.1
  have h8 : μ.1 1 8 = ν.1 0 30 := h.1.2.2.2.2.2.1.1
  have h30 := h.1.2.1.1
  have h9 : μ.1 1 9 = ν.1 0 37 := h.1.2.2.2.2.2.2.1
  have h37 := h.1.2.2.1.1
  refine P_iload_n (pc := 0) dX5_event_0 rfl 2 rfl ?_
  refine P_if_lt (tgt := 10) (pc := 1) dX5_event_1 (by decide) (by first | assumption | (unfold InR; omega)) (fun c_1 => ?_) (fun c_1 => ?_)
  · refine P_aload_n (pc := 10) dX5_event_10 rfl 0 rfl ?_
    refine P_bipush (pc := 11) dX5_event_11 (by decide) ?_
    refine P_callVi (Y' := mX5_refuse) (as := [_]) (pc := 13) dX5_event_13 rfl (by decide : 0 < 2) sC_0 rfl ml_RX5_67 im_X5_refuse se_X5_refuse mk_X5_refuse (Nat.le_of_ble_eq_true rfl) (c_X5_refuse h hn (by omega)) (fun z_ μ_ hq => ?_)
    obtain ⟨hzr, hRr⟩ := hq
    skip
    exact P_iret (pc := 16) dX5_event_16 rfl (QI.mk (by
          first
            | (exfalso; omega)
            | (have e : whyE ν.1 q k a b u = -2 := by
                 unfold whyE
                 repeat (first | rw [if_pos (by omega)] | rw [if_neg (by omega)])
               rw [e]
               exact ⟨by rw [if_neg (by decide)]; exact hzr, by rw [if_neg (by decide)]; exact RL_mono hRr (by omega)⟩)))
  · refine P_iload_n (pc := 4) dX5_event_4 rfl 2 rfl ?_
    refine P_bipush (pc := 5) dX5_event_5 (by decide) ?_
    refine P_icmp_lt (tgt := 17) (pc := 7) dX5_event_7 (by decide) (by first | assumption | (unfold InR; omega)) (by first | assumption | (unfold InR; omega)) (fun c_7 => ?_) (fun c_7 => ?_)
    · refine P_aload_n (pc := 17) dX5_event_17 rfl 0 rfl ?_
      refine P_getR (pc := 18) dX5_event_18 fa_RX5_12 sC_0 fC0_0 ?_
      refine P_iload_n (pc := 21) dX5_event_21 rfl 3 rfl ?_
      refine P_callVi (Y' := mX3_isThere) (as := [_]) (pc := 22) dX5_event_22 rfl (by decide : 0 < 2) sC_1 rfl ml_RX5_90 im_X3_isThere se_X3_isThere mk_X3_isThere (Nat.le_of_ble_eq_true rfl) (c_X3_isThere ha (by unfold InR; omega)) (fun z_ μ_ hq => ?_)
      obtain ⟨hz, hμ_⟩ := hq
      have hμ_ := hμ_.symm
      subst hμ_
      rw [h6.1] at hz
      have hz := ite01 hz
      skip
      refine P_if_ne (tgt := 34) (pc := 25) dX5_event_25 (by decide) (by first | assumption | (unfold InR; omega)) (fun c_25 => ?_) (fun c_25 => ?_)
      · refine P_iload_n (pc := 34) dX5_event_34 rfl 2 rfl ?_
        refine P_iconst (pc := 35) dX5_event_35 ?_
        refine P_icmp_gt (tgt := 63) (pc := 36) dX5_event_36 (by decide) (by first | assumption | (unfold InR; omega)) (by first | assumption | (unfold InR; omega)) (fun c_36 => ?_) (fun c_36 => ?_)
        · refine P_iload_n (pc := 63) dX5_event_63 rfl 1 rfl ?_
          refine P_if_lt (tgt := 85) (pc := 64) dX5_event_64 (by decide) (by first | assumption | (unfold InR; omega)) (fun c_64 => ?_) (fun c_64 => ?_)
          · refine P_aload_n (pc := 85) dX5_event_85 rfl 0 rfl ?_
            refine P_bipush (pc := 86) dX5_event_86 (by decide) ?_
            refine P_callVi (Y' := mX5_refuse) (as := [_]) (pc := 88) dX5_event_88 rfl (by decide : 0 < 2) sC_0 rfl ml_RX5_67 im_X5_refuse se_X5_refuse mk_X5_refuse (Nat.le_of_ble_eq_true rfl) (c_X5_refuse h hn (by omega)) (fun z_ μ_ hq => ?_)
            obtain ⟨hzr, hRr⟩ := hq
            skip
            exact P_iret (pc := 91) dX5_event_91 rfl (QI.mk (by
                  first
                    | (exfalso; omega)
                    | (have e : whyE ν.1 q k a b u = -4 := by
                         unfold whyE
                         repeat (first | rw [if_pos (by omega)] | rw [if_neg (by omega)])
                       rw [e]
                       exact ⟨by rw [if_neg (by decide)]; exact hzr, by rw [if_neg (by decide)]; exact RL_mono hRr (by omega)⟩)))
          · refine P_iload (pc := 67) dX5_event_67 5 rfl ?_
            refine P_iconst (pc := 69) dX5_event_69 ?_
            refine P_icmp_lt (tgt := 85) (pc := 70) dX5_event_70 (by decide) (by first | assumption | (unfold InR; omega)) (by first | assumption | (unfold InR; omega)) (fun c_70 => ?_) (fun c_70 => ?_)
            · refine P_aload_n (pc := 85) dX5_event_85 rfl 0 rfl ?_
              refine P_bipush (pc := 86) dX5_event_86 (by decide) ?_
              refine P_callVi (Y' := mX5_refuse) (as := [_]) (pc := 88) dX5_event_88 rfl (by decide : 0 < 2) sC_0 rfl ml_RX5_67 im_X5_refuse se_X5_refuse mk_X5_refuse (Nat.le_of_ble_eq_true rfl) (c_X5_refuse h hn (by omega)) (fun z_ μ_ hq => ?_)
              obtain ⟨hzr, hRr⟩ := hq
              skip
              exact P_iret (pc := 91) dX5_event_91 rfl (QI.mk (by
                    first
                      | (exfalso; omega)
                      | (have e : whyE ν.1 q k a b u = -4 := by
                           unfold whyE
                           repeat (first | rw [if_pos (by omega)] | rw [if_neg (by omega)])
                         rw [e]
                         exact ⟨by rw [if_neg (by decide)]; exact hzr, by rw [if_neg (by decide)]; exact RL_mono hRr (by omega)⟩)))
            · refine P_iload_n (pc := 73) dX5_event_73 rfl 2 rfl ?_
              refine P_bipush (pc := 74) dX5_event_74 (by decide) ?_
              refine P_icmp_ne (tgt := 92) (pc := 76) dX5_event_76 (by decide) (by first | assumption | (unfold InR; omega)) (by first | assumption | (unfold InR; omega)) (fun c_76 => ?_) (fun c_76 => ?_)
              · refine P_iload_n (pc := 92) dX5_event_92 rfl 1 rfl ?_
                refine P_bipush (pc := 93) dX5_event_93 (by decide) ?_
                refine P_icmp_ge (tgt := 118) (pc := 95) dX5_event_95 (by decide) (by first | assumption | (unfold InR; omega)) (by first | assumption | (unfold InR; omega)) (fun c_95 => ?_) (fun c_95 => ?_)
                · refine P_aload_n (pc := 118) dX5_event_118 rfl 0 rfl ?_
                  refine P_bipush (pc := 119) dX5_event_119 (by decide) ?_
                  refine P_callVi (Y' := mX5_refuse) (as := [_]) (pc := 121) dX5_event_121 rfl (by decide : 0 < 2) sC_0 rfl ml_RX5_67 im_X5_refuse se_X5_refuse mk_X5_refuse (Nat.le_of_ble_eq_true rfl) (c_X5_refuse h hn (by omega)) (fun z_ μ_ hq => ?_)
                  obtain ⟨hzr, hRr⟩ := hq
                  skip
                  exact P_iret (pc := 124) dX5_event_124 rfl (QI.mk (by
                        first
                          | (exfalso; omega)
                          | (have e : whyE ν.1 q k a b u = -6 := by
                               unfold whyE
                               repeat (first | rw [if_pos (by omega)] | rw [if_neg (by omega)])
                             rw [e]
                             exact ⟨by rw [if_neg (by decide)]; exact hzr, by rw [if_neg (by decide)]; exact RL_mono hRr (by omega)⟩)))
                · refine P_iload_n (pc := 98) dX5_event_98 rfl 2 rfl ?_
                  refine P_bipush (pc := 99) dX5_event_99 (by decide) ?_
                  refine P_icmp_ne (tgt := 110) (pc := 101) dX5_event_101 (by decide) (by first | assumption | (unfold InR; omega)) (by first | assumption | (unfold InR; omega)) (fun c_101 => ?_) (fun c_101 => ?_)
                  · refine P_iload (pc := 110) dX5_event_110 5 rfl ?_
                    refine P_callSi (Y' := mX5_isUnknownAbove) (as := [_]) (pc := 112) dX5_event_112 rfl (by decide : 0 < 2) ml_RX5_94 sm_X5_isUnknownAbove mk_X5_isUnknownAbove (Nat.le_of_ble_eq_true rfl) (c_X5_isUnknownAbove hu) (fun z_ μ_ hq => ?_)
                    obtain ⟨hz, hμ_⟩ := hq
                    have hμ_ := hμ_.symm
                    subst hμ_
                    have hz := ite01 hz
                    skip
                    refine P_if_eq (tgt := 125) (pc := 115) dX5_event_115 (by decide) (by first | assumption | (unfold InR; omega)) (fun c_115 => ?_) (fun c_115 => ?_)
                    · refine P_aload_n (pc := 125) dX5_event_125 rfl 0 rfl ?_
                      refine P_getR (pc := 126) dX5_event_126 fa_RX5_12 sC_0 fC0_0 ?_
                      refine P_getI (jj := 7) (pc := 129) dX5_event_129 fa_RX5_97 sC_1 fC1_7 rfl ?_
                      skip
                      refine P_bipush (pc := 132) dX5_event_132 (by decide) ?_
                      refine P_icmp_lt (tgt := 144) (pc := 134) dX5_event_134 (by decide) (by first | assumption | (unfold InR; omega)) (by first | assumption | (unfold InR; omega)) (fun c_134 => ?_) (fun c_134 => ?_)
                      · refine P_aload_n (pc := 144) dX5_event_144 rfl 0 rfl ?_
                        refine P_getR (pc := 145) dX5_event_145 fa_RX5_12 sC_0 fC0_0 ?_
                        refine P_iload_n (pc := 148) dX5_event_148 rfl 1 rfl ?_
                        refine P_iload_n (pc := 149) dX5_event_149 rfl 2 rfl ?_
                        refine P_iload_n (pc := 150) dX5_event_150 rfl 3 rfl ?_
                        refine P_iload (pc := 151) dX5_event_151 4 rfl ?_
                        refine P_iload (pc := 153) dX5_event_153 5 rfl ?_
                        refine P_callVi (Y' := mX3_addEvent) (as := [_, _, _, _, _]) (pc := 155) dX5_event_155 rfl (by decide : 1 < 2) sC_1 rfl ml_RX5_100 im_X3_addEvent se_X3_addEvent mk_X3_addEvent (Nat.le_of_ble_eq_true rfl) (c_X3_addEvent (by omega) hk) (fun z_ μ_ hq => ?_)
                        obtain ⟨hz2, hμ_⟩ := hq
                        subst hμ_
                        skip
                        exact P_iret (pc := 158) dX5_event_158 rfl (QI.mk (by
                              first
                                | (exfalso; omega)
                                | (have e : whyE ν.1 q k a b u = 0 := by
                                     unfold whyE
                                     repeat (first | rw [if_pos (by omega)] | rw [if_neg (by omega)])
                                   rw [e]
                                   exact ⟨by rw [if_pos rfl]; exact hz2.trans h7.1, by rw [if_pos rfl]; exact UP_event h (by omega) (by omega) (by omega) (by omega) (fun q => by omega) (fun q => by omega) (by omega) (by omega)⟩)))
                      · refine P_aload_n (pc := 137) dX5_event_137 rfl 0 rfl ?_
                        refine P_bipush (pc := 138) dX5_event_138 (by decide) ?_
                        refine P_callVi (Y' := mX5_refuse) (as := [_]) (pc := 140) dX5_event_140 rfl (by decide : 0 < 2) sC_0 rfl ml_RX5_67 im_X5_refuse se_X5_refuse mk_X5_refuse (Nat.le_of_ble_eq_true rfl) (c_X5_refuse h hn (by omega)) (fun z_ μ_ hq => ?_)
                        obtain ⟨hzr, hRr⟩ := hq
                        skip
                        exact P_iret (pc := 143) dX5_event_143 rfl (QI.mk (by
                              first
                                | (exfalso; omega)
                                | (have e : whyE ν.1 q k a b u = -6 := by
                                     unfold whyE
                                     repeat (first | rw [if_pos (by omega)] | rw [if_neg (by omega)])
                                   rw [e]
                                   exact ⟨by rw [if_neg (by decide)]; exact hzr, by rw [if_neg (by decide)]; exact RL_mono hRr (by omega)⟩)))
                    · refine P_aload_n (pc := 118) dX5_event_118 rfl 0 rfl ?_
                      refine P_bipush (pc := 119) dX5_event_119 (by decide) ?_
                      refine P_callVi (Y' := mX5_refuse) (as := [_]) (pc := 121) dX5_event_121 rfl (by decide : 0 < 2) sC_0 rfl ml_RX5_67 im_X5_refuse se_X5_refuse mk_X5_refuse (Nat.le_of_ble_eq_true rfl) (c_X5_refuse h hn (by omega)) (fun z_ μ_ hq => ?_)
                      obtain ⟨hzr, hRr⟩ := hq
                      skip
                      exact P_iret (pc := 124) dX5_event_124 rfl (QI.mk (by
                            first
                              | (exfalso; omega)
                              | (have e : whyE ν.1 q k a b u = -6 := by
                                   unfold whyE
                                   repeat (first | rw [if_pos (by omega)] | rw [if_neg (by omega)])
                                 rw [e]
                                 exact ⟨by rw [if_neg (by decide)]; exact hzr, by rw [if_neg (by decide)]; exact RL_mono hRr (by omega)⟩)))
                  · refine P_iload (pc := 104) dX5_event_104 4 rfl ?_
                    refine P_iconst (pc := 106) dX5_event_106 ?_
                    refine P_icmp_gt (tgt := 118) (pc := 107) dX5_event_107 (by decide) (by first | assumption | (unfold InR; omega)) (by first | assumption | (unfold InR; omega)) (fun c_107 => ?_) (fun c_107 => ?_)
                    · refine P_aload_n (pc := 118) dX5_event_118 rfl 0 rfl ?_
                      refine P_bipush (pc := 119) dX5_event_119 (by decide) ?_
                      refine P_callVi (Y' := mX5_refuse) (as := [_]) (pc := 121) dX5_event_121 rfl (by decide : 0 < 2) sC_0 rfl ml_RX5_67 im_X5_refuse se_X5_refuse mk_X5_refuse (Nat.le_of_ble_eq_true rfl) (c_X5_refuse h hn (by omega)) (fun z_ μ_ hq => ?_)
                      obtain ⟨hzr, hRr⟩ := hq
                      skip
                      exact P_iret (pc := 124) dX5_event_124 rfl (QI.mk (by
                            first
                              | (exfalso; omega)
                              | (have e : whyE ν.1 q k a b u = -6 := by
                                   unfold whyE
                                   repeat (first | rw [if_pos (by omega)] | rw [if_neg (by omega)])
                                 rw [e]
                                 exact ⟨by rw [if_neg (by decide)]; exact hzr, by rw [if_neg (by decide)]; exact RL_mono hRr (by omega)⟩)))
                    · refine P_iload (pc := 110) dX5_event_110 5 rfl ?_
                      refine P_callSi (Y' := mX5_isUnknownAbove) (as := [_]) (pc := 112) dX5_event_112 rfl (by decide : 0 < 2) ml_RX5_94 sm_X5_isUnknownAbove mk_X5_isUnknownAbove (Nat.le_of_ble_eq_true rfl) (c_X5_isUnknownAbove hu) (fun z_ μ_ hq => ?_)
                      obtain ⟨hz, hμ_⟩ := hq
                      have hμ_ := hμ_.symm
                      subst hμ_
                      have hz := ite01 hz
                      skip
                      refine P_if_eq (tgt := 125) (pc := 115) dX5_event_115 (by decide) (by first | assumption | (unfold InR; omega)) (fun c_115 => ?_) (fun c_115 => ?_)
                      · refine P_aload_n (pc := 125) dX5_event_125 rfl 0 rfl ?_
                        refine P_getR (pc := 126) dX5_event_126 fa_RX5_12 sC_0 fC0_0 ?_
                        refine P_getI (jj := 7) (pc := 129) dX5_event_129 fa_RX5_97 sC_1 fC1_7 rfl ?_
                        skip
                        refine P_bipush (pc := 132) dX5_event_132 (by decide) ?_
                        refine P_icmp_lt (tgt := 144) (pc := 134) dX5_event_134 (by decide) (by first | assumption | (unfold InR; omega)) (by first | assumption | (unfold InR; omega)) (fun c_134 => ?_) (fun c_134 => ?_)
                        · refine P_aload_n (pc := 144) dX5_event_144 rfl 0 rfl ?_
                          refine P_getR (pc := 145) dX5_event_145 fa_RX5_12 sC_0 fC0_0 ?_
                          refine P_iload_n (pc := 148) dX5_event_148 rfl 1 rfl ?_
                          refine P_iload_n (pc := 149) dX5_event_149 rfl 2 rfl ?_
                          refine P_iload_n (pc := 150) dX5_event_150 rfl 3 rfl ?_
                          refine P_iload (pc := 151) dX5_event_151 4 rfl ?_
                          refine P_iload (pc := 153) dX5_event_153 5 rfl ?_
                          refine P_callVi (Y' := mX3_addEvent) (as := [_, _, _, _, _]) (pc := 155) dX5_event_155 rfl (by decide : 1 < 2) sC_1 rfl ml_RX5_100 im_X3_addEvent se_X3_addEvent mk_X3_addEvent (Nat.le_of_ble_eq_true rfl) (c_X3_addEvent (by omega) hk) (fun z_ μ_ hq => ?_)
                          obtain ⟨hz2, hμ_⟩ := hq
                          subst hμ_
                          skip
                          exact P_iret (pc := 158) dX5_event_158 rfl (QI.mk (by
                                first
                                  | (exfalso; omega)
                                  | (have e : whyE ν.1 q k a b u = 0 := by
                                       unfold whyE
                                       repeat (first | rw [if_pos (by omega)] | rw [if_neg (by omega)])
                                     rw [e]
                                     exact ⟨by rw [if_pos rfl]; exact hz2.trans h7.1, by rw [if_pos rfl]; exact UP_event h (by omega) (by omega) (by omega) (by omega) (fun q => by omega) (fun q => by omega) (by omega) (by omega)⟩)))
                        · refine P_aload_n (pc := 137) dX5_event_137 rfl 0 rfl ?_
                          refine P_bipush (pc := 138) dX5_event_138 (by decide) ?_
                          refine P_callVi (Y' := mX5_refuse) (as := [_]) (pc := 140) dX5_event_140 rfl (by decide : 0 < 2) sC_0 rfl ml_RX5_67 im_X5_refuse se_X5_refuse mk_X5_refuse (Nat.le_of_ble_eq_true rfl) (c_X5_refuse h hn (by omega)) (fun z_ μ_ hq => ?_)
                          obtain ⟨hzr, hRr⟩ := hq
                          skip
                          exact P_iret (pc := 143) dX5_event_143 rfl (QI.mk (by
                                first
                                  | (exfalso; omega)
                                  | (have e : whyE ν.1 q k a b u = -6 := by
                                       unfold whyE
                                       repeat (first | rw [if_pos (by omega)] | rw [if_neg (by omega)])
                                     rw [e]
                                     exact ⟨by rw [if_neg (by decide)]; exact hzr, by rw [if_neg (by decide)]; exact RL_mono hRr (by omega)⟩)))
                      · refine P_aload_n (pc := 118) dX5_event_118 rfl 0 rfl ?_
                        refine P_bipush (pc := 119) dX5_event_119 (by decide) ?_
                        refine P_callVi (Y' := mX5_refuse) (as := [_]) (pc := 121) dX5_event_121 rfl (by decide : 0 < 2) sC_0 rfl ml_RX5_67 im_X5_refuse se_X5_refuse mk_X5_refuse (Nat.le_of_ble_eq_true rfl) (c_X5_refuse h hn (by omega)) (fun z_ μ_ hq => ?_)
                        obtain ⟨hzr, hRr⟩ := hq
                        skip
                        exact P_iret (pc := 124) dX5_event_124 rfl (QI.mk (by
                              first
                                | (exfalso; omega)
                                | (have e : whyE ν.1 q k a b u = -6 := by
                                     unfold whyE
                                     repeat (first | rw [if_pos (by omega)] | rw [if_neg (by omega)])
                                   rw [e]
                                   exact ⟨by rw [if_neg (by decide)]; exact hzr, by rw [if_neg (by decide)]; exact RL_mono hRr (by omega)⟩)))
              · refine P_iload (pc := 79) dX5_event_79 4 rfl ?_
                refine P_iconst (pc := 81) dX5_event_81 ?_
                refine P_icmp_ge (tgt := 92) (pc := 82) dX5_event_82 (by decide) (by first | assumption | (unfold InR; omega)) (by first | assumption | (unfold InR; omega)) (fun c_82 => ?_) (fun c_82 => ?_)
                · refine P_iload_n (pc := 92) dX5_event_92 rfl 1 rfl ?_
                  refine P_bipush (pc := 93) dX5_event_93 (by decide) ?_
                  refine P_icmp_ge (tgt := 118) (pc := 95) dX5_event_95 (by decide) (by first | assumption | (unfold InR; omega)) (by first | assumption | (unfold InR; omega)) (fun c_95 => ?_) (fun c_95 => ?_)
                  · refine P_aload_n (pc := 118) dX5_event_118 rfl 0 rfl ?_
                    refine P_bipush (pc := 119) dX5_event_119 (by decide) ?_
                    refine P_callVi (Y' := mX5_refuse) (as := [_]) (pc := 121) dX5_event_121 rfl (by decide : 0 < 2) sC_0 rfl ml_RX5_67 im_X5_refuse se_X5_refuse mk_X5_refuse (Nat.le_of_ble_eq_true rfl) (c_X5_refuse h hn (by omega)) (fun z_ μ_ hq => ?_)
                    obtain ⟨hzr, hRr⟩ := hq
                    skip
                    exact P_iret (pc := 124) dX5_event_124 rfl (QI.mk (by
                          first
                            | (exfalso; omega)
                            | (have e : whyE ν.1 q k a b u = -6 := by
                                 unfold whyE
                                 repeat (first | rw [if_pos (by omega)] | rw [if_neg (by omega)])
                               rw [e]
                               exact ⟨by rw [if_neg (by decide)]; exact hzr, by rw [if_neg (by decide)]; exact RL_mono hRr (by omega)⟩)))
                  · refine P_iload_n (pc := 98) dX5_event_98 rfl 2 rfl ?_
                    refine P_bipush (pc := 99) dX5_event_99 (by decide) ?_
                    refine P_icmp_ne (tgt := 110) (pc := 101) dX5_event_101 (by decide) (by first | assumption | (unfold InR; omega)) (by first | assumption | (unfold InR; omega)) (fun c_101 => ?_) (fun c_101 => ?_)
                    · refine P_iload (pc := 110) dX5_event_110 5 rfl ?_
                      refine P_callSi (Y' := mX5_isUnknownAbove) (as := [_]) (pc := 112) dX5_event_112 rfl (by decide : 0 < 2) ml_RX5_94 sm_X5_isUnknownAbove mk_X5_isUnknownAbove (Nat.le_of_ble_eq_true rfl) (c_X5_isUnknownAbove hu) (fun z_ μ_ hq => ?_)
                      obtain ⟨hz, hμ_⟩ := hq
                      have hμ_ := hμ_.symm
                      subst hμ_
                      have hz := ite01 hz
                      skip
                      refine P_if_eq (tgt := 125) (pc := 115) dX5_event_115 (by decide) (by first | assumption | (unfold InR; omega)) (fun c_115 => ?_) (fun c_115 => ?_)
                      · refine P_aload_n (pc := 125) dX5_event_125 rfl 0 rfl ?_
                        refine P_getR (pc := 126) dX5_event_126 fa_RX5_12 sC_0 fC0_0 ?_
                        refine P_getI (jj := 7) (pc := 129) dX5_event_129 fa_RX5_97 sC_1 fC1_7 rfl ?_
                        skip
                        refine P_bipush (pc := 132) dX5_event_132 (by decide) ?_
                        refine P_icmp_lt (tgt := 144) (pc := 134) dX5_event_134 (by decide) (by first | assumption | (unfold InR; omega)) (by first | assumption | (unfold InR; omega)) (fun c_134 => ?_) (fun c_134 => ?_)
                        · refine P_aload_n (pc := 144) dX5_event_144 rfl 0 rfl ?_
                          refine P_getR (pc := 145) dX5_event_145 fa_RX5_12 sC_0 fC0_0 ?_
                          refine P_iload_n (pc := 148) dX5_event_148 rfl 1 rfl ?_
                          refine P_iload_n (pc := 149) dX5_event_149 rfl 2 rfl ?_
                          refine P_iload_n (pc := 150) dX5_event_150 rfl 3 rfl ?_
                          refine P_iload (pc := 151) dX5_event_151 4 rfl ?_
                          refine P_iload (pc := 153) dX5_event_153 5 rfl ?_
                          refine P_callVi (Y' := mX3_addEvent) (as := [_, _, _, _, _]) (pc := 155) dX5_event_155 rfl (by decide : 1 < 2) sC_1 rfl ml_RX5_100 im_X3_addEvent se_X3_addEvent mk_X3_addEvent (Nat.le_of_ble_eq_true rfl) (c_X3_addEvent (by omega) hk) (fun z_ μ_ hq => ?_)
                          obtain ⟨hz2, hμ_⟩ := hq
                          subst hμ_
                          skip
                          exact P_iret (pc := 158) dX5_event_158 rfl (QI.mk (by
                                first
                                  | (exfalso; omega)
                                  | (have e : whyE ν.1 q k a b u = 0 := by
                                       unfold whyE
                                       repeat (first | rw [if_pos (by omega)] | rw [if_neg (by omega)])
                                     rw [e]
                                     exact ⟨by rw [if_pos rfl]; exact hz2.trans h7.1, by rw [if_pos rfl]; exact UP_event h (by omega) (by omega) (by omega) (by omega) (fun q => by omega) (fun q => by omega) (by omega) (by omega)⟩)))
                        · refine P_aload_n (pc := 137) dX5_event_137 rfl 0 rfl ?_
                          refine P_bipush (pc := 138) dX5_event_138 (by decide) ?_
                          refine P_callVi (Y' := mX5_refuse) (as := [_]) (pc := 140) dX5_event_140 rfl (by decide : 0 < 2) sC_0 rfl ml_RX5_67 im_X5_refuse se_X5_refuse mk_X5_refuse (Nat.le_of_ble_eq_true rfl) (c_X5_refuse h hn (by omega)) (fun z_ μ_ hq => ?_)
                          obtain ⟨hzr, hRr⟩ := hq
                          skip
                          exact P_iret (pc := 143) dX5_event_143 rfl (QI.mk (by
                                first
                                  | (exfalso; omega)
                                  | (have e : whyE ν.1 q k a b u = -6 := by
                                       unfold whyE
                                       repeat (first | rw [if_pos (by omega)] | rw [if_neg (by omega)])
                                     rw [e]
                                     exact ⟨by rw [if_neg (by decide)]; exact hzr, by rw [if_neg (by decide)]; exact RL_mono hRr (by omega)⟩)))
                      · refine P_aload_n (pc := 118) dX5_event_118 rfl 0 rfl ?_
                        refine P_bipush (pc := 119) dX5_event_119 (by decide) ?_
                        refine P_callVi (Y' := mX5_refuse) (as := [_]) (pc := 121) dX5_event_121 rfl (by decide : 0 < 2) sC_0 rfl ml_RX5_67 im_X5_refuse se_X5_refuse mk_X5_refuse (Nat.le_of_ble_eq_true rfl) (c_X5_refuse h hn (by omega)) (fun z_ μ_ hq => ?_)
                        obtain ⟨hzr, hRr⟩ := hq
                        skip
                        exact P_iret (pc := 124) dX5_event_124 rfl (QI.mk (by
                              first
                                | (exfalso; omega)
                                | (have e : whyE ν.1 q k a b u = -6 := by
                                     unfold whyE
                                     repeat (first | rw [if_pos (by omega)] | rw [if_neg (by omega)])
                                   rw [e]
                                   exact ⟨by rw [if_neg (by decide)]; exact hzr, by rw [if_neg (by decide)]; exact RL_mono hRr (by omega)⟩)))
                    · refine P_iload (pc := 104) dX5_event_104 4 rfl ?_
                      refine P_iconst (pc := 106) dX5_event_106 ?_
                      refine P_icmp_gt (tgt := 118) (pc := 107) dX5_event_107 (by decide) (by first | assumption | (unfold InR; omega)) (by first | assumption | (unfold InR; omega)) (fun c_107 => ?_) (fun c_107 => ?_)
                      · refine P_aload_n (pc := 118) dX5_event_118 rfl 0 rfl ?_
                        refine P_bipush (pc := 119) dX5_event_119 (by decide) ?_
                        refine P_callVi (Y' := mX5_refuse) (as := [_]) (pc := 121) dX5_event_121 rfl (by decide : 0 < 2) sC_0 rfl ml_RX5_67 im_X5_refuse se_X5_refuse mk_X5_refuse (Nat.le_of_ble_eq_true rfl) (c_X5_refuse h hn (by omega)) (fun z_ μ_ hq => ?_)
                        obtain ⟨hzr, hRr⟩ := hq
                        skip
                        exact P_iret (pc := 124) dX5_event_124 rfl (QI.mk (by
                              first
                                | (exfalso; omega)
                                | (have e : whyE ν.1 q k a b u = -6 := by
                                     unfold whyE
                                     repeat (first | rw [if_pos (by omega)] | rw [if_neg (by omega)])
                                   rw [e]
                                   exact ⟨by rw [if_neg (by decide)]; exact hzr, by rw [if_neg (by decide)]; exact RL_mono hRr (by omega)⟩)))
                      · refine P_iload (pc := 110) dX5_event_110 5 rfl ?_
                        refine P_callSi (Y' := mX5_isUnknownAbove) (as := [_]) (pc := 112) dX5_event_112 rfl (by decide : 0 < 2) ml_RX5_94 sm_X5_isUnknownAbove mk_X5_isUnknownAbove (Nat.le_of_ble_eq_true rfl) (c_X5_isUnknownAbove hu) (fun z_ μ_ hq => ?_)
                        obtain ⟨hz, hμ_⟩ := hq
                        have hμ_ := hμ_.symm
                        subst hμ_
                        have hz := ite01 hz
                        skip
                        refine P_if_eq (tgt := 125) (pc := 115) dX5_event_115 (by decide) (by first | assumption | (unfold InR; omega)) (fun c_115 => ?_) (fun c_115 => ?_)
                        · refine P_aload_n (pc := 125) dX5_event_125 rfl 0 rfl ?_
                          refine P_getR (pc := 126) dX5_event_126 fa_RX5_12 sC_0 fC0_0 ?_
                          refine P_getI (jj := 7) (pc := 129) dX5_event_129 fa_RX5_97 sC_1 fC1_7 rfl ?_
                          skip
                          refine P_bipush (pc := 132) dX5_event_132 (by decide) ?_
                          refine P_icmp_lt (tgt := 144) (pc := 134) dX5_event_134 (by decide) (by first | assumption | (unfold InR; omega)) (by first | assumption | (unfold InR; omega)) (fun c_134 => ?_) (fun c_134 => ?_)
                          · refine P_aload_n (pc := 144) dX5_event_144 rfl 0 rfl ?_
                            refine P_getR (pc := 145) dX5_event_145 fa_RX5_12 sC_0 fC0_0 ?_
                            refine P_iload_n (pc := 148) dX5_event_148 rfl 1 rfl ?_
                            refine P_iload_n (pc := 149) dX5_event_149 rfl 2 rfl ?_
                            refine P_iload_n (pc := 150) dX5_event_150 rfl 3 rfl ?_
                            refine P_iload (pc := 151) dX5_event_151 4 rfl ?_
                            refine P_iload (pc := 153) dX5_event_153 5 rfl ?_
                            refine P_callVi (Y' := mX3_addEvent) (as := [_, _, _, _, _]) (pc := 155) dX5_event_155 rfl (by decide : 1 < 2) sC_1 rfl ml_RX5_100 im_X3_addEvent se_X3_addEvent mk_X3_addEvent (Nat.le_of_ble_eq_true rfl) (c_X3_addEvent (by omega) hk) (fun z_ μ_ hq => ?_)
                            obtain ⟨hz2, hμ_⟩ := hq
                            subst hμ_
                            skip
                            exact P_iret (pc := 158) dX5_event_158 rfl (QI.mk (by
                                  first
                                    | (exfalso; omega)
                                    | (have e : whyE ν.1 q k a b u = 0 := by
                                         unfold whyE
                                         repeat (first | rw [if_pos (by omega)] | rw [if_neg (by omega)])
                                       rw [e]
                                       exact ⟨by rw [if_pos rfl]; exact hz2.trans h7.1, by rw [if_pos rfl]; exact UP_event h (by omega) (by omega) (by omega) (by omega) (fun q => by omega) (fun q => by omega) (by omega) (by omega)⟩)))
                          · refine P_aload_n (pc := 137) dX5_event_137 rfl 0 rfl ?_
                            refine P_bipush (pc := 138) dX5_event_138 (by decide) ?_
                            refine P_callVi (Y' := mX5_refuse) (as := [_]) (pc := 140) dX5_event_140 rfl (by decide : 0 < 2) sC_0 rfl ml_RX5_67 im_X5_refuse se_X5_refuse mk_X5_refuse (Nat.le_of_ble_eq_true rfl) (c_X5_refuse h hn (by omega)) (fun z_ μ_ hq => ?_)
                            obtain ⟨hzr, hRr⟩ := hq
                            skip
                            exact P_iret (pc := 143) dX5_event_143 rfl (QI.mk (by
                                  first
                                    | (exfalso; omega)
                                    | (have e : whyE ν.1 q k a b u = -6 := by
                                         unfold whyE
                                         repeat (first | rw [if_pos (by omega)] | rw [if_neg (by omega)])
                                       rw [e]
                                       exact ⟨by rw [if_neg (by decide)]; exact hzr, by rw [if_neg (by decide)]; exact RL_mono hRr (by omega)⟩)))
                        · refine P_aload_n (pc := 118) dX5_event_118 rfl 0 rfl ?_
                          refine P_bipush (pc := 119) dX5_event_119 (by decide) ?_
                          refine P_callVi (Y' := mX5_refuse) (as := [_]) (pc := 121) dX5_event_121 rfl (by decide : 0 < 2) sC_0 rfl ml_RX5_67 im_X5_refuse se_X5_refuse mk_X5_refuse (Nat.le_of_ble_eq_true rfl) (c_X5_refuse h hn (by omega)) (fun z_ μ_ hq => ?_)
                          obtain ⟨hzr, hRr⟩ := hq
                          skip
                          exact P_iret (pc := 124) dX5_event_124 rfl (QI.mk (by
                                first
                                  | (exfalso; omega)
                                  | (have e : whyE ν.1 q k a b u = -6 := by
                                       unfold whyE
                                       repeat (first | rw [if_pos (by omega)] | rw [if_neg (by omega)])
                                     rw [e]
                                     exact ⟨by rw [if_neg (by decide)]; exact hzr, by rw [if_neg (by decide)]; exact RL_mono hRr (by omega)⟩)))
                · refine P_aload_n (pc := 85) dX5_event_85 rfl 0 rfl ?_
                  refine P_bipush (pc := 86) dX5_event_86 (by decide) ?_
                  refine P_callVi (Y' := mX5_refuse) (as := [_]) (pc := 88) dX5_event_88 rfl (by decide : 0 < 2) sC_0 rfl ml_RX5_67 im_X5_refuse se_X5_refuse mk_X5_refuse (Nat.le_of_ble_eq_true rfl) (c_X5_refuse h hn (by omega)) (fun z_ μ_ hq => ?_)
                  obtain ⟨hzr, hRr⟩ := hq
                  skip
                  exact P_iret (pc := 91) dX5_event_91 rfl (QI.mk (by
                        first
                          | (exfalso; omega)
                          | (have e : whyE ν.1 q k a b u = -4 := by
                               unfold whyE
                               repeat (first | rw [if_pos (by omega)] | rw [if_neg (by omega)])
                             rw [e]
                             exact ⟨by rw [if_neg (by decide)]; exact hzr, by rw [if_neg (by decide)]; exact RL_mono hRr (by omega)⟩)))
        · refine P_aload_n (pc := 39) dX5_event_39 rfl 0 rfl ?_
          refine P_getR (pc := 40) dX5_event_40 fa_RX5_12 sC_0 fC0_0 ?_
          refine P_iload (pc := 43) dX5_event_43 4 rfl ?_
          refine P_callVi (Y' := mX3_isThere) (as := [_]) (pc := 45) dX5_event_45 rfl (by decide : 0 < 2) sC_1 rfl ml_RX5_90 im_X3_isThere se_X3_isThere mk_X3_isThere (Nat.le_of_ble_eq_true rfl) (c_X3_isThere hb (by unfold InR; omega)) (fun z_ μ_ hq => ?_)
          obtain ⟨hz, hμ_⟩ := hq
          have hμ_ := hμ_.symm
          subst hμ_
          rw [h6.1] at hz
          have hz := ite01 hz
          skip
          refine P_if_eq (tgt := 57) (pc := 48) dX5_event_48 (by decide) (by first | assumption | (unfold InR; omega)) (fun c_48 => ?_) (fun c_48 => ?_)
          · refine P_aload_n (pc := 57) dX5_event_57 rfl 0 rfl ?_
            refine P_iconst (pc := 58) dX5_event_58 ?_
            refine P_callVi (Y' := mX5_refuse) (as := [_]) (pc := 59) dX5_event_59 rfl (by decide : 0 < 2) sC_0 rfl ml_RX5_67 im_X5_refuse se_X5_refuse mk_X5_refuse (Nat.le_of_ble_eq_true rfl) (c_X5_refuse h hn (by omega)) (fun z_ μ_ hq => ?_)
            obtain ⟨hzr, hRr⟩ := hq
            skip
            exact P_iret (pc := 62) dX5_event_62 rfl (QI.mk (by
                  first
                    | (exfalso; omega)
                    | (have e : whyE ν.1 q k a b u = -1 := by
                         unfold whyE
                         repeat (first | rw [if_pos (by omega)] | rw [if_neg (by omega)])
                       rw [e]
                       exact ⟨by rw [if_neg (by decide)]; exact hzr, by rw [if_neg (by decide)]; exact RL_mono hRr (by omega)⟩)))
          · refine P_iload_n (pc := 51) dX5_event_51 rfl 3 rfl ?_
            refine P_iload (pc := 52) dX5_event_52 4 rfl ?_
            refine P_icmp_ne (tgt := 63) (pc := 54) dX5_event_54 (by decide) (by first | assumption | (unfold InR; omega)) (by first | assumption | (unfold InR; omega)) (fun c_54 => ?_) (fun c_54 => ?_)
            · refine P_iload_n (pc := 63) dX5_event_63 rfl 1 rfl ?_
              refine P_if_lt (tgt := 85) (pc := 64) dX5_event_64 (by decide) (by first | assumption | (unfold InR; omega)) (fun c_64 => ?_) (fun c_64 => ?_)
              · refine P_aload_n (pc := 85) dX5_event_85 rfl 0 rfl ?_
                refine P_bipush (pc := 86) dX5_event_86 (by decide) ?_
                refine P_callVi (Y' := mX5_refuse) (as := [_]) (pc := 88) dX5_event_88 rfl (by decide : 0 < 2) sC_0 rfl ml_RX5_67 im_X5_refuse se_X5_refuse mk_X5_refuse (Nat.le_of_ble_eq_true rfl) (c_X5_refuse h hn (by omega)) (fun z_ μ_ hq => ?_)
                obtain ⟨hzr, hRr⟩ := hq
                skip
                exact P_iret (pc := 91) dX5_event_91 rfl (QI.mk (by
                      first
                        | (exfalso; omega)
                        | (have e : whyE ν.1 q k a b u = -4 := by
                             unfold whyE
                             repeat (first | rw [if_pos (by omega)] | rw [if_neg (by omega)])
                           rw [e]
                           exact ⟨by rw [if_neg (by decide)]; exact hzr, by rw [if_neg (by decide)]; exact RL_mono hRr (by omega)⟩)))
              · refine P_iload (pc := 67) dX5_event_67 5 rfl ?_
                refine P_iconst (pc := 69) dX5_event_69 ?_
                refine P_icmp_lt (tgt := 85) (pc := 70) dX5_event_70 (by decide) (by first | assumption | (unfold InR; omega)) (by first | assumption | (unfold InR; omega)) (fun c_70 => ?_) (fun c_70 => ?_)
                · refine P_aload_n (pc := 85) dX5_event_85 rfl 0 rfl ?_
                  refine P_bipush (pc := 86) dX5_event_86 (by decide) ?_
                  refine P_callVi (Y' := mX5_refuse) (as := [_]) (pc := 88) dX5_event_88 rfl (by decide : 0 < 2) sC_0 rfl ml_RX5_67 im_X5_refuse se_X5_refuse mk_X5_refuse (Nat.le_of_ble_eq_true rfl) (c_X5_refuse h hn (by omega)) (fun z_ μ_ hq => ?_)
                  obtain ⟨hzr, hRr⟩ := hq
                  skip
                  exact P_iret (pc := 91) dX5_event_91 rfl (QI.mk (by
                        first
                          | (exfalso; omega)
                          | (have e : whyE ν.1 q k a b u = -4 := by
                               unfold whyE
                               repeat (first | rw [if_pos (by omega)] | rw [if_neg (by omega)])
                             rw [e]
                             exact ⟨by rw [if_neg (by decide)]; exact hzr, by rw [if_neg (by decide)]; exact RL_mono hRr (by omega)⟩)))
                · refine P_iload_n (pc := 73) dX5_event_73 rfl 2 rfl ?_
                  refine P_bipush (pc := 74) dX5_event_74 (by decide) ?_
                  refine P_icmp_ne (tgt := 92) (pc := 76) dX5_event_76 (by decide) (by first | assumption | (unfold InR; omega)) (by first | assumption | (unfold InR; omega)) (fun c_76 => ?_) (fun c_76 => ?_)
                  · refine P_iload_n (pc := 92) dX5_event_92 rfl 1 rfl ?_
                    refine P_bipush (pc := 93) dX5_event_93 (by decide) ?_
                    refine P_icmp_ge (tgt := 118) (pc := 95) dX5_event_95 (by decide) (by first | assumption | (unfold InR; omega)) (by first | assumption | (unfold InR; omega)) (fun c_95 => ?_) (fun c_95 => ?_)
                    · refine P_aload_n (pc := 118) dX5_event_118 rfl 0 rfl ?_
                      refine P_bipush (pc := 119) dX5_event_119 (by decide) ?_
                      refine P_callVi (Y' := mX5_refuse) (as := [_]) (pc := 121) dX5_event_121 rfl (by decide : 0 < 2) sC_0 rfl ml_RX5_67 im_X5_refuse se_X5_refuse mk_X5_refuse (Nat.le_of_ble_eq_true rfl) (c_X5_refuse h hn (by omega)) (fun z_ μ_ hq => ?_)
                      obtain ⟨hzr, hRr⟩ := hq
                      skip
                      exact P_iret (pc := 124) dX5_event_124 rfl (QI.mk (by
                            first
                              | (exfalso; omega)
                              | (have e : whyE ν.1 q k a b u = -6 := by
                                   unfold whyE
                                   repeat (first | rw [if_pos (by omega)] | rw [if_neg (by omega)])
                                 rw [e]
                                 exact ⟨by rw [if_neg (by decide)]; exact hzr, by rw [if_neg (by decide)]; exact RL_mono hRr (by omega)⟩)))
                    · refine P_iload_n (pc := 98) dX5_event_98 rfl 2 rfl ?_
                      refine P_bipush (pc := 99) dX5_event_99 (by decide) ?_
                      refine P_icmp_ne (tgt := 110) (pc := 101) dX5_event_101 (by decide) (by first | assumption | (unfold InR; omega)) (by first | assumption | (unfold InR; omega)) (fun c_101 => ?_) (fun c_101 => ?_)
                      · refine P_iload (pc := 110) dX5_event_110 5 rfl ?_
                        refine P_callSi (Y' := mX5_isUnknownAbove) (as := [_]) (pc := 112) dX5_event_112 rfl (by decide : 0 < 2) ml_RX5_94 sm_X5_isUnknownAbove mk_X5_isUnknownAbove (Nat.le_of_ble_eq_true rfl) (c_X5_isUnknownAbove hu) (fun z_ μ_ hq => ?_)
                        obtain ⟨hz, hμ_⟩ := hq
                        have hμ_ := hμ_.symm
                        subst hμ_
                        have hz := ite01 hz
                        skip
                        refine P_if_eq (tgt := 125) (pc := 115) dX5_event_115 (by decide) (by first | assumption | (unfold InR; omega)) (fun c_115 => ?_) (fun c_115 => ?_)
                        · refine P_aload_n (pc := 125) dX5_event_125 rfl 0 rfl ?_
                          refine P_getR (pc := 126) dX5_event_126 fa_RX5_12 sC_0 fC0_0 ?_
                          refine P_getI (jj := 7) (pc := 129) dX5_event_129 fa_RX5_97 sC_1 fC1_7 rfl ?_
                          skip
                          refine P_bipush (pc := 132) dX5_event_132 (by decide) ?_
                          refine P_icmp_lt (tgt := 144) (pc := 134) dX5_event_134 (by decide) (by first | assumption | (unfold InR; omega)) (by first | assumption | (unfold InR; omega)) (fun c_134 => ?_) (fun c_134 => ?_)
                          · refine P_aload_n (pc := 144) dX5_event_144 rfl 0 rfl ?_
                            refine P_getR (pc := 145) dX5_event_145 fa_RX5_12 sC_0 fC0_0 ?_
                            refine P_iload_n (pc := 148) dX5_event_148 rfl 1 rfl ?_
                            refine P_iload_n (pc := 149) dX5_event_149 rfl 2 rfl ?_
                            refine P_iload_n (pc := 150) dX5_event_150 rfl 3 rfl ?_
                            refine P_iload (pc := 151) dX5_event_151 4 rfl ?_
                            refine P_iload (pc := 153) dX5_event_153 5 rfl ?_
                            refine P_callVi (Y' := mX3_addEvent) (as := [_, _, _, _, _]) (pc := 155) dX5_event_155 rfl (by decide : 1 < 2) sC_1 rfl ml_RX5_100 im_X3_addEvent se_X3_addEvent mk_X3_addEvent (Nat.le_of_ble_eq_true rfl) (c_X3_addEvent (by omega) hk) (fun z_ μ_ hq => ?_)
                            obtain ⟨hz2, hμ_⟩ := hq
                            subst hμ_
                            skip
                            exact P_iret (pc := 158) dX5_event_158 rfl (QI.mk (by
                                  first
                                    | (exfalso; omega)
                                    | (have e : whyE ν.1 q k a b u = 0 := by
                                         unfold whyE
                                         repeat (first | rw [if_pos (by omega)] | rw [if_neg (by omega)])
                                       rw [e]
                                       exact ⟨by rw [if_pos rfl]; exact hz2.trans h7.1, by rw [if_pos rfl]; exact UP_event h (by omega) (by omega) (by omega) (by omega) (fun q => by omega) (fun q => by omega) (by omega) (by omega)⟩)))
                          · refine P_aload_n (pc := 137) dX5_event_137 rfl 0 rfl ?_
                            refine P_bipush (pc := 138) dX5_event_138 (by decide) ?_
                            refine P_callVi (Y' := mX5_refuse) (as := [_]) (pc := 140) dX5_event_140 rfl (by decide : 0 < 2) sC_0 rfl ml_RX5_67 im_X5_refuse se_X5_refuse mk_X5_refuse (Nat.le_of_ble_eq_true rfl) (c_X5_refuse h hn (by omega)) (fun z_ μ_ hq => ?_)
                            obtain ⟨hzr, hRr⟩ := hq
                            skip
                            exact P_iret (pc := 143) dX5_event_143 rfl (QI.mk (by
                                  first
                                    | (exfalso; omega)
                                    | (have e : whyE ν.1 q k a b u = -6 := by
                                         unfold whyE
                                         repeat (first | rw [if_pos (by omega)] | rw [if_neg (by omega)])
                                       rw [e]
                                       exact ⟨by rw [if_neg (by decide)]; exact hzr, by rw [if_neg (by decide)]; exact RL_mono hRr (by omega)⟩)))
                        · refine P_aload_n (pc := 118) dX5_event_118 rfl 0 rfl ?_
                          refine P_bipush (pc := 119) dX5_event_119 (by decide) ?_
                          refine P_callVi (Y' := mX5_refuse) (as := [_]) (pc := 121) dX5_event_121 rfl (by decide : 0 < 2) sC_0 rfl ml_RX5_67 im_X5_refuse se_X5_refuse mk_X5_refuse (Nat.le_of_ble_eq_true rfl) (c_X5_refuse h hn (by omega)) (fun z_ μ_ hq => ?_)
                          obtain ⟨hzr, hRr⟩ := hq
                          skip
                          exact P_iret (pc := 124) dX5_event_124 rfl (QI.mk (by
                                first
                                  | (exfalso; omega)
                                  | (have e : whyE ν.1 q k a b u = -6 := by
                                       unfold whyE
                                       repeat (first | rw [if_pos (by omega)] | rw [if_neg (by omega)])
                                     rw [e]
                                     exact ⟨by rw [if_neg (by decide)]; exact hzr, by rw [if_neg (by decide)]; exact RL_mono hRr (by omega)⟩)))
                      · refine P_iload (pc := 104) dX5_event_104 4 rfl ?_
                        refine P_iconst (pc := 106) dX5_event_106 ?_
                        refine P_icmp_gt (tgt := 118) (pc := 107) dX5_event_107 (by decide) (by first | assumption | (unfold InR; omega)) (by first | assumption | (unfold InR; omega)) (fun c_107 => ?_) (fun c_107 => ?_)
                        · refine P_aload_n (pc := 118) dX5_event_118 rfl 0 rfl ?_
                          refine P_bipush (pc := 119) dX5_event_119 (by decide) ?_
                          refine P_callVi (Y' := mX5_refuse) (as := [_]) (pc := 121) dX5_event_121 rfl (by decide : 0 < 2) sC_0 rfl ml_RX5_67 im_X5_refuse se_X5_refuse mk_X5_refuse (Nat.le_of_ble_eq_true rfl) (c_X5_refuse h hn (by omega)) (fun z_ μ_ hq => ?_)
                          obtain ⟨hzr, hRr⟩ := hq
                          skip
                          exact P_iret (pc := 124) dX5_event_124 rfl (QI.mk (by
                                first
                                  | (exfalso; omega)
                                  | (have e : whyE ν.1 q k a b u = -6 := by
                                       unfold whyE
                                       repeat (first | rw [if_pos (by omega)] | rw [if_neg (by omega)])
                                     rw [e]
                                     exact ⟨by rw [if_neg (by decide)]; exact hzr, by rw [if_neg (by decide)]; exact RL_mono hRr (by omega)⟩)))
                        · refine P_iload (pc := 110) dX5_event_110 5 rfl ?_
                          refine P_callSi (Y' := mX5_isUnknownAbove) (as := [_]) (pc := 112) dX5_event_112 rfl (by decide : 0 < 2) ml_RX5_94 sm_X5_isUnknownAbove mk_X5_isUnknownAbove (Nat.le_of_ble_eq_true rfl) (c_X5_isUnknownAbove hu) (fun z_ μ_ hq => ?_)
                          obtain ⟨hz, hμ_⟩ := hq
                          have hμ_ := hμ_.symm
                          subst hμ_
                          have hz := ite01 hz
                          skip
                          refine P_if_eq (tgt := 125) (pc := 115) dX5_event_115 (by decide) (by first | assumption | (unfold InR; omega)) (fun c_115 => ?_) (fun c_115 => ?_)
                          · refine P_aload_n (pc := 125) dX5_event_125 rfl 0 rfl ?_
                            refine P_getR (pc := 126) dX5_event_126 fa_RX5_12 sC_0 fC0_0 ?_
                            refine P_getI (jj := 7) (pc := 129) dX5_event_129 fa_RX5_97 sC_1 fC1_7 rfl ?_
                            skip
                            refine P_bipush (pc := 132) dX5_event_132 (by decide) ?_
                            refine P_icmp_lt (tgt := 144) (pc := 134) dX5_event_134 (by decide) (by first | assumption | (unfold InR; omega)) (by first | assumption | (unfold InR; omega)) (fun c_134 => ?_) (fun c_134 => ?_)
                            · refine P_aload_n (pc := 144) dX5_event_144 rfl 0 rfl ?_
                              refine P_getR (pc := 145) dX5_event_145 fa_RX5_12 sC_0 fC0_0 ?_
                              refine P_iload_n (pc := 148) dX5_event_148 rfl 1 rfl ?_
                              refine P_iload_n (pc := 149) dX5_event_149 rfl 2 rfl ?_
                              refine P_iload_n (pc := 150) dX5_event_150 rfl 3 rfl ?_
                              refine P_iload (pc := 151) dX5_event_151 4 rfl ?_
                              refine P_iload (pc := 153) dX5_event_153 5 rfl ?_
                              refine P_callVi (Y' := mX3_addEvent) (as := [_, _, _, _, _]) (pc := 155) dX5_event_155 rfl (by decide : 1 < 2) sC_1 rfl ml_RX5_100 im_X3_addEvent se_X3_addEvent mk_X3_addEvent (Nat.le_of_ble_eq_true rfl) (c_X3_addEvent (by omega) hk) (fun z_ μ_ hq => ?_)
                              obtain ⟨hz2, hμ_⟩ := hq
                              subst hμ_
                              skip
                              exact P_iret (pc := 158) dX5_event_158 rfl (QI.mk (by
                                    first
                                      | (exfalso; omega)
                                      | (have e : whyE ν.1 q k a b u = 0 := by
                                           unfold whyE
                                           repeat (first | rw [if_pos (by omega)] | rw [if_neg (by omega)])
                                         rw [e]
                                         exact ⟨by rw [if_pos rfl]; exact hz2.trans h7.1, by rw [if_pos rfl]; exact UP_event h (by omega) (by omega) (by omega) (by omega) (fun q => by omega) (fun q => by omega) (by omega) (by omega)⟩)))
                            · refine P_aload_n (pc := 137) dX5_event_137 rfl 0 rfl ?_
                              refine P_bipush (pc := 138) dX5_event_138 (by decide) ?_
                              refine P_callVi (Y' := mX5_refuse) (as := [_]) (pc := 140) dX5_event_140 rfl (by decide : 0 < 2) sC_0 rfl ml_RX5_67 im_X5_refuse se_X5_refuse mk_X5_refuse (Nat.le_of_ble_eq_true rfl) (c_X5_refuse h hn (by omega)) (fun z_ μ_ hq => ?_)
                              obtain ⟨hzr, hRr⟩ := hq
                              skip
                              exact P_iret (pc := 143) dX5_event_143 rfl (QI.mk (by
                                    first
                                      | (exfalso; omega)
                                      | (have e : whyE ν.1 q k a b u = -6 := by
                                           unfold whyE
                                           repeat (first | rw [if_pos (by omega)] | rw [if_neg (by omega)])
                                         rw [e]
                                         exact ⟨by rw [if_neg (by decide)]; exact hzr, by rw [if_neg (by decide)]; exact RL_mono hRr (by omega)⟩)))
                          · refine P_aload_n (pc := 118) dX5_event_118 rfl 0 rfl ?_
                            refine P_bipush (pc := 119) dX5_event_119 (by decide) ?_
                            refine P_callVi (Y' := mX5_refuse) (as := [_]) (pc := 121) dX5_event_121 rfl (by decide : 0 < 2) sC_0 rfl ml_RX5_67 im_X5_refuse se_X5_refuse mk_X5_refuse (Nat.le_of_ble_eq_true rfl) (c_X5_refuse h hn (by omega)) (fun z_ μ_ hq => ?_)
                            obtain ⟨hzr, hRr⟩ := hq
                            skip
                            exact P_iret (pc := 124) dX5_event_124 rfl (QI.mk (by
                                  first
                                    | (exfalso; omega)
                                    | (have e : whyE ν.1 q k a b u = -6 := by
                                         unfold whyE
                                         repeat (first | rw [if_pos (by omega)] | rw [if_neg (by omega)])
                                       rw [e]
                                       exact ⟨by rw [if_neg (by decide)]; exact hzr, by rw [if_neg (by decide)]; exact RL_mono hRr (by omega)⟩)))
                  · refine P_iload (pc := 79) dX5_event_79 4 rfl ?_
                    refine P_iconst (pc := 81) dX5_event_81 ?_
                    refine P_icmp_ge (tgt := 92) (pc := 82) dX5_event_82 (by decide) (by first | assumption | (unfold InR; omega)) (by first | assumption | (unfold InR; omega)) (fun c_82 => ?_) (fun c_82 => ?_)
                    · refine P_iload_n (pc := 92) dX5_event_92 rfl 1 rfl ?_
                      refine P_bipush (pc := 93) dX5_event_93 (by decide) ?_
                      refine P_icmp_ge (tgt := 118) (pc := 95) dX5_event_95 (by decide) (by first | assumption | (unfold InR; omega)) (by first | assumption | (unfold InR; omega)) (fun c_95 => ?_) (fun c_95 => ?_)
                      · refine P_aload_n (pc := 118) dX5_event_118 rfl 0 rfl ?_
                        refine P_bipush (pc := 119) dX5_event_119 (by decide) ?_
                        refine P_callVi (Y' := mX5_refuse) (as := [_]) (pc := 121) dX5_event_121 rfl (by decide : 0 < 2) sC_0 rfl ml_RX5_67 im_X5_refuse se_X5_refuse mk_X5_refuse (Nat.le_of_ble_eq_true rfl) (c_X5_refuse h hn (by omega)) (fun z_ μ_ hq => ?_)
                        obtain ⟨hzr, hRr⟩ := hq
                        skip
                        exact P_iret (pc := 124) dX5_event_124 rfl (QI.mk (by
                              first
                                | (exfalso; omega)
                                | (have e : whyE ν.1 q k a b u = -6 := by
                                     unfold whyE
                                     repeat (first | rw [if_pos (by omega)] | rw [if_neg (by omega)])
                                   rw [e]
                                   exact ⟨by rw [if_neg (by decide)]; exact hzr, by rw [if_neg (by decide)]; exact RL_mono hRr (by omega)⟩)))
                      · refine P_iload_n (pc := 98) dX5_event_98 rfl 2 rfl ?_
                        refine P_bipush (pc := 99) dX5_event_99 (by decide) ?_
                        refine P_icmp_ne (tgt := 110) (pc := 101) dX5_event_101 (by decide) (by first | assumption | (unfold InR; omega)) (by first | assumption | (unfold InR; omega)) (fun c_101 => ?_) (fun c_101 => ?_)
                        · refine P_iload (pc := 110) dX5_event_110 5 rfl ?_
                          refine P_callSi (Y' := mX5_isUnknownAbove) (as := [_]) (pc := 112) dX5_event_112 rfl (by decide : 0 < 2) ml_RX5_94 sm_X5_isUnknownAbove mk_X5_isUnknownAbove (Nat.le_of_ble_eq_true rfl) (c_X5_isUnknownAbove hu) (fun z_ μ_ hq => ?_)
                          obtain ⟨hz, hμ_⟩ := hq
                          have hμ_ := hμ_.symm
                          subst hμ_
                          have hz := ite01 hz
                          skip
                          refine P_if_eq (tgt := 125) (pc := 115) dX5_event_115 (by decide) (by first | assumption | (unfold InR; omega)) (fun c_115 => ?_) (fun c_115 => ?_)
                          · refine P_aload_n (pc := 125) dX5_event_125 rfl 0 rfl ?_
                            refine P_getR (pc := 126) dX5_event_126 fa_RX5_12 sC_0 fC0_0 ?_
                            refine P_getI (jj := 7) (pc := 129) dX5_event_129 fa_RX5_97 sC_1 fC1_7 rfl ?_
                            skip
                            refine P_bipush (pc := 132) dX5_event_132 (by decide) ?_
                            refine P_icmp_lt (tgt := 144) (pc := 134) dX5_event_134 (by decide) (by first | assumption | (unfold InR; omega)) (by first | assumption | (unfold InR; omega)) (fun c_134 => ?_) (fun c_134 => ?_)
                            · refine P_aload_n (pc := 144) dX5_event_144 rfl 0 rfl ?_
                              refine P_getR (pc := 145) dX5_event_145 fa_RX5_12 sC_0 fC0_0 ?_
                              refine P_iload_n (pc := 148) dX5_event_148 rfl 1 rfl ?_
                              refine P_iload_n (pc := 149) dX5_event_149 rfl 2 rfl ?_
                              refine P_iload_n (pc := 150) dX5_event_150 rfl 3 rfl ?_
                              refine P_iload (pc := 151) dX5_event_151 4 rfl ?_
                              refine P_iload (pc := 153) dX5_event_153 5 rfl ?_
                              refine P_callVi (Y' := mX3_addEvent) (as := [_, _, _, _, _]) (pc := 155) dX5_event_155 rfl (by decide : 1 < 2) sC_1 rfl ml_RX5_100 im_X3_addEvent se_X3_addEvent mk_X3_addEvent (Nat.le_of_ble_eq_true rfl) (c_X3_addEvent (by omega) hk) (fun z_ μ_ hq => ?_)
                              obtain ⟨hz2, hμ_⟩ := hq
                              subst hμ_
                              skip
                              exact P_iret (pc := 158) dX5_event_158 rfl (QI.mk (by
                                    first
                                      | (exfalso; omega)
                                      | (have e : whyE ν.1 q k a b u = 0 := by
                                           unfold whyE
                                           repeat (first | rw [if_pos (by omega)] | rw [if_neg (by omega)])
                                         rw [e]
                                         exact ⟨by rw [if_pos rfl]; exact hz2.trans h7.1, by rw [if_pos rfl]; exact UP_event h (by omega) (by omega) (by omega) (by omega) (fun q => by omega) (fun q => by omega) (by omega) (by omega)⟩)))
                            · refine P_aload_n (pc := 137) dX5_event_137 rfl 0 rfl ?_
                              refine P_bipush (pc := 138) dX5_event_138 (by decide) ?_
                              refine P_callVi (Y' := mX5_refuse) (as := [_]) (pc := 140) dX5_event_140 rfl (by decide : 0 < 2) sC_0 rfl ml_RX5_67 im_X5_refuse se_X5_refuse mk_X5_refuse (Nat.le_of_ble_eq_true rfl) (c_X5_refuse h hn (by omega)) (fun z_ μ_ hq => ?_)
                              obtain ⟨hzr, hRr⟩ := hq
                              skip
                              exact P_iret (pc := 143) dX5_event_143 rfl (QI.mk (by
                                    first
                                      | (exfalso; omega)
                                      | (have e : whyE ν.1 q k a b u = -6 := by
                                           unfold whyE
                                           repeat (first | rw [if_pos (by omega)] | rw [if_neg (by omega)])
                                         rw [e]
                                         exact ⟨by rw [if_neg (by decide)]; exact hzr, by rw [if_neg (by decide)]; exact RL_mono hRr (by omega)⟩)))
                          · refine P_aload_n (pc := 118) dX5_event_118 rfl 0 rfl ?_
                            refine P_bipush (pc := 119) dX5_event_119 (by decide) ?_
                            refine P_callVi (Y' := mX5_refuse) (as := [_]) (pc := 121) dX5_event_121 rfl (by decide : 0 < 2) sC_0 rfl ml_RX5_67 im_X5_refuse se_X5_refuse mk_X5_refuse (Nat.le_of_ble_eq_true rfl) (c_X5_refuse h hn (by omega)) (fun z_ μ_ hq => ?_)
                            obtain ⟨hzr, hRr⟩ := hq
                            skip
                            exact P_iret (pc := 124) dX5_event_124 rfl (QI.mk (by
                                  first
                                    | (exfalso; omega)
                                    | (have e : whyE ν.1 q k a b u = -6 := by
                                         unfold whyE
                                         repeat (first | rw [if_pos (by omega)] | rw [if_neg (by omega)])
                                       rw [e]
                                       exact ⟨by rw [if_neg (by decide)]; exact hzr, by rw [if_neg (by decide)]; exact RL_mono hRr (by omega)⟩)))
                        · refine P_iload (pc := 104) dX5_event_104 4 rfl ?_
                          refine P_iconst (pc := 106) dX5_event_106 ?_
                          refine P_icmp_gt (tgt := 118) (pc := 107) dX5_event_107 (by decide) (by first | assumption | (unfold InR; omega)) (by first | assumption | (unfold InR; omega)) (fun c_107 => ?_) (fun c_107 => ?_)
                          · refine P_aload_n (pc := 118) dX5_event_118 rfl 0 rfl ?_
                            refine P_bipush (pc := 119) dX5_event_119 (by decide) ?_
                            refine P_callVi (Y' := mX5_refuse) (as := [_]) (pc := 121) dX5_event_121 rfl (by decide : 0 < 2) sC_0 rfl ml_RX5_67 im_X5_refuse se_X5_refuse mk_X5_refuse (Nat.le_of_ble_eq_true rfl) (c_X5_refuse h hn (by omega)) (fun z_ μ_ hq => ?_)
                            obtain ⟨hzr, hRr⟩ := hq
                            skip
                            exact P_iret (pc := 124) dX5_event_124 rfl (QI.mk (by
                                  first
                                    | (exfalso; omega)
                                    | (have e : whyE ν.1 q k a b u = -6 := by
                                         unfold whyE
                                         repeat (first | rw [if_pos (by omega)] | rw [if_neg (by omega)])
                                       rw [e]
                                       exact ⟨by rw [if_neg (by decide)]; exact hzr, by rw [if_neg (by decide)]; exact RL_mono hRr (by omega)⟩)))
                          · refine P_iload (pc := 110) dX5_event_110 5 rfl ?_
                            refine P_callSi (Y' := mX5_isUnknownAbove) (as := [_]) (pc := 112) dX5_event_112 rfl (by decide : 0 < 2) ml_RX5_94 sm_X5_isUnknownAbove mk_X5_isUnknownAbove (Nat.le_of_ble_eq_true rfl) (c_X5_isUnknownAbove hu) (fun z_ μ_ hq => ?_)
                            obtain ⟨hz, hμ_⟩ := hq
                            have hμ_ := hμ_.symm
                            subst hμ_
                            have hz := ite01 hz
                            skip
                            refine P_if_eq (tgt := 125) (pc := 115) dX5_event_115 (by decide) (by first | assumption | (unfold InR; omega)) (fun c_115 => ?_) (fun c_115 => ?_)
                            · refine P_aload_n (pc := 125) dX5_event_125 rfl 0 rfl ?_
                              refine P_getR (pc := 126) dX5_event_126 fa_RX5_12 sC_0 fC0_0 ?_
                              refine P_getI (jj := 7) (pc := 129) dX5_event_129 fa_RX5_97 sC_1 fC1_7 rfl ?_
                              skip
                              refine P_bipush (pc := 132) dX5_event_132 (by decide) ?_
                              refine P_icmp_lt (tgt := 144) (pc := 134) dX5_event_134 (by decide) (by first | assumption | (unfold InR; omega)) (by first | assumption | (unfold InR; omega)) (fun c_134 => ?_) (fun c_134 => ?_)
                              · refine P_aload_n (pc := 144) dX5_event_144 rfl 0 rfl ?_
                                refine P_getR (pc := 145) dX5_event_145 fa_RX5_12 sC_0 fC0_0 ?_
                                refine P_iload_n (pc := 148) dX5_event_148 rfl 1 rfl ?_
                                refine P_iload_n (pc := 149) dX5_event_149 rfl 2 rfl ?_
                                refine P_iload_n (pc := 150) dX5_event_150 rfl 3 rfl ?_
                                refine P_iload (pc := 151) dX5_event_151 4 rfl ?_
                                refine P_iload (pc := 153) dX5_event_153 5 rfl ?_
                                refine P_callVi (Y' := mX3_addEvent) (as := [_, _, _, _, _]) (pc := 155) dX5_event_155 rfl (by decide : 1 < 2) sC_1 rfl ml_RX5_100 im_X3_addEvent se_X3_addEvent mk_X3_addEvent (Nat.le_of_ble_eq_true rfl) (c_X3_addEvent (by omega) hk) (fun z_ μ_ hq => ?_)
                                obtain ⟨hz2, hμ_⟩ := hq
                                subst hμ_
                                skip
                                exact P_iret (pc := 158) dX5_event_158 rfl (QI.mk (by
                                      first
                                        | (exfalso; omega)
                                        | (have e : whyE ν.1 q k a b u = 0 := by
                                             unfold whyE
                                             repeat (first | rw [if_pos (by omega)] | rw [if_neg (by omega)])
                                           rw [e]
                                           exact ⟨by rw [if_pos rfl]; exact hz2.trans h7.1, by rw [if_pos rfl]; exact UP_event h (by omega) (by omega) (by omega) (by omega) (fun q => by omega) (fun q => by omega) (by omega) (by omega)⟩)))
                              · refine P_aload_n (pc := 137) dX5_event_137 rfl 0 rfl ?_
                                refine P_bipush (pc := 138) dX5_event_138 (by decide) ?_
                                refine P_callVi (Y' := mX5_refuse) (as := [_]) (pc := 140) dX5_event_140 rfl (by decide : 0 < 2) sC_0 rfl ml_RX5_67 im_X5_refuse se_X5_refuse mk_X5_refuse (Nat.le_of_ble_eq_true rfl) (c_X5_refuse h hn (by omega)) (fun z_ μ_ hq => ?_)
                                obtain ⟨hzr, hRr⟩ := hq
                                skip
                                exact P_iret (pc := 143) dX5_event_143 rfl (QI.mk (by
                                      first
                                        | (exfalso; omega)
                                        | (have e : whyE ν.1 q k a b u = -6 := by
                                             unfold whyE
                                             repeat (first | rw [if_pos (by omega)] | rw [if_neg (by omega)])
                                           rw [e]
                                           exact ⟨by rw [if_neg (by decide)]; exact hzr, by rw [if_neg (by decide)]; exact RL_mono hRr (by omega)⟩)))
                            · refine P_aload_n (pc := 118) dX5_event_118 rfl 0 rfl ?_
                              refine P_bipush (pc := 119) dX5_event_119 (by decide) ?_
                              refine P_callVi (Y' := mX5_refuse) (as := [_]) (pc := 121) dX5_event_121 rfl (by decide : 0 < 2) sC_0 rfl ml_RX5_67 im_X5_refuse se_X5_refuse mk_X5_refuse (Nat.le_of_ble_eq_true rfl) (c_X5_refuse h hn (by omega)) (fun z_ μ_ hq => ?_)
                              obtain ⟨hzr, hRr⟩ := hq
                              skip
                              exact P_iret (pc := 124) dX5_event_124 rfl (QI.mk (by
                                    first
                                      | (exfalso; omega)
                                      | (have e : whyE ν.1 q k a b u = -6 := by
                                           unfold whyE
                                           repeat (first | rw [if_pos (by omega)] | rw [if_neg (by omega)])
                                         rw [e]
                                         exact ⟨by rw [if_neg (by decide)]; exact hzr, by rw [if_neg (by decide)]; exact RL_mono hRr (by omega)⟩)))
                    · refine P_aload_n (pc := 85) dX5_event_85 rfl 0 rfl ?_
                      refine P_bipush (pc := 86) dX5_event_86 (by decide) ?_
                      refine P_callVi (Y' := mX5_refuse) (as := [_]) (pc := 88) dX5_event_88 rfl (by decide : 0 < 2) sC_0 rfl ml_RX5_67 im_X5_refuse se_X5_refuse mk_X5_refuse (Nat.le_of_ble_eq_true rfl) (c_X5_refuse h hn (by omega)) (fun z_ μ_ hq => ?_)
                      obtain ⟨hzr, hRr⟩ := hq
                      skip
                      exact P_iret (pc := 91) dX5_event_91 rfl (QI.mk (by
                            first
                              | (exfalso; omega)
                              | (have e : whyE ν.1 q k a b u = -4 := by
                                   unfold whyE
                                   repeat (first | rw [if_pos (by omega)] | rw [if_neg (by omega)])
                                 rw [e]
                                 exact ⟨by rw [if_neg (by decide)]; exact hzr, by rw [if_neg (by decide)]; exact RL_mono hRr (by omega)⟩)))
            · refine P_aload_n (pc := 57) dX5_event_57 rfl 0 rfl ?_
              refine P_iconst (pc := 58) dX5_event_58 ?_
              refine P_callVi (Y' := mX5_refuse) (as := [_]) (pc := 59) dX5_event_59 rfl (by decide : 0 < 2) sC_0 rfl ml_RX5_67 im_X5_refuse se_X5_refuse mk_X5_refuse (Nat.le_of_ble_eq_true rfl) (c_X5_refuse h hn (by omega)) (fun z_ μ_ hq => ?_)
              obtain ⟨hzr, hRr⟩ := hq
              skip
              exact P_iret (pc := 62) dX5_event_62 rfl (QI.mk (by
                    first
                      | (exfalso; omega)
                      | (have e : whyE ν.1 q k a b u = -1 := by
                           unfold whyE
                           repeat (first | rw [if_pos (by omega)] | rw [if_neg (by omega)])
                         rw [e]
                         exact ⟨by rw [if_neg (by decide)]; exact hzr, by rw [if_neg (by decide)]; exact RL_mono hRr (by omega)⟩)))
      · refine P_aload_n (pc := 28) dX5_event_28 rfl 0 rfl ?_
        refine P_iconst (pc := 29) dX5_event_29 ?_
        refine P_callVi (Y' := mX5_refuse) (as := [_]) (pc := 30) dX5_event_30 rfl (by decide : 0 < 2) sC_0 rfl ml_RX5_67 im_X5_refuse se_X5_refuse mk_X5_refuse (Nat.le_of_ble_eq_true rfl) (c_X5_refuse h hn (by omega)) (fun z_ μ_ hq => ?_)
        obtain ⟨hzr, hRr⟩ := hq
        skip
        exact P_iret (pc := 33) dX5_event_33 rfl (QI.mk (by
              first
                | (exfalso; omega)
                | (have e : whyE ν.1 q k a b u = -1 := by
                     unfold whyE
                     repeat (first | rw [if_pos (by omega)] | rw [if_neg (by omega)])
                   rw [e]
                   exact ⟨by rw [if_neg (by decide)]; exact hzr, by rw [if_neg (by decide)]; exact RL_mono hRr (by omega)⟩)))
    · refine P_aload_n (pc := 10) dX5_event_10 rfl 0 rfl ?_
      refine P_bipush (pc := 11) dX5_event_11 (by decide) ?_
      refine P_callVi (Y' := mX5_refuse) (as := [_]) (pc := 13) dX5_event_13 rfl (by decide : 0 < 2) sC_0 rfl ml_RX5_67 im_X5_refuse se_X5_refuse mk_X5_refuse (Nat.le_of_ble_eq_true rfl) (c_X5_refuse h hn (by omega)) (fun z_ μ_ hq => ?_)
      obtain ⟨hzr, hRr⟩ := hq
      skip
      exact P_iret (pc := 16) dX5_event_16 rfl (QI.mk (by
            first
              | (exfalso; omega)
              | (have e : whyE ν.1 q k a b u = -2 := by
                   unfold whyE
                   repeat (first | rw [if_pos (by omega)] | rw [if_neg (by omega)])
                 rw [e]
                 exact ⟨by rw [if_neg (by decide)]; exact hzr, by rw [if_neg (by decide)]; exact RL_mono hRr (by omega)⟩)))
set_option maxHeartbeats 1000000 in
set_option maxRecDepth 100000 in
theorem c_X5_takeBack {n : Int} {μ ν : Mem} (h : RLN n μ ν) (hn : n < 2147483648)  : PC shC 1 mX5_takeBack [vr 0] (μ) (QI (fun z μ' => z = (if ν.1 0 12 = 0 then -3 else ν.1 0 12 - 1) ∧ RLN (n + 1) μ' (if ν.1 0 12 = 0 then refM ν (-3) else putI ν 0 12 (ν.1 0 12 - 1)))) := by
  refine PC.of (by decide +kernel) (Nat.le_of_ble_eq_true rfl) ?_
  refine P_sub (L' := [(0, vr 0)]) [0] rfl ?_
  have h6 := RL_6 h
  have h7 := RL_7 h
  have hkr := h.1.2.2.2.1
  have h8 : μ.1 1 8 = ν.1 0 30 := h.1.2.2.2.2.2.1.1
  have h30 := h.1.2.1.1
  have h9 : μ.1 1 9 = ν.1 0 37 := h.1.2.2.2.2.2.2.1
  have h37 := h.1.2.2.1.1
  refine P_aload_n (pc := 0) dX5_takeBack_0 rfl 0 rfl ?_
  refine P_getR (pc := 1) dX5_takeBack_1 fa_RX5_12 sC_0 fC0_0 ?_
  refine P_getI (jj := 7) (pc := 4) dX5_takeBack_4 fa_RX5_97 sC_1 fC1_7 rfl ?_
  skip
  refine P_iconst (pc := 7) dX5_takeBack_7 ?_
  refine P_icmp_ge (tgt := 18) (pc := 8) dX5_takeBack_8 (by decide) (by first | assumption | (unfold InR; omega)) (by first | assumption | (unfold InR; omega)) (fun c_8 => ?_) (fun c_8 => ?_)
  · refine P_aload_n (pc := 18) dX5_takeBack_18 rfl 0 rfl ?_
    refine P_getR (pc := 19) dX5_takeBack_19 fa_RX5_12 sC_0 fC0_0 ?_
    refine P_callVi (Y' := mX3_dropEvent) (as := []) (pc := 22) dX5_takeBack_22 rfl (by decide : 0 < 1) sC_1 rfl ml_RX5_107 im_X3_dropEvent se_X3_dropEvent mk_X3_dropEvent (Nat.le_of_ble_eq_true rfl) (c_X3_dropEvent) (fun z_ μ_ hq => ?_)
    obtain ⟨hz2, hμ_⟩ := hq
    subst hμ_
    skip
    exact P_iret (pc := 25) dX5_takeBack_25 rfl (QI.mk (by
          rw [if_neg (show ¬ ν.1 0 12 = 0 by omega), if_neg (show ¬ ν.1 0 12 = 0 by omega)]
          exact ⟨by rw [hz2, h7.1], UP_drop h (by omega)⟩))
  · refine P_aload_n (pc := 11) dX5_takeBack_11 rfl 0 rfl ?_
    refine P_bipush (pc := 12) dX5_takeBack_12 (by decide) ?_
    refine P_callVi (Y' := mX5_refuse) (as := [_]) (pc := 14) dX5_takeBack_14 rfl (by decide : 0 < 1) sC_0 rfl ml_RX5_67 im_X5_refuse se_X5_refuse mk_X5_refuse (Nat.le_of_ble_eq_true rfl) (c_X5_refuse h hn (by omega)) (fun z_ μ_ hq => ?_)
    obtain ⟨hzr, hRr⟩ := hq
    skip
    exact P_iret (pc := 17) dX5_takeBack_17 rfl (QI.mk (by
          rw [if_pos (show ν.1 0 12 = 0 by omega), if_pos (show ν.1 0 12 = 0 by omega)]
          exact ⟨hzr, RL_mono hRr (by omega)⟩))
set_option maxHeartbeats 1000000 in
set_option maxRecDepth 100000 in
theorem c_X5_fact {n : Int} {μ ν : Mem} {t q c : Int} (h : RLN n μ ν) (hn : n < 2147483648) (ht : InR t) (hq0 : InR q) (hc : c = 0 ∨ c = 1) : PC shC 1 mX5_fact [vr 0, vi t, vi q, vi c] (μ) (QI (fun z μ' => z = (if whyF ν.1 t q = 0 then ν.1 0 30 + 1 else whyF ν.1 t q) ∧ RLN (n + 1) μ' (if whyF ν.1 t q = 0 then factM ν t q c else refM ν (whyF ν.1 t q)))) := by
  refine PC.of (by decide +kernel) (Nat.le_of_ble_eq_true rfl) ?_
  refine P_sub (L' := [(0, vr 0), (1, vi t), (2, vi q), (3, vi c)]) [0, 1, 2, 3] rfl ?_
  have h6 := RL_6 h
  have h7 := RL_7 h
  have hkr := h.1.2.2.2.1
  have h8 : μ.1 1 8 = ν.1 0 30 := h.1.2.2.2.2.2.1.1
  have h30 := h.1.2.1.1
  have h9 : μ.1 1 9 = ν.1 0 37 := h.1.2.2.2.2.2.2.1
  have h37 := h.1.2.2.1.1
  refine P_aload_n (pc := 0) dX5_fact_0 rfl 0 rfl ?_
  refine P_getR (pc := 1) dX5_fact_1 fa_RX5_12 sC_0 fC0_0 ?_
  refine P_iload_n (pc := 4) dX5_fact_4 rfl 1 rfl ?_
  refine P_callVi (Y' := mX3_isThere) (as := [_]) (pc := 5) dX5_fact_5 rfl (by decide : 0 < 1) sC_1 rfl ml_RX5_90 im_X3_isThere se_X3_isThere mk_X3_isThere (Nat.le_of_ble_eq_true rfl) (c_X3_isThere ht (by unfold InR; omega)) (fun z_ μ_ hq => ?_)
  obtain ⟨hz, hμ_⟩ := hq
  have hμ_ := hμ_.symm
  subst hμ_
  rw [h6.1] at hz
  have hz := ite01 hz
  skip
  refine P_if_ne (tgt := 17) (pc := 8) dX5_fact_8 (by decide) (by first | assumption | (unfold InR; omega)) (fun c_8 => ?_) (fun c_8 => ?_)
  · refine P_iload_n (pc := 17) dX5_fact_17 rfl 2 rfl ?_
    refine P_if_ge (tgt := 28) (pc := 18) dX5_fact_18 (by decide) (by first | assumption | (unfold InR; omega)) (fun c_18 => ?_) (fun c_18 => ?_)
    · refine P_iload_n (pc := 28) dX5_fact_28 rfl 2 rfl ?_
      refine P_bipush (pc := 29) dX5_fact_29 (by decide) ?_
      refine P_icmp_ge (tgt := 46) (pc := 31) dX5_fact_31 (by decide) (by first | assumption | (unfold InR; omega)) (by first | assumption | (unfold InR; omega)) (fun c_31 => ?_) (fun c_31 => ?_)
      · refine P_aload_n (pc := 46) dX5_fact_46 rfl 0 rfl ?_
        refine P_bipush (pc := 47) dX5_fact_47 (by decide) ?_
        refine P_callVi (Y' := mX5_refuse) (as := [_]) (pc := 49) dX5_fact_49 rfl (by decide : 0 < 1) sC_0 rfl ml_RX5_67 im_X5_refuse se_X5_refuse mk_X5_refuse (Nat.le_of_ble_eq_true rfl) (c_X5_refuse h hn (by omega)) (fun z_ μ_ hq => ?_)
        obtain ⟨hzr, hRr⟩ := hq
        skip
        exact P_iret (pc := 52) dX5_fact_52 rfl (QI.mk (by
              first
                | (exfalso; omega)
                | (have e : whyF ν.1 t q = -6 := by
                     unfold whyF
                     first
                       | (have e1 : whyTH ν.1 t q = -6 := by
                            unfold whyTH
                            repeat (first | rw [if_pos (by omega)] | rw [if_neg (by omega)])
                          rw [e1]
                          repeat (first | rw [if_pos (by omega)] | rw [if_neg (by omega)]))
                       | (have e1 : whyTH ν.1 t q = 0 := by
                            unfold whyTH
                            repeat (first | rw [if_pos (by omega)] | rw [if_neg (by omega)])
                          rw [e1]
                          repeat (first | rw [if_pos (by omega)] | rw [if_neg (by omega)]))
                   rw [e]
                   exact ⟨by rw [if_neg (by decide)]; exact hzr, by rw [if_neg (by decide)]; exact RL_mono hRr (by omega)⟩)))
      · refine P_aload_n (pc := 34) dX5_fact_34 rfl 0 rfl ?_
        refine P_getR (pc := 35) dX5_fact_35 fa_RX5_12 sC_0 fC0_0 ?_
        refine P_getI (jj := 8) (pc := 38) dX5_fact_38 fa_RX5_148 sC_1 fC1_8 rfl ?_
        skip
        refine P_bipush (pc := 41) dX5_fact_41 (by decide) ?_
        refine P_icmp_lt (tgt := 53) (pc := 43) dX5_fact_43 (by decide) (by first | assumption | (unfold InR; omega)) (by first | assumption | (unfold InR; omega)) (fun c_43 => ?_) (fun c_43 => ?_)
        · refine P_aload_n (pc := 53) dX5_fact_53 rfl 0 rfl ?_
          refine P_getR (pc := 54) dX5_fact_54 fa_RX5_12 sC_0 fC0_0 ?_
          refine P_iload_n (pc := 57) dX5_fact_57 rfl 1 rfl ?_
          refine P_iload_n (pc := 58) dX5_fact_58 rfl 2 rfl ?_
          refine P_iload_n (pc := 59) dX5_fact_59 rfl 3 rfl ?_
          refine P_callVi (Y' := mX3_addFact) (as := [_, _, _]) (pc := 60) dX5_fact_60 rfl (by decide : 0 < 1) sC_1 rfl ml_RX5_151 im_X3_addFact se_X3_addFact mk_X3_addFact (Nat.le_of_ble_eq_true rfl) (c_X3_addFact (by omega) hc) (fun z_ μ_ hq => ?_)
          obtain ⟨hz2, hμ_⟩ := hq
          subst hμ_
          skip
          exact P_iret (pc := 63) dX5_fact_63 rfl (QI.mk (by
                first
                  | (exfalso; omega)
                  | (have e : whyF ν.1 t q = 0 := by
                       unfold whyF
                       have e1 : whyTH ν.1 t q = 0 := by
                         unfold whyTH
                         repeat (first | rw [if_pos (by omega)] | rw [if_neg (by omega)])
                       rw [e1]
                       repeat (first | rw [if_pos (by omega)] | rw [if_neg (by omega)])
                     rw [e]
                     exact ⟨by rw [if_pos rfl]; exact hz2.trans (by rw [h8]), by rw [if_pos rfl]; exact UP_fact h (by omega) (by omega) (by omega) hc⟩)))
        · refine P_aload_n (pc := 46) dX5_fact_46 rfl 0 rfl ?_
          refine P_bipush (pc := 47) dX5_fact_47 (by decide) ?_
          refine P_callVi (Y' := mX5_refuse) (as := [_]) (pc := 49) dX5_fact_49 rfl (by decide : 0 < 1) sC_0 rfl ml_RX5_67 im_X5_refuse se_X5_refuse mk_X5_refuse (Nat.le_of_ble_eq_true rfl) (c_X5_refuse h hn (by omega)) (fun z_ μ_ hq => ?_)
          obtain ⟨hzr, hRr⟩ := hq
          skip
          exact P_iret (pc := 52) dX5_fact_52 rfl (QI.mk (by
                first
                  | (exfalso; omega)
                  | (have e : whyF ν.1 t q = -6 := by
                       unfold whyF
                       first
                         | (have e1 : whyTH ν.1 t q = -6 := by
                              unfold whyTH
                              repeat (first | rw [if_pos (by omega)] | rw [if_neg (by omega)])
                            rw [e1]
                            repeat (first | rw [if_pos (by omega)] | rw [if_neg (by omega)]))
                         | (have e1 : whyTH ν.1 t q = 0 := by
                              unfold whyTH
                              repeat (first | rw [if_pos (by omega)] | rw [if_neg (by omega)])
                            rw [e1]
                            repeat (first | rw [if_pos (by omega)] | rw [if_neg (by omega)]))
                     rw [e]
                     exact ⟨by rw [if_neg (by decide)]; exact hzr, by rw [if_neg (by decide)]; exact RL_mono hRr (by omega)⟩)))
    · refine P_aload_n (pc := 21) dX5_fact_21 rfl 0 rfl ?_
      refine P_bipush (pc := 22) dX5_fact_22 (by decide) ?_
      refine P_callVi (Y' := mX5_refuse) (as := [_]) (pc := 24) dX5_fact_24 rfl (by decide : 0 < 1) sC_0 rfl ml_RX5_67 im_X5_refuse se_X5_refuse mk_X5_refuse (Nat.le_of_ble_eq_true rfl) (c_X5_refuse h hn (by omega)) (fun z_ μ_ hq => ?_)
      obtain ⟨hzr, hRr⟩ := hq
      skip
      exact P_iret (pc := 27) dX5_fact_27 rfl (QI.mk (by
            first
              | (exfalso; omega)
              | (have e : whyF ν.1 t q = -4 := by
                   unfold whyF
                   have e1 : whyTH ν.1 t q = -4 := by
                     unfold whyTH
                     repeat (first | rw [if_pos (by omega)] | rw [if_neg (by omega)])
                   rw [e1]
                   repeat (first | rw [if_pos (by omega)] | rw [if_neg (by omega)])
                 rw [e]
                 exact ⟨by rw [if_neg (by decide)]; exact hzr, by rw [if_neg (by decide)]; exact RL_mono hRr (by omega)⟩)))
  · refine P_aload_n (pc := 11) dX5_fact_11 rfl 0 rfl ?_
    refine P_iconst (pc := 12) dX5_fact_12 ?_
    refine P_callVi (Y' := mX5_refuse) (as := [_]) (pc := 13) dX5_fact_13 rfl (by decide : 0 < 1) sC_0 rfl ml_RX5_67 im_X5_refuse se_X5_refuse mk_X5_refuse (Nat.le_of_ble_eq_true rfl) (c_X5_refuse h hn (by omega)) (fun z_ μ_ hq => ?_)
    obtain ⟨hzr, hRr⟩ := hq
    skip
    exact P_iret (pc := 16) dX5_fact_16 rfl (QI.mk (by
          first
            | (exfalso; omega)
            | (have e : whyF ν.1 t q = -1 := by
                 unfold whyF
                 have e1 : whyTH ν.1 t q = -1 := by
                   unfold whyTH
                   repeat (first | rw [if_pos (by omega)] | rw [if_neg (by omega)])
                 rw [e1]
                 repeat (first | rw [if_pos (by omega)] | rw [if_neg (by omega)])
               rw [e]
               exact ⟨by rw [if_neg (by decide)]; exact hzr, by rw [if_neg (by decide)]; exact RL_mono hRr (by omega)⟩)))
set_option maxHeartbeats 1000000 in
set_option maxRecDepth 100000 in
theorem c_X5_forget {n : Int} {μ ν : Mem} (h : RLN n μ ν) (hn : n < 2147483648)  : PC shC 0 mX5_forget [vr 0] (μ) (QI (fun z μ' => z = ν.1 0 30 ∧ RLN (n + 1) μ' (putI ν 0 30 0))) := by
  refine PC.of (by decide +kernel) (Nat.le_of_ble_eq_true rfl) ?_
  refine P_sub (L' := [(0, vr 0)]) [0] rfl ?_
  have h6 := RL_6 h
  have h7 := RL_7 h
  have hkr := h.1.2.2.2.1
  have h8 : μ.1 1 8 = ν.1 0 30 := h.1.2.2.2.2.2.1.1
  have h30 := h.1.2.1.1
  have h9 : μ.1 1 9 = ν.1 0 37 := h.1.2.2.2.2.2.2.1
  have h37 := h.1.2.2.1.1
  refine P_aload_n (pc := 0) dX5_forget_0 rfl 0 rfl ?_
  refine P_getR (pc := 1) dX5_forget_1 fa_RX5_12 sC_0 fC0_0 ?_
  refine P_getI (jj := 8) (pc := 4) dX5_forget_4 fa_RX5_148 sC_1 fC1_8 rfl ?_
  skip
  refine P_istore_n (L' := [(1, vi _), (0, vr 0)]) (pc := 7) dX5_forget_7 rfl (by decide) rfl ?_
  refine P_aload_n (pc := 8) dX5_forget_8 rfl 1 rfl ?_
  refine P_getR (pc := 9) dX5_forget_9 fa_RX5_12 sC_0 fC0_0 ?_
  refine P_iconst (pc := 12) dX5_forget_12 ?_
  refine P_putI (jj := 8) (pc := 13) dX5_forget_13 fa_RX5_148 fp_3_8 sC_1 fC1_8 rfl ?_
  skip
  refine P_iload_n (pc := 16) dX5_forget_16 rfl 0 rfl ?_
  exact P_iret (pc := 17) dX5_forget_17 rfl (QI.mk (by exact ⟨h8, UP_forget h⟩))
set_option maxHeartbeats 1000000 in
set_option maxRecDepth 100000 in
theorem c_X5_clear {n : Int} {μ ν : Mem} (h : RLN n μ ν) (hn : n < 2147483648)  : PC shC 0 mX5_clear [vr 0] (μ) (QI (fun z μ' => z = ν.1 0 37 ∧ RLN (n + 1) μ' (putI ν 0 37 0))) := by
  refine PC.of (by decide +kernel) (Nat.le_of_ble_eq_true rfl) ?_
  refine P_sub (L' := [(0, vr 0)]) [0] rfl ?_
  have h6 := RL_6 h
  have h7 := RL_7 h
  have hkr := h.1.2.2.2.1
  have h8 : μ.1 1 8 = ν.1 0 30 := h.1.2.2.2.2.2.1.1
  have h30 := h.1.2.1.1
  have h9 : μ.1 1 9 = ν.1 0 37 := h.1.2.2.2.2.2.2.1
  have h37 := h.1.2.2.1.1
  refine P_aload_n (pc := 0) dX5_clear_0 rfl 0 rfl ?_
  refine P_getR (pc := 1) dX5_clear_1 fa_RX5_12 sC_0 fC0_0 ?_
  refine P_getI (jj := 9) (pc := 4) dX5_clear_4 fa_RX5_186 sC_1 fC1_9 rfl ?_
  skip
  refine P_istore_n (L' := [(1, vi _), (0, vr 0)]) (pc := 7) dX5_clear_7 rfl (by decide) rfl ?_
  refine P_aload_n (pc := 8) dX5_clear_8 rfl 1 rfl ?_
  refine P_getR (pc := 9) dX5_clear_9 fa_RX5_12 sC_0 fC0_0 ?_
  refine P_iconst (pc := 12) dX5_clear_12 ?_
  refine P_putI (jj := 9) (pc := 13) dX5_clear_13 fa_RX5_186 fp_3_9 sC_1 fC1_9 rfl ?_
  skip
  refine P_iload_n (pc := 16) dX5_clear_16 rfl 0 rfl ?_
  exact P_iret (pc := 17) dX5_clear_17 rfl (QI.mk (by exact ⟨h9, UP_clear h⟩))
set_option maxHeartbeats 1000000 in
set_option maxRecDepth 100000 in
theorem c_X5_step {n : Int} {μ ν : Mem} {k a b : Int} (h : RLN n μ ν) (hn : n < 2147483648) (hk : InR k) (ha : InR a) (hb : InR b) : PC shC 1 mX5_step [vr 0, vi k, vi a, vi b] (μ) (QI (fun z μ' => z = (if whySt ν.1 k a b = 0 then ν.1 0 37 + 1 else whySt ν.1 k a b) ∧ RLN (n + 1) μ' (if whySt ν.1 k a b = 0 then stepM ν k a b else refM ν (whySt ν.1 k a b)))) := by
  refine PC.of (by decide +kernel) (Nat.le_of_ble_eq_true rfl) ?_
  refine P_sub (L' := [(0, vr 0), (1, vi k), (2, vi a), (3, vi b)]) [0, 1, 2, 3] rfl ?_
  have h6 := RL_6 h
  have h7 := RL_7 h
  have hkr := h.1.2.2.2.1
  have h8 : μ.1 1 8 = ν.1 0 30 := h.1.2.2.2.2.2.1.1
  have h30 := h.1.2.1.1
  have h9 : μ.1 1 9 = ν.1 0 37 := h.1.2.2.2.2.2.2.1
  have h37 := h.1.2.2.1.1
  refine P_iload_n (pc := 0) dX5_step_0 rfl 1 rfl ?_
  refine P_if_lt (tgt := 9) (pc := 1) dX5_step_1 (by decide) (by first | assumption | (unfold InR; omega)) (fun c_1 => ?_) (fun c_1 => ?_)
  · refine P_aload_n (pc := 9) dX5_step_9 rfl 0 rfl ?_
    refine P_bipush (pc := 10) dX5_step_10 (by decide) ?_
    refine P_callVi (Y' := mX5_refuse) (as := [_]) (pc := 12) dX5_step_12 rfl (by decide : 0 < 1) sC_0 rfl ml_RX5_67 im_X5_refuse se_X5_refuse mk_X5_refuse (Nat.le_of_ble_eq_true rfl) (c_X5_refuse h hn (by omega)) (fun z_ μ_ hq => ?_)
    obtain ⟨hzr, hRr⟩ := hq
    skip
    exact P_iret (pc := 15) dX5_step_15 rfl (QI.mk (by
          first
            | (exfalso; omega)
            | (have e : whySt ν.1 k a b = -2 := by
                 unfold whySt
                 repeat (first | rw [if_pos (by omega)] | rw [if_neg (by omega)])
               rw [e]
               exact ⟨by rw [if_neg (by decide)]; exact hzr, by rw [if_neg (by decide)]; exact RL_mono hRr (by omega)⟩)))
  · refine P_iload_n (pc := 4) dX5_step_4 rfl 1 rfl ?_
    refine P_iconst (pc := 5) dX5_step_5 ?_
    refine P_icmp_le (tgt := 16) (pc := 6) dX5_step_6 (by decide) (by first | assumption | (unfold InR; omega)) (by first | assumption | (unfold InR; omega)) (fun c_6 => ?_) (fun c_6 => ?_)
    · refine P_aload_n (pc := 16) dX5_step_16 rfl 0 rfl ?_
      refine P_getR (pc := 17) dX5_step_17 fa_RX5_12 sC_0 fC0_0 ?_
      refine P_iload_n (pc := 20) dX5_step_20 rfl 2 rfl ?_
      refine P_callVi (Y' := mX3_isThere) (as := [_]) (pc := 21) dX5_step_21 rfl (by decide : 0 < 1) sC_1 rfl ml_RX5_90 im_X3_isThere se_X3_isThere mk_X3_isThere (Nat.le_of_ble_eq_true rfl) (c_X3_isThere ha (by unfold InR; omega)) (fun z_ μ_ hq => ?_)
      obtain ⟨hz, hμ_⟩ := hq
      have hμ_ := hμ_.symm
      subst hμ_
      rw [h6.1] at hz
      have hz := ite01 hz
      skip
      refine P_if_eq (tgt := 43) (pc := 24) dX5_step_24 (by decide) (by first | assumption | (unfold InR; omega)) (fun c_24 => ?_) (fun c_24 => ?_)
      · refine P_aload_n (pc := 43) dX5_step_43 rfl 0 rfl ?_
        refine P_iconst (pc := 44) dX5_step_44 ?_
        refine P_callVi (Y' := mX5_refuse) (as := [_]) (pc := 45) dX5_step_45 rfl (by decide : 0 < 1) sC_0 rfl ml_RX5_67 im_X5_refuse se_X5_refuse mk_X5_refuse (Nat.le_of_ble_eq_true rfl) (c_X5_refuse h hn (by omega)) (fun z_ μ_ hq => ?_)
        obtain ⟨hzr, hRr⟩ := hq
        skip
        exact P_iret (pc := 48) dX5_step_48 rfl (QI.mk (by
              first
                | (exfalso; omega)
                | (have e : whySt ν.1 k a b = -1 := by
                     unfold whySt
                     repeat (first | rw [if_pos (by omega)] | rw [if_neg (by omega)])
                   rw [e]
                   exact ⟨by rw [if_neg (by decide)]; exact hzr, by rw [if_neg (by decide)]; exact RL_mono hRr (by omega)⟩)))
      · refine P_aload_n (pc := 27) dX5_step_27 rfl 0 rfl ?_
        refine P_getR (pc := 28) dX5_step_28 fa_RX5_12 sC_0 fC0_0 ?_
        refine P_iload_n (pc := 31) dX5_step_31 rfl 3 rfl ?_
        refine P_callVi (Y' := mX3_isThere) (as := [_]) (pc := 32) dX5_step_32 rfl (by decide : 0 < 1) sC_1 rfl ml_RX5_90 im_X3_isThere se_X3_isThere mk_X3_isThere (Nat.le_of_ble_eq_true rfl) (c_X3_isThere hb (by unfold InR; omega)) (fun z_ μ_ hq => ?_)
        obtain ⟨hz, hμ_⟩ := hq
        have hμ_ := hμ_.symm
        subst hμ_
        rw [h6.1] at hz
        have hz := ite01 hz
        skip
        refine P_if_eq (tgt := 43) (pc := 35) dX5_step_35 (by decide) (by first | assumption | (unfold InR; omega)) (fun c_35 => ?_) (fun c_35 => ?_)
        · refine P_aload_n (pc := 43) dX5_step_43 rfl 0 rfl ?_
          refine P_iconst (pc := 44) dX5_step_44 ?_
          refine P_callVi (Y' := mX5_refuse) (as := [_]) (pc := 45) dX5_step_45 rfl (by decide : 0 < 1) sC_0 rfl ml_RX5_67 im_X5_refuse se_X5_refuse mk_X5_refuse (Nat.le_of_ble_eq_true rfl) (c_X5_refuse h hn (by omega)) (fun z_ μ_ hq => ?_)
          obtain ⟨hzr, hRr⟩ := hq
          skip
          exact P_iret (pc := 48) dX5_step_48 rfl (QI.mk (by
                first
                  | (exfalso; omega)
                  | (have e : whySt ν.1 k a b = -1 := by
                       unfold whySt
                       repeat (first | rw [if_pos (by omega)] | rw [if_neg (by omega)])
                     rw [e]
                     exact ⟨by rw [if_neg (by decide)]; exact hzr, by rw [if_neg (by decide)]; exact RL_mono hRr (by omega)⟩)))
        · refine P_iload_n (pc := 38) dX5_step_38 rfl 2 rfl ?_
          refine P_iload_n (pc := 39) dX5_step_39 rfl 3 rfl ?_
          refine P_icmp_ne (tgt := 49) (pc := 40) dX5_step_40 (by decide) (by first | assumption | (unfold InR; omega)) (by first | assumption | (unfold InR; omega)) (fun c_40 => ?_) (fun c_40 => ?_)
          · refine P_aload_n (pc := 49) dX5_step_49 rfl 0 rfl ?_
            refine P_getR (pc := 50) dX5_step_50 fa_RX5_12 sC_0 fC0_0 ?_
            refine P_getI (jj := 9) (pc := 53) dX5_step_53 fa_RX5_186 sC_1 fC1_9 rfl ?_
            skip
            refine P_iconst (pc := 56) dX5_step_56 ?_
            refine P_icmp_lt (tgt := 67) (pc := 57) dX5_step_57 (by decide) (by first | assumption | (unfold InR; omega)) (by first | assumption | (unfold InR; omega)) (fun c_57 => ?_) (fun c_57 => ?_)
            · refine P_aload_n (pc := 67) dX5_step_67 rfl 0 rfl ?_
              refine P_getR (pc := 68) dX5_step_68 fa_RX5_12 sC_0 fC0_0 ?_
              refine P_iload_n (pc := 71) dX5_step_71 rfl 1 rfl ?_
              refine P_iload_n (pc := 72) dX5_step_72 rfl 2 rfl ?_
              refine P_iload_n (pc := 73) dX5_step_73 rfl 3 rfl ?_
              refine P_callVi (Y' := mX3_addStep) (as := [_, _, _]) (pc := 74) dX5_step_74 rfl (by decide : 0 < 1) sC_1 rfl ml_RX5_189 im_X3_addStep se_X3_addStep mk_X3_addStep (Nat.le_of_ble_eq_true rfl) (c_X3_addStep (by omega)) (fun z_ μ_ hq => ?_)
              obtain ⟨hz2, hμ_⟩ := hq
              subst hμ_
              skip
              exact P_iret (pc := 77) dX5_step_77 rfl (QI.mk (by
                    first
                      | (exfalso; omega)
                      | (have e : whySt ν.1 k a b = 0 := by
                           unfold whySt
                           repeat (first | rw [if_pos (by omega)] | rw [if_neg (by omega)])
                         rw [e]
                         exact ⟨by rw [if_pos rfl]; exact hz2.trans (by rw [h9]), by rw [if_pos rfl]; exact UP_step h (by omega) (by omega) (by omega) (by omega) (by omega)⟩)))
            · refine P_aload_n (pc := 60) dX5_step_60 rfl 0 rfl ?_
              refine P_bipush (pc := 61) dX5_step_61 (by decide) ?_
              refine P_callVi (Y' := mX5_refuse) (as := [_]) (pc := 63) dX5_step_63 rfl (by decide : 0 < 1) sC_0 rfl ml_RX5_67 im_X5_refuse se_X5_refuse mk_X5_refuse (Nat.le_of_ble_eq_true rfl) (c_X5_refuse h hn (by omega)) (fun z_ μ_ hq => ?_)
              obtain ⟨hzr, hRr⟩ := hq
              skip
              exact P_iret (pc := 66) dX5_step_66 rfl (QI.mk (by
                    first
                      | (exfalso; omega)
                      | (have e : whySt ν.1 k a b = -6 := by
                           unfold whySt
                           repeat (first | rw [if_pos (by omega)] | rw [if_neg (by omega)])
                         rw [e]
                         exact ⟨by rw [if_neg (by decide)]; exact hzr, by rw [if_neg (by decide)]; exact RL_mono hRr (by omega)⟩)))
          · refine P_aload_n (pc := 43) dX5_step_43 rfl 0 rfl ?_
            refine P_iconst (pc := 44) dX5_step_44 ?_
            refine P_callVi (Y' := mX5_refuse) (as := [_]) (pc := 45) dX5_step_45 rfl (by decide : 0 < 1) sC_0 rfl ml_RX5_67 im_X5_refuse se_X5_refuse mk_X5_refuse (Nat.le_of_ble_eq_true rfl) (c_X5_refuse h hn (by omega)) (fun z_ μ_ hq => ?_)
            obtain ⟨hzr, hRr⟩ := hq
            skip
            exact P_iret (pc := 48) dX5_step_48 rfl (QI.mk (by
                  first
                    | (exfalso; omega)
                    | (have e : whySt ν.1 k a b = -1 := by
                         unfold whySt
                         repeat (first | rw [if_pos (by omega)] | rw [if_neg (by omega)])
                       rw [e]
                       exact ⟨by rw [if_neg (by decide)]; exact hzr, by rw [if_neg (by decide)]; exact RL_mono hRr (by omega)⟩)))
    · refine P_aload_n (pc := 9) dX5_step_9 rfl 0 rfl ?_
      refine P_bipush (pc := 10) dX5_step_10 (by decide) ?_
      refine P_callVi (Y' := mX5_refuse) (as := [_]) (pc := 12) dX5_step_12 rfl (by decide : 0 < 1) sC_0 rfl ml_RX5_67 im_X5_refuse se_X5_refuse mk_X5_refuse (Nat.le_of_ble_eq_true rfl) (c_X5_refuse h hn (by omega)) (fun z_ μ_ hq => ?_)
      obtain ⟨hzr, hRr⟩ := hq
      skip
      exact P_iret (pc := 15) dX5_step_15 rfl (QI.mk (by
            first
              | (exfalso; omega)
              | (have e : whySt ν.1 k a b = -2 := by
                   unfold whySt
                   repeat (first | rw [if_pos (by omega)] | rw [if_neg (by omega)])
                 rw [e]
                 exact ⟨by rw [if_neg (by decide)]; exact hzr, by rw [if_neg (by decide)]; exact RL_mono hRr (by omega)⟩)))
