section PCALL2
variable {S : List Shp} {d d' : Nat} {Y Y' : Mth} {pc : Nat} {L : List (Nat × PV)} {st : List PV} {μ : Mem} {Q : Option PV → Mem → Prop}
theorem P_callVi {as : List PV} {st0 : List PV} {idx k ci N : Nat} {T : u_T} {fs : List (Option Nat)} (hd : decode Y.2.1 pc = .ok (.invokevirtual idx, 3)) (hst : as.reverse ++ vr k :: st = st0) (hlt : d' < d) (hk : S[k]? = some (.inl (ci, fs))) (hc : vwCl[ci]? = some (Y'.1.cls, T, N)) (hl : Cond.methodLink Y.1.cls idx Y'.1 ∈ tblG) (hi : Cond.instanceMethod Y'.1 ∈ tblG) (hse : Cond.selects Y'.1.cls Y'.1 Y'.1 ∈ tblG) (hm : MOK Y' as.length) (hw : pwide st ≤ 8) {q : Int → Mem → Prop} (h : PC S d' Y' (vr k :: as) μ (QI q)) (kk : ∀ z μ', q z μ' → PW S d Y (pc + 3) L (vi z :: st) μ' Q) : PW S d Y pc L st0 μ Q := P_callV hd hst hlt hk hc hl hi hse hm hw h (fun r μ' hq => by obtain ⟨z, rfl, hq⟩ := hq; exact kk z μ' hq)
theorem P_callVl {as : List PV} {st0 : List PV} {idx k ci N : Nat} {T : u_T} {fs : List (Option Nat)} (hd : decode Y.2.1 pc = .ok (.invokevirtual idx, 3)) (hst : as.reverse ++ vr k :: st = st0) (hlt : d' < d) (hk : S[k]? = some (.inl (ci, fs))) (hc : vwCl[ci]? = some (Y'.1.cls, T, N)) (hl : Cond.methodLink Y.1.cls idx Y'.1 ∈ tblG) (hi : Cond.instanceMethod Y'.1 ∈ tblG) (hse : Cond.selects Y'.1.cls Y'.1 Y'.1 ∈ tblG) (hm : MOK Y' as.length) (hw : pwide st ≤ 8) {q : BitVec 64 → Mem → Prop} (h : PC S d' Y' (vr k :: as) μ (QL q)) (kk : ∀ z μ', q z μ' → PW S d Y (pc + 3) L (vl z :: st) μ' Q) : PW S d Y pc L st0 μ Q := P_callV hd hst hlt hk hc hl hi hse hm hw h (fun r μ' hq => by obtain ⟨z, rfl, hq⟩ := hq; exact kk z μ' hq)
theorem P_callVv {as : List PV} {st0 : List PV} {idx k ci N : Nat} {T : u_T} {fs : List (Option Nat)} (hd : decode Y.2.1 pc = .ok (.invokevirtual idx, 3)) (hst : as.reverse ++ vr k :: st = st0) (hlt : d' < d) (hk : S[k]? = some (.inl (ci, fs))) (hc : vwCl[ci]? = some (Y'.1.cls, T, N)) (hl : Cond.methodLink Y.1.cls idx Y'.1 ∈ tblG) (hi : Cond.instanceMethod Y'.1 ∈ tblG) (hse : Cond.selects Y'.1.cls Y'.1 Y'.1 ∈ tblG) (hm : MOK Y' as.length) (hw : pwide st ≤ 8) {q : Mem → Prop} (h : PC S d' Y' (vr k :: as) μ (QV q)) (kk : ∀ μ', q μ' → PW S d Y (pc + 3) L st μ' Q) : PW S d Y pc L st0 μ Q := P_callV hd hst hlt hk hc hl hi hse hm hw h (fun r μ' hq => by obtain ⟨rfl, hq⟩ := hq; exact kk μ' hq)
theorem P_callSi {as : List PV} {st0 : List PV} {idx : Nat} (hd : decode Y.2.1 pc = .ok (.invokestatic idx, 3)) (hst : as.reverse ++ st = st0) (hlt : d' < d) (hl : Cond.methodLink Y.1.cls idx Y'.1 ∈ tblG) (hs : Cond.static Y'.1 ∈ tblG) (hm : MOK Y' as.length) (hw : pwide st ≤ 8) {q : Int → Mem → Prop} (h : PC S d' Y' as μ (QI q)) (kk : ∀ z μ', q z μ' → PW S d Y (pc + 3) L (vi z :: st) μ' Q) : PW S d Y pc L st0 μ Q := P_callS hd hst hlt hl hs hm hw h (fun r μ' hq => by obtain ⟨z, rfl, hq⟩ := hq; exact kk z μ' hq)
theorem P_callSl {as : List PV} {st0 : List PV} {idx : Nat} (hd : decode Y.2.1 pc = .ok (.invokestatic idx, 3)) (hst : as.reverse ++ st = st0) (hlt : d' < d) (hl : Cond.methodLink Y.1.cls idx Y'.1 ∈ tblG) (hs : Cond.static Y'.1 ∈ tblG) (hm : MOK Y' as.length) (hw : pwide st ≤ 8) {q : BitVec 64 → Mem → Prop} (h : PC S d' Y' as μ (QL q)) (kk : ∀ z μ', q z μ' → PW S d Y (pc + 3) L (vl z :: st) μ' Q) : PW S d Y pc L st0 μ Q := P_callS hd hst hlt hl hs hm hw h (fun r μ' hq => by obtain ⟨z, rfl, hq⟩ := hq; exact kk z μ' hq)
theorem P_callSv {as : List PV} {st0 : List PV} {idx : Nat} (hd : decode Y.2.1 pc = .ok (.invokestatic idx, 3)) (hst : as.reverse ++ st = st0) (hlt : d' < d) (hl : Cond.methodLink Y.1.cls idx Y'.1 ∈ tblG) (hs : Cond.static Y'.1 ∈ tblG) (hm : MOK Y' as.length) (hw : pwide st ≤ 8) {q : Mem → Prop} (h : PC S d' Y' as μ (QV q)) (kk : ∀ μ', q μ' → PW S d Y (pc + 3) L st μ' Q) : PW S d Y pc L st0 μ Q := P_callS hd hst hlt hl hs hm hw h (fun r μ' hq => by obtain ⟨rfl, hq⟩ := hq; exact kk μ' hq)
theorem P_callNi {as : List PV} {st0 : List PV} {idx : Nat} {host : String} (hd : decode Y.2.1 pc = .ok (.invokestatic idx, 3)) (hst : as.reverse ++ st = st0) (hlt : d' < d) (hl : (Y.1.cls, idx, Y'.1, host) ∈ nestM) (hs : Cond.static Y'.1 ∈ tblG) (hm : MOK Y' as.length) (hw : pwide st ≤ 8) {q : Int → Mem → Prop} (h : PC S d' Y' as μ (QI q)) (kk : ∀ z μ', q z μ' → PW S d Y (pc + 3) L (vi z :: st) μ' Q) : PW S d Y pc L st0 μ Q := P_callN hd hst hlt hl hs hm hw h (fun r μ' hq => by obtain ⟨z, rfl, hq⟩ := hq; exact kk z μ' hq)
theorem P_callNl {as : List PV} {st0 : List PV} {idx : Nat} {host : String} (hd : decode Y.2.1 pc = .ok (.invokestatic idx, 3)) (hst : as.reverse ++ st = st0) (hlt : d' < d) (hl : (Y.1.cls, idx, Y'.1, host) ∈ nestM) (hs : Cond.static Y'.1 ∈ tblG) (hm : MOK Y' as.length) (hw : pwide st ≤ 8) {q : BitVec 64 → Mem → Prop} (h : PC S d' Y' as μ (QL q)) (kk : ∀ z μ', q z μ' → PW S d Y (pc + 3) L (vl z :: st) μ' Q) : PW S d Y pc L st0 μ Q := P_callN hd hst hlt hl hs hm hw h (fun r μ' hq => by obtain ⟨z, rfl, hq⟩ := hq; exact kk z μ' hq)
theorem P_callNv {as : List PV} {st0 : List PV} {idx : Nat} {host : String} (hd : decode Y.2.1 pc = .ok (.invokestatic idx, 3)) (hst : as.reverse ++ st = st0) (hlt : d' < d) (hl : (Y.1.cls, idx, Y'.1, host) ∈ nestM) (hs : Cond.static Y'.1 ∈ tblG) (hm : MOK Y' as.length) (hw : pwide st ≤ 8) {q : Mem → Prop} (h : PC S d' Y' as μ (QV q)) (kk : ∀ μ', q μ' → PW S d Y (pc + 3) L st μ' Q) : PW S d Y pc L st0 μ Q := P_callN hd hst hlt hl hs hm hw h (fun r μ' hq => by obtain ⟨rfl, hq⟩ := hq; exact kk μ' hq)
end PCALL2
def shM : List Shp := [.inl (6, [some 1, some 2, some 3, some 4, some 5, some 6, some 7, some 8, some 9, some 10, some 11, none, none, some 12, none, none, none, some 13, some 14, some 15, some 16, some 17, some 18, some 19, none, none, some 20, some 21, some 22, some 23, none, none, some 24, some 25, some 26, some 27, some 28, none, some 29, some 30, none, none, none]), .inr (7, 0), .inr (12, 0), .inr (12, 0), .inr (12, 0), .inr (12, 0), .inr (3, 0), .inr (60, 0), .inr (60, 0), .inr (60, 0), .inr (60, 0), .inr (60, 0), .inr (80, 0), .inr (12, 0), .inr (12, 0), .inr (60, 0), .inr (12, 2), .inr (12, 2), .inr (12, 2), .inr (12, 2), .inr (12, 0), .inr (12, 0), .inr (12, 0), .inr (64, 2), .inr (64, 0), .inr (5, 0), .inr (5, 0), .inr (5, 0), .inr (5, 0), .inr (12, 0), .inr (500, 0)]
def flM0 : List (Option Nat) := [some 1, some 2, some 3, some 4, some 5, some 6, some 7, some 8, some 9, some 10, some 11, none, none, some 12, none, none, none, some 13, some 14, some 15, some 16, some 17, some 18, some 19, none, none, some 20, some 21, some 22, some 23, none, none, some 24, some 25, some 26, some 27, some 28, none, some 29, some 30, none, none, none]
theorem sM_0 : shM[0]? = some (.inl (6, flM0)) := rfl
theorem fM0_0 : flM0[0]? = some (some 1) := rfl
theorem fM0_1 : flM0[1]? = some (some 2) := rfl
theorem fM0_2 : flM0[2]? = some (some 3) := rfl
theorem fM0_3 : flM0[3]? = some (some 4) := rfl
theorem fM0_4 : flM0[4]? = some (some 5) := rfl
theorem fM0_5 : flM0[5]? = some (some 6) := rfl
theorem fM0_6 : flM0[6]? = some (some 7) := rfl
theorem fM0_7 : flM0[7]? = some (some 8) := rfl
theorem fM0_8 : flM0[8]? = some (some 9) := rfl
theorem fM0_9 : flM0[9]? = some (some 10) := rfl
theorem fM0_10 : flM0[10]? = some (some 11) := rfl
theorem fM0_11 : flM0[11]? = some (none) := rfl
theorem fM0_12 : flM0[12]? = some (none) := rfl
theorem fM0_13 : flM0[13]? = some (some 12) := rfl
theorem fM0_14 : flM0[14]? = some (none) := rfl
theorem fM0_15 : flM0[15]? = some (none) := rfl
theorem fM0_16 : flM0[16]? = some (none) := rfl
theorem fM0_17 : flM0[17]? = some (some 13) := rfl
theorem fM0_18 : flM0[18]? = some (some 14) := rfl
theorem fM0_19 : flM0[19]? = some (some 15) := rfl
theorem fM0_20 : flM0[20]? = some (some 16) := rfl
theorem fM0_21 : flM0[21]? = some (some 17) := rfl
theorem fM0_22 : flM0[22]? = some (some 18) := rfl
theorem fM0_23 : flM0[23]? = some (some 19) := rfl
theorem fM0_24 : flM0[24]? = some (none) := rfl
theorem fM0_25 : flM0[25]? = some (none) := rfl
theorem fM0_26 : flM0[26]? = some (some 20) := rfl
theorem fM0_27 : flM0[27]? = some (some 21) := rfl
theorem fM0_28 : flM0[28]? = some (some 22) := rfl
theorem fM0_29 : flM0[29]? = some (some 23) := rfl
theorem fM0_30 : flM0[30]? = some (none) := rfl
theorem fM0_31 : flM0[31]? = some (none) := rfl
theorem fM0_32 : flM0[32]? = some (some 24) := rfl
theorem fM0_33 : flM0[33]? = some (some 25) := rfl
theorem fM0_34 : flM0[34]? = some (some 26) := rfl
theorem fM0_35 : flM0[35]? = some (some 27) := rfl
theorem fM0_36 : flM0[36]? = some (some 28) := rfl
theorem fM0_37 : flM0[37]? = some (none) := rfl
theorem fM0_38 : flM0[38]? = some (some 29) := rfl
theorem fM0_39 : flM0[39]? = some (some 30) := rfl
theorem fM0_40 : flM0[40]? = some (none) := rfl
theorem fM0_41 : flM0[41]? = some (none) := rfl
theorem fM0_42 : flM0[42]? = some (none) := rfl
theorem sM_1 : shM[1]? = some (.inr (7, 0)) := rfl
theorem sM_2 : shM[2]? = some (.inr (12, 0)) := rfl
theorem sM_3 : shM[3]? = some (.inr (12, 0)) := rfl
theorem sM_4 : shM[4]? = some (.inr (12, 0)) := rfl
theorem sM_5 : shM[5]? = some (.inr (12, 0)) := rfl
theorem sM_6 : shM[6]? = some (.inr (3, 0)) := rfl
theorem sM_7 : shM[7]? = some (.inr (60, 0)) := rfl
theorem sM_8 : shM[8]? = some (.inr (60, 0)) := rfl
theorem sM_9 : shM[9]? = some (.inr (60, 0)) := rfl
theorem sM_10 : shM[10]? = some (.inr (60, 0)) := rfl
theorem sM_11 : shM[11]? = some (.inr (60, 0)) := rfl
theorem sM_12 : shM[12]? = some (.inr (80, 0)) := rfl
theorem sM_13 : shM[13]? = some (.inr (12, 0)) := rfl
theorem sM_14 : shM[14]? = some (.inr (12, 0)) := rfl
theorem sM_15 : shM[15]? = some (.inr (60, 0)) := rfl
theorem sM_16 : shM[16]? = some (.inr (12, 2)) := rfl
theorem sM_17 : shM[17]? = some (.inr (12, 2)) := rfl
theorem sM_18 : shM[18]? = some (.inr (12, 2)) := rfl
theorem sM_19 : shM[19]? = some (.inr (12, 2)) := rfl
theorem sM_20 : shM[20]? = some (.inr (12, 0)) := rfl
theorem sM_21 : shM[21]? = some (.inr (12, 0)) := rfl
theorem sM_22 : shM[22]? = some (.inr (12, 0)) := rfl
theorem sM_23 : shM[23]? = some (.inr (64, 2)) := rfl
theorem sM_24 : shM[24]? = some (.inr (64, 0)) := rfl
theorem sM_25 : shM[25]? = some (.inr (5, 0)) := rfl
theorem sM_26 : shM[26]? = some (.inr (5, 0)) := rfl
theorem sM_27 : shM[27]? = some (.inr (5, 0)) := rfl
theorem sM_28 : shM[28]? = some (.inr (5, 0)) := rfl
theorem sM_29 : shM[29]? = some (.inr (12, 0)) := rfl
theorem sM_30 : shM[30]? = some (.inr (500, 0)) := rfl
def shC : List Shp := [.inl (5, [some 1, some 2, some 3, some 4, some 5, some 6, some 7, some 8, some 9, none]), .inl (3, [some 10, some 11, some 12, some 13, some 14, some 15, none, none, none, none, none, none, none]), .inl (3, [some 16, some 17, some 18, some 19, some 20, some 21, none, none, none, none, none, none, none]), .inl (4, [some 1, none, some 22, some 23, some 24, some 25, some 26, some 27, some 28, none, none]), .inl (4, [some 1, none, some 29, some 30, some 31, some 32, some 33, some 34, some 35, none, none]), .inl (0, [some 1, some 3]), .inl (0, [some 1, some 4]), .inl (2, [some 1, some 3, some 36]), .inl (1, [some 1, some 37, none, none]), .inr (7, 0), .inr (12, 0), .inr (12, 0), .inr (3, 0), .inr (300, 0), .inr (36, 0), .inr (15, 0), .inr (12, 0), .inr (12, 0), .inr (3, 0), .inr (300, 0), .inr (36, 0), .inr (15, 0), .inr (156, 1), .inr (576, 1), .inr (60, 0), .inr (49, 0), .inr (60, 0), .inr (9, 1), .inr (9, 1), .inr (156, 1), .inr (576, 1), .inr (60, 0), .inr (49, 0), .inr (60, 0), .inr (9, 1), .inr (9, 1), .inr (780, 1), .inr (80, 0)]
def flC0 : List (Option Nat) := [some 1, some 2, some 3, some 4, some 5, some 6, some 7, some 8, some 9, none]
theorem sC_0 : shC[0]? = some (.inl (5, flC0)) := rfl
theorem fC0_0 : flC0[0]? = some (some 1) := rfl
theorem fC0_1 : flC0[1]? = some (some 2) := rfl
theorem fC0_2 : flC0[2]? = some (some 3) := rfl
theorem fC0_3 : flC0[3]? = some (some 4) := rfl
theorem fC0_4 : flC0[4]? = some (some 5) := rfl
theorem fC0_5 : flC0[5]? = some (some 6) := rfl
theorem fC0_6 : flC0[6]? = some (some 7) := rfl
theorem fC0_7 : flC0[7]? = some (some 8) := rfl
theorem fC0_8 : flC0[8]? = some (some 9) := rfl
theorem fC0_9 : flC0[9]? = some (none) := rfl
def flC1 : List (Option Nat) := [some 10, some 11, some 12, some 13, some 14, some 15, none, none, none, none, none, none, none]
theorem sC_1 : shC[1]? = some (.inl (3, flC1)) := rfl
theorem fC1_0 : flC1[0]? = some (some 10) := rfl
theorem fC1_1 : flC1[1]? = some (some 11) := rfl
theorem fC1_2 : flC1[2]? = some (some 12) := rfl
theorem fC1_3 : flC1[3]? = some (some 13) := rfl
theorem fC1_4 : flC1[4]? = some (some 14) := rfl
theorem fC1_5 : flC1[5]? = some (some 15) := rfl
theorem fC1_6 : flC1[6]? = some (none) := rfl
theorem fC1_7 : flC1[7]? = some (none) := rfl
theorem fC1_8 : flC1[8]? = some (none) := rfl
theorem fC1_9 : flC1[9]? = some (none) := rfl
theorem fC1_10 : flC1[10]? = some (none) := rfl
theorem fC1_11 : flC1[11]? = some (none) := rfl
theorem fC1_12 : flC1[12]? = some (none) := rfl
def flC2 : List (Option Nat) := [some 16, some 17, some 18, some 19, some 20, some 21, none, none, none, none, none, none, none]
theorem sC_2 : shC[2]? = some (.inl (3, flC2)) := rfl
theorem fC2_0 : flC2[0]? = some (some 16) := rfl
theorem fC2_1 : flC2[1]? = some (some 17) := rfl
theorem fC2_2 : flC2[2]? = some (some 18) := rfl
theorem fC2_3 : flC2[3]? = some (some 19) := rfl
theorem fC2_4 : flC2[4]? = some (some 20) := rfl
theorem fC2_5 : flC2[5]? = some (some 21) := rfl
theorem fC2_6 : flC2[6]? = some (none) := rfl
theorem fC2_7 : flC2[7]? = some (none) := rfl
theorem fC2_8 : flC2[8]? = some (none) := rfl
theorem fC2_9 : flC2[9]? = some (none) := rfl
theorem fC2_10 : flC2[10]? = some (none) := rfl
theorem fC2_11 : flC2[11]? = some (none) := rfl
theorem fC2_12 : flC2[12]? = some (none) := rfl
def flC3 : List (Option Nat) := [some 1, none, some 22, some 23, some 24, some 25, some 26, some 27, some 28, none, none]
theorem sC_3 : shC[3]? = some (.inl (4, flC3)) := rfl
theorem fC3_0 : flC3[0]? = some (some 1) := rfl
theorem fC3_1 : flC3[1]? = some (none) := rfl
theorem fC3_2 : flC3[2]? = some (some 22) := rfl
theorem fC3_3 : flC3[3]? = some (some 23) := rfl
theorem fC3_4 : flC3[4]? = some (some 24) := rfl
theorem fC3_5 : flC3[5]? = some (some 25) := rfl
theorem fC3_6 : flC3[6]? = some (some 26) := rfl
theorem fC3_7 : flC3[7]? = some (some 27) := rfl
theorem fC3_8 : flC3[8]? = some (some 28) := rfl
theorem fC3_9 : flC3[9]? = some (none) := rfl
theorem fC3_10 : flC3[10]? = some (none) := rfl
def flC4 : List (Option Nat) := [some 1, none, some 29, some 30, some 31, some 32, some 33, some 34, some 35, none, none]
theorem sC_4 : shC[4]? = some (.inl (4, flC4)) := rfl
theorem fC4_0 : flC4[0]? = some (some 1) := rfl
theorem fC4_1 : flC4[1]? = some (none) := rfl
theorem fC4_2 : flC4[2]? = some (some 29) := rfl
theorem fC4_3 : flC4[3]? = some (some 30) := rfl
theorem fC4_4 : flC4[4]? = some (some 31) := rfl
theorem fC4_5 : flC4[5]? = some (some 32) := rfl
theorem fC4_6 : flC4[6]? = some (some 33) := rfl
theorem fC4_7 : flC4[7]? = some (some 34) := rfl
theorem fC4_8 : flC4[8]? = some (some 35) := rfl
theorem fC4_9 : flC4[9]? = some (none) := rfl
theorem fC4_10 : flC4[10]? = some (none) := rfl
def flC5 : List (Option Nat) := [some 1, some 3]
theorem sC_5 : shC[5]? = some (.inl (0, flC5)) := rfl
theorem fC5_0 : flC5[0]? = some (some 1) := rfl
theorem fC5_1 : flC5[1]? = some (some 3) := rfl
def flC6 : List (Option Nat) := [some 1, some 4]
theorem sC_6 : shC[6]? = some (.inl (0, flC6)) := rfl
theorem fC6_0 : flC6[0]? = some (some 1) := rfl
theorem fC6_1 : flC6[1]? = some (some 4) := rfl
def flC7 : List (Option Nat) := [some 1, some 3, some 36]
theorem sC_7 : shC[7]? = some (.inl (2, flC7)) := rfl
theorem fC7_0 : flC7[0]? = some (some 1) := rfl
theorem fC7_1 : flC7[1]? = some (some 3) := rfl
theorem fC7_2 : flC7[2]? = some (some 36) := rfl
def flC8 : List (Option Nat) := [some 1, some 37, none, none]
theorem sC_8 : shC[8]? = some (.inl (1, flC8)) := rfl
theorem fC8_0 : flC8[0]? = some (some 1) := rfl
theorem fC8_1 : flC8[1]? = some (some 37) := rfl
theorem fC8_2 : flC8[2]? = some (none) := rfl
theorem fC8_3 : flC8[3]? = some (none) := rfl
theorem sC_9 : shC[9]? = some (.inr (7, 0)) := rfl
theorem sC_10 : shC[10]? = some (.inr (12, 0)) := rfl
theorem sC_11 : shC[11]? = some (.inr (12, 0)) := rfl
theorem sC_12 : shC[12]? = some (.inr (3, 0)) := rfl
theorem sC_13 : shC[13]? = some (.inr (300, 0)) := rfl
theorem sC_14 : shC[14]? = some (.inr (36, 0)) := rfl
theorem sC_15 : shC[15]? = some (.inr (15, 0)) := rfl
theorem sC_16 : shC[16]? = some (.inr (12, 0)) := rfl
theorem sC_17 : shC[17]? = some (.inr (12, 0)) := rfl
theorem sC_18 : shC[18]? = some (.inr (3, 0)) := rfl
theorem sC_19 : shC[19]? = some (.inr (300, 0)) := rfl
theorem sC_20 : shC[20]? = some (.inr (36, 0)) := rfl
theorem sC_21 : shC[21]? = some (.inr (15, 0)) := rfl
theorem sC_22 : shC[22]? = some (.inr (156, 1)) := rfl
theorem sC_23 : shC[23]? = some (.inr (576, 1)) := rfl
theorem sC_24 : shC[24]? = some (.inr (60, 0)) := rfl
theorem sC_25 : shC[25]? = some (.inr (49, 0)) := rfl
theorem sC_26 : shC[26]? = some (.inr (60, 0)) := rfl
theorem sC_27 : shC[27]? = some (.inr (9, 1)) := rfl
theorem sC_28 : shC[28]? = some (.inr (9, 1)) := rfl
theorem sC_29 : shC[29]? = some (.inr (156, 1)) := rfl
theorem sC_30 : shC[30]? = some (.inr (576, 1)) := rfl
theorem sC_31 : shC[31]? = some (.inr (60, 0)) := rfl
theorem sC_32 : shC[32]? = some (.inr (49, 0)) := rfl
theorem sC_33 : shC[33]? = some (.inr (60, 0)) := rfl
theorem sC_34 : shC[34]? = some (.inr (9, 1)) := rfl
theorem sC_35 : shC[35]? = some (.inr (9, 1)) := rfl
theorem sC_36 : shC[36]? = some (.inr (780, 1)) := rfl
theorem sC_37 : shC[37]? = some (.inr (80, 0)) := rfl
/-- a story's object and its rows, by which of the two stories -/
def flS (b : Nat) : List (Option Nat) := [some 1, none, some (22 + 7 * b), some (23 + 7 * b), some (24 + 7 * b), some (25 + 7 * b), some (26 + 7 * b), some (27 + 7 * b), some (28 + 7 * b), none, none]
def flD (b : Nat) : List (Option Nat) := [some 1, some (3 + b)]
theorem sS_o {b : Nat} (h : b < 2) : shC[3 + b]? = some (.inl (4, flS b)) := by rcases (show b = 0 ∨ b = 1 by omega) with rfl | rfl <;> rfl
theorem sD_o {b : Nat} (h : b < 2) : shC[5 + b]? = some (.inl (0, flD b)) := by rcases (show b = 0 ∨ b = 1 by omega) with rfl | rfl <;> rfl
theorem fS_0 {b : Nat} : (flS b)[0]? = some (some 1) := rfl
theorem fS_1 {b : Nat} : (flS b)[1]? = some (none) := rfl
theorem fS_2 {b : Nat} : (flS b)[2]? = some (some (22 + 7 * b)) := rfl
theorem fS_3 {b : Nat} : (flS b)[3]? = some (some (23 + 7 * b)) := rfl
theorem fS_4 {b : Nat} : (flS b)[4]? = some (some (24 + 7 * b)) := rfl
theorem fS_5 {b : Nat} : (flS b)[5]? = some (some (25 + 7 * b)) := rfl
theorem fS_6 {b : Nat} : (flS b)[6]? = some (some (26 + 7 * b)) := rfl
theorem fS_7 {b : Nat} : (flS b)[7]? = some (some (27 + 7 * b)) := rfl
theorem fS_8 {b : Nat} : (flS b)[8]? = some (some (28 + 7 * b)) := rfl
theorem fS_9 {b : Nat} : (flS b)[9]? = some (none) := rfl
theorem fS_10 {b : Nat} : (flS b)[10]? = some (none) := rfl
theorem fD_0 {b : Nat} : (flD b)[0]? = some (some 1) := rfl
theorem fD_1 {b : Nat} : (flD b)[1]? = some (some (3 + b)) := rfl
theorem sS_22 {b : Nat} (h : b < 2) : shC[22 + 7 * b]? = some (.inr (156, 1)) := by rcases (show b = 0 ∨ b = 1 by omega) with rfl | rfl <;> rfl
theorem sS_23 {b : Nat} (h : b < 2) : shC[23 + 7 * b]? = some (.inr (576, 1)) := by rcases (show b = 0 ∨ b = 1 by omega) with rfl | rfl <;> rfl
theorem sS_24 {b : Nat} (h : b < 2) : shC[24 + 7 * b]? = some (.inr (60, 0)) := by rcases (show b = 0 ∨ b = 1 by omega) with rfl | rfl <;> rfl
theorem sS_25 {b : Nat} (h : b < 2) : shC[25 + 7 * b]? = some (.inr (49, 0)) := by rcases (show b = 0 ∨ b = 1 by omega) with rfl | rfl <;> rfl
theorem sS_26 {b : Nat} (h : b < 2) : shC[26 + 7 * b]? = some (.inr (60, 0)) := by rcases (show b = 0 ∨ b = 1 by omega) with rfl | rfl <;> rfl
theorem sS_27 {b : Nat} (h : b < 2) : shC[27 + 7 * b]? = some (.inr (9, 1)) := by rcases (show b = 0 ∨ b = 1 by omega) with rfl | rfl <;> rfl
theorem sS_28 {b : Nat} (h : b < 2) : shC[28 + 7 * b]? = some (.inr (9, 1)) := by rcases (show b = 0 ∨ b = 1 by omega) with rfl | rfl <;> rfl
