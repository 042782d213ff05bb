/-! what the start gives -/
def NFl : List Cond := flatC (Jvm.Cond.and given_1 narrow_1)
def wnN (i : Nat) : String := (["FRAME", "GROUP", "BOX", "BACK", "SCENE", "SET", "TITLE", "DROP", "TICK"] : List String).getD i ""
def wKi (i : Nat) : Nat := ([59, 65, 68, 71, 74, 77, 80, 83, 86] : List Nat).getD i 0
/-- where the words' and the texts' conditions begin -/
def wXi (i : Nat) : Nat := 2 + ([49, 53, 58, 64, 71, 79, 88, 98, 109] : List Nat).getD i 0
def wYi (i : Nat) : Nat := 2 + ([245, 257, 270, 282, 296, 312, 327, 345, 363] : List Nat).getD i 0
abbrev wT (i : Nat) : Term := .static RX8 (wnN i) "LEyeStage$Word;"
abbrev sT (i : Nat) : Term := .string RX8 (wKi i)
abbrev tWORDS : Term := .static RX9 "WORDS" "[LEyeStage$Word;"
abbrev tSWM : Term := .static RX0 nSM "[I"
abbrev tLEAST : Term := .static RX9 "LEAST_SETTING" "[I"
abbrev tGREAT : Term := .static RX9 "GREATEST_SETTING" "[I"
theorem nf_ex : ∀ i, i < 9 → NFl[wXi i]? = some (Cond.exactly (wT i) RX8) := by decide +kernel
theorem nf_or : ∀ i, i < 9 → NFl[wXi i + 1]? = some (Cond.eq (.field (wT i) RJx29ce0 "ordinal" "I") (.int (Int32.ofInt (i : Int)))) := by decide +kernel
theorem nf_te : ∀ i, i < 9 → NFl[wXi i + 2]? = some (Cond.eq (.field (wT i) RX8 "text" "Ljava/lang/String;") (sT i)) := by decide +kernel
theorem nf_nu : ∀ i, i < 9 → NFl[wXi i + 3]? = some (Cond.eq (.field (wT i) RX8 "numbers" "I") (.int (Int32.ofInt (wnm i)))) := by decide +kernel
theorem nf_sx : ∀ i, i < 9 → NFl[wYi i]? = some (Cond.exactly (sT i) RJ0) := by decide +kernel
theorem nf_sc : ∀ i, i < 9 → NFl[wYi i + 1]? = some (Cond.eq (.field (sT i) RJ0 "coder" "B") (.int (Int32.ofInt 0))) := by decide +kernel
theorem nf_sa : ∀ i, i < 9 → NFl[wYi i + 2]? = some (Cond.arrayOf (.field (sT i) RJ0 "value" "[B") .byte) := by decide +kernel
theorem nf_sl : ∀ i, i < 9 → NFl[wYi i + 3]? = some (Cond.eq (.length (.field (sT i) RJ0 "value" "[B")) (.int (Int32.ofNat (wtx i).length))) := by decide +kernel
theorem nf_se : ∀ i, i < 9 → ∀ j, j < (wtx i).length → NFl[wYi i + 4 + j]? = some (Cond.eq (.elem (.field (sT i) RJ0 "value" "[B") (.int (Int32.ofNat j))) (.int (Int32.ofInt ((wtx i).getD j 0)))) := by decide +kernel
theorem nf_W : NFl[6]? = some (Cond.arrayOf tWORDS (.object RX8)) ∧ NFl[7]? = some (Cond.eq (.length tWORDS) (.int (Int32.ofNat 9))) ∧ ∀ j, j < 9 → NFl[9 + j]? = some (Cond.eq (.elem tWORDS (.int (Int32.ofNat j))) (wT j)) := by decide +kernel
theorem nf_S : NFl[24]? = some (Cond.arrayOf tSWM .int) ∧ NFl[25]? = some (Cond.eq (.length tSWM) (.int (Int32.ofNat 9))) ∧ ∀ j, j < 9 → NFl[26 + j]? = some (Cond.eq (.elem tSWM (.int (Int32.ofNat j))) (.int (Int32.ofInt (([1, 2, 3, 4, 5, 6, 7, 8, 0] : List Int).getD j 0)))) := by decide +kernel
theorem nf_L : NFl[36]? = some (Cond.arrayOf tLEAST .int) ∧ NFl[37]? = some (Cond.eq (.length tLEAST) (.int (Int32.ofNat 4))) ∧ ∀ j, j < 4 → NFl[38 + j]? = some (Cond.eq (.elem tLEAST (.int (Int32.ofNat j))) (.int (Int32.ofInt (([0, 1, 0, 0] : List Int).getD j 0)))) := by decide +kernel
theorem nf_G : NFl[43]? = some (Cond.arrayOf tGREAT .int) ∧ NFl[44]? = some (Cond.eq (.length tGREAT) (.int (Int32.ofNat 4))) ∧ ∀ j, j < 4 → NFl[45 + j]? = some (Cond.eq (.elem tGREAT (.int (Int32.ofNat j))) (.int (Int32.ofInt (([100, 5, 15, 100] : List Int).getD j 0)))) := by decide +kernel
theorem nf_cs : NFl[18]? = some (Cond.eq (.static RJ0 "COMPACT_STRINGS" "Z") (.int (Int32.ofInt 1))) := by decide +kernel
theorem nf_fo : NFl[19]? = some (Cond.isRef (.static RJ3 "SIOOBE_FORMATTER" "Ljava/util/function/BiFunction;")) := by decide +kernel
theorem nf_us : NFl[49]? = some (Cond.isRef (.static Bundle.tN "UNASSIGNED_STACK" Bundle.steD)) := by decide +kernel
theorem nf_ss : NFl[50]? = some (Cond.isRef (.static Bundle.tN "SUPPRESSED_SENTINEL" Bundle.listD)) := by decide +kernel
theorem nf_m1 : NFl[156]? = some (Cond.exactly (.string RX9 254) RJ0) := by decide +kernel
theorem nf_m2 : NFl[182]? = some (Cond.exactly (.string RX9 261) RJ0) := by decide +kernel
theorem nf_m3 : NFl[214]? = some (Cond.exactly (.string RX9 266) RJ0) := by decide +kernel
theorem nf_nc : NFl[131]? = some (Cond.not (.castable xIO xIA)) ∧ NFl[132]? = some (Cond.not (.castable xIS xIA)) ∧ NFl[142]? = some (Cond.not (.castable xIA xIO)) ∧ NFl[143]? = some (Cond.not (.castable xIS xIO)) ∧ NFl[153]? = some (Cond.not (.castable xIO xIS)) ∧ NFl[154]? = some (Cond.not (.castable xIA xIS)) := by decide +kernel
theorem lt_st : lw_tbl[414]? = some (Cond.laysStatic RX9 "WORDS" "[LEyeStage$Word;") ∧ lw_tbl[487]? = some (Cond.laysStatic RX0 nSM "[I") ∧ lw_tbl[549]? = some (Cond.laysStatic RX9 "LEAST_SETTING" "[I") ∧ lw_tbl[551]? = some (Cond.laysStatic RX9 "GREATEST_SETTING" "[I") ∧ lw_tbl[428]? = some (Cond.laysStatic RJ0 "COMPACT_STRINGS" "Z") ∧ lw_tbl[444]? = some (Cond.laysStatic RJ3 "SIOOBE_FORMATTER" "Ljava/util/function/BiFunction;") ∧ lw_tbl[678]? = some (Cond.laysStatic Bundle.tN "UNASSIGNED_STACK" Bundle.steD) ∧ lw_tbl[680]? = some (Cond.laysStatic Bundle.tN "SUPPRESSED_SENTINEL" Bundle.listD) := by decide +kernel
theorem lt_in : lw_tbl[33]? = some (Cond.initialized RX9) ∧ lw_tbl[53]? = some (Cond.initialized RX0) ∧ lw_tbl[49]? = some (Cond.initialized RJ0) ∧ lw_tbl[51]? = some (Cond.initialized RJ3) ∧ lw_tbl[41]? = some (Cond.initialized Bundle.tN) := by decide +kernel
theorem lt_sr : lw_tbl[692]? = some (Cond.stringRef RX9 254 "there is no such thing") ∧ lw_tbl[728]? = some (Cond.stringRef RX9 261 "an argument is out of range") ∧ lw_tbl[744]? = some (Cond.stringRef RX9 266 "the state does not allow it") := by decide +kernel
theorem lt_ar : lw_tbl[130]? = some (Cond.arrayClass .int) ∧ lw_tbl[291]? = some (Cond.arrayOver (.object RX5)) := by decide +kernel
theorem lt_ex : ∀ w ∈ exW, w ∈ lw_tbl := by decide +kernel
theorem lt_nm : ∀ q ∈ nwM, Cond.methodLinkNest q.1 q.2.1 q.2.2.1 q.2.2.2 ∈ lw_tbl := by decide +kernel
theorem lt_nf : ∀ q ∈ nwF, Cond.fieldLinkNest q.1 q.2.1 q.2.2.1 q.2.2.2.1 q.2.2.2.2.1 q.2.2.2.2.2 ∈ lw_tbl := by decide +kernel

