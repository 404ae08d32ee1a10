/-! THE START: what holds at the law's entry, out of the tables' words and of what is given -/
def stK (i : Nat) : Term := .static "PolicyDesk$Kind" (kCon.getD i "") "LPolicyDesk$Kind;"
def kIdx : List Nat := [70, 78, 81, 84, 87, 90, 95, 100, 103, 72, 92, 97]
def stS (i : Nat) : Term := .string "PolicyDesk$Kind" (kIdx.getD i 0)
def stV (i : Nat) : Term := .field (stS i) "java/lang/String" "value" "[B"
def stM (i : Nat) : Term := .string "PolicyDesk" (kMsg.getD i (0, "")).1
def stKs : Term := .static "PolicyDesk" "KINDS" "[LPolicyDesk$Kind;"
def stSw : Term := .static "PolicyDesk$1" "$SwitchMap$PolicyDesk$Kind" "[I"
def stF : Term := .static "jdk/internal/util/Preconditions" "SIOOBE_FORMATTER" "Ljava/util/function/BiFunction;"
abbrev gvn : Cond := Jvm.Cond.and given_1 narrow_1
set_option maxRecDepth 100000 in
theorem gv_k : ∀ i, i < 9 → Cond.exactly (stK i) "PolicyDesk$Kind" ∈ flatC gvn ∧ Cond.eq (.field (stK i) "java/lang/Enum" "ordinal" "I") (.int (nI i)) ∈ flatC gvn ∧ Cond.eq (.elem stKs (.int (Int32.ofNat i))) (stK i) ∈ flatC gvn ∧ Cond.eq (.elem stSw (.int (Int32.ofNat i))) (.int (nI (i + 1))) ∈ flatC gvn := by decide +kernel
set_option maxRecDepth 100000 in
theorem gv_w : ∀ i, i < 9 → Cond.eq (.field (stK i) "PolicyDesk$Kind" "word" "Ljava/lang/String;") (stS i) ∈ flatC gvn ∧ Cond.eq (.field (stK i) "PolicyDesk$Kind" "marks" "Ljava/lang/String;") (stS (kMarks.getD i 0)) ∈ flatC gvn := by decide +kernel
set_option maxRecDepth 100000 in
theorem gv_n : ∀ i, i < 9 → Cond.eq (.field (stK i) "PolicyDesk$Kind" "names" "I") (.int (kNames.getD i 0)) ∈ flatC gvn ∧ Cond.eq (.field (stK i) "PolicyDesk$Kind" "fewest" "I") (.int (kFewest.getD i 0)) ∈ flatC gvn ∧ Cond.eq (.field (stK i) "PolicyDesk$Kind" "most" "I") (.int (kMost.getD i 0)) ∈ flatC gvn := by decide +kernel
set_option maxRecDepth 100000 in
theorem gv_s : ∀ i, i < 12 → Cond.exactly (stS i) "java/lang/String" ∈ flatC gvn ∧ Cond.eq (.field (stS i) "java/lang/String" "coder" "B") (.int 0) ∈ flatC gvn ∧ Cond.arrayOf (stV i) .byte ∈ flatC gvn ∧ Cond.eq (.length (stV i)) (.int (Int32.ofNat (kStr.getD i []).length)) ∈ flatC gvn := by decide +kernel
set_option maxRecDepth 100000 in
theorem gv_y : ∀ i, i < 12 → ∀ j, j < (kStr.getD i []).length → Cond.eq (.elem (stV i) (.int (Int32.ofNat j))) (.int ((kStr.getD i []).getD j 0)) ∈ flatC gvn := by decide +kernel
set_option maxRecDepth 100000 in
theorem gv_m : ∀ i, i < 6 → Cond.exactly (stM i) "java/lang/String" ∈ flatC gvn := by decide +kernel
set_option maxRecDepth 100000 in
theorem gv_a : Cond.arrayOf stKs (.object "PolicyDesk$Kind") ∈ flatC gvn ∧ Cond.eq (.length stKs) (.int 9) ∈ flatC gvn ∧ Cond.arrayOf stSw .int ∈ flatC gvn ∧ Cond.eq (.length stSw) (.int 9) ∈ flatC gvn ∧ Cond.eq (.static "java/lang/String" "COMPACT_STRINGS" "Z") (.int 1) ∈ flatC gvn ∧ Cond.isRef stF ∈ flatC gvn ∧ Cond.isRef (.static Bundle.tN "UNASSIGNED_STACK" Bundle.steD) ∈ flatC gvn ∧ Cond.isRef (.static Bundle.tN "SUPPRESSED_SENTINEL" Bundle.listD) ∈ flatC gvn ∧ Cond.not (.castable "java/lang/IllegalStateException" "java/lang/IllegalArgumentException") ∈ flatC gvn := by decide +kernel
set_option maxRecDepth 100000 in
theorem tb_k : ∀ i, i < 9 → Cond.laysStatic "PolicyDesk$Kind" (kCon.getD i "") "LPolicyDesk$Kind;" ∈ lw_tbl := by decide +kernel
set_option maxRecDepth 100000 in
theorem tb_m : ∀ i, i < 6 → Cond.stringRef "PolicyDesk" (kMsg.getD i (0, "")).1 (kMsg.getD i (0, "")).2 ∈ lw_tbl := by decide +kernel
set_option maxRecDepth 100000 in
theorem tb_z : Cond.laysStatic "PolicyDesk" "KINDS" "[LPolicyDesk$Kind;" ∈ lw_tbl ∧ Cond.laysStatic "PolicyDesk$1" "$SwitchMap$PolicyDesk$Kind" "[I" ∈ lw_tbl ∧ Cond.laysStatic "java/lang/String" "COMPACT_STRINGS" "Z" ∈ lw_tbl ∧ Cond.laysStatic "jdk/internal/util/Preconditions" "SIOOBE_FORMATTER" "Ljava/util/function/BiFunction;" ∈ lw_tbl ∧ Cond.laysStatic Bundle.tN "UNASSIGNED_STACK" Bundle.steD ∈ lw_tbl ∧ Cond.laysStatic Bundle.tN "SUPPRESSED_SENTINEL" Bundle.listD ∈ lw_tbl := by decide +kernel
set_option maxRecDepth 100000 in
theorem tb_i : Cond.initialized "PolicyDesk$Kind" ∈ lw_tbl ∧ Cond.initialized "PolicyDesk" ∈ lw_tbl ∧ Cond.initialized "PolicyDesk$1" ∈ lw_tbl ∧ Cond.initialized "java/lang/String" ∈ lw_tbl ∧ Cond.initialized "jdk/internal/util/Preconditions" ∈ lw_tbl ∧ Cond.initialized Bundle.tN ∈ lw_tbl := by decide +kernel
set_option maxRecDepth 100000 in
theorem tb_a : Cond.arrayClass .int ∈ lw_tbl ∧ Cond.arrayClass .long ∈ lw_tbl ∧ Cond.arrayClass .char ∈ lw_tbl ∧ Cond.arrayClass .boolean ∈ lw_tbl ∧ Cond.arrayOver (.object "PolicyDesk$Statement") ∈ lw_tbl := by decide +kernel
set_option maxRecDepth 100000 in
theorem tb_c : Cond.instantiable RX1 4 ∈ lw_tbl ∧ Cond.instantiable RX3 2 ∈ lw_tbl ∧ Cond.instantiable RX6 5 ∈ lw_tbl ∧ Cond.instantiable RX7 7 ∈ lw_tbl ∧ Cond.instantiable RX8 2 ∈ lw_tbl ∧ Cond.instantiable RX9 4 ∈ lw_tbl ∧ Cond.instantiable RX10 2 ∈ lw_tbl ∧ Cond.instantiable RX11 10 ∈ lw_tbl ∧ Cond.instantiable RX12 32 ∈ lw_tbl := by decide +kernel
