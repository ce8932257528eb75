/-! what the Statement gives of the start: classes, literals, statics -/
section PR
/-- the law's premises, word by word -/
abbrev flN : List Cond := flatC (Jvm.Cond.and given_1 narrow_1)
abbrev tmS (i : Nat) : Term := .string "RingDisk$Reader" (sIx.getD i 0)
abbrev tmL : Term := .static "RingDisk$Reader" "LEAST_N" "[I"
abbrev tmM : Term := .static "RingDisk$Reader" "MOST_N" "[I"
/-- where the words on literals stand -/
def exB : List Nat := [43, 56, 110, 118, 129, 182, 194, 205, 217, 231, 246, 262, 283]
def elB : List Nat := [47, 60, 114, 122, 133, 186, 198, 209, 221, 235, 250, 266, 287]
def neB : List Nat := [0, 109, 116, 126, 178, 189, 199, 210, 223, 237, 252, 272, 288]
set_option maxRecDepth 100000 in
theorem pr_ex : ∀ i, i < 13 → flN[exB.getD i 0]? = some (Cond.exactly (tmS i) "java/lang/String") ∧ flN[exB.getD i 0 + 1]? = some (Cond.eq (.field (tmS i) "java/lang/String" "coder" "B") (.int 0)) ∧ flN[exB.getD i 0 + 2]? = some (Cond.arrayOf (.field (tmS i) "java/lang/String" "value" "[B") .byte) ∧ flN[exB.getD i 0 + 3]? = some (Cond.eq (.length (.field (tmS i) "java/lang/String" "value" "[B")) (.int (Int32.ofNat (sLe.getD i 0)))) := by decide +kernel
set_option maxRecDepth 100000 in
theorem pr_el : ∀ i, i < 13 → ∀ j, j < sLe.getD i 0 → flN[elB.getD i 0 + j]? = some (Cond.eq (.elem (.field (tmS i) "java/lang/String" "value" "[B") (.int (Int32.ofNat j))) (.int ((sBy.getD i []).getD j 0))) := by decide +kernel
set_option maxRecDepth 100000 in
theorem pr_ne : ∀ j, j < 13 → ∀ i, i < j → flN[neB.getD j 0 + i]? = some (Cond.not (Cond.eq (tmS i) (tmS j))) := by decide +kernel
set_option maxRecDepth 100000 in
theorem pr_st : (Cond.arrayOf tmL .int ∈ flN ∧ Cond.eq (.length tmL) (.int (Int32.ofNat 9)) ∈ flN ∧ ∀ j, j < 9 → Cond.eq (.elem tmL (.int (Int32.ofNat j))) (.int (nLeast.getD j 0)) ∈ flN) ∧ (Cond.arrayOf tmM .int ∈ flN ∧ Cond.eq (.length tmM) (.int (Int32.ofNat 9)) ∈ flN ∧ ∀ j, j < 9 → Cond.eq (.elem tmM (.int (Int32.ofNat j))) (.int (nMost.getD j 0)) ∈ flN) := by decide +kernel
set_option maxRecDepth 100000 in
theorem pr_z : Cond.eq (.static "java/lang/String" "COMPACT_STRINGS" "Z") (.int 1) ∈ flN ∧ Cond.isRef (.static "jdk/internal/util/Preconditions" "SIOOBE_FORMATTER" "Ljava/util/function/BiFunction;") ∈ flN ∧ Cond.isRef (.static Bundle.tN "UNASSIGNED_STACK" Bundle.steD) ∈ flN ∧ Cond.isRef (.static Bundle.tN "SUPPRESSED_SENTINEL" Bundle.listD) ∈ flN := by decide +kernel
set_option maxRecDepth 100000 in
theorem pr_t : (Cond.laysStatic "RingDisk$Reader" "LEAST_N" "[I" ∈ lw_tbl ∧ Cond.laysStatic "RingDisk$Reader" "MOST_N" "[I" ∈ lw_tbl ∧ Cond.initialized "RingDisk$Reader" ∈ lw_tbl) ∧ (Cond.laysStatic "java/lang/String" "COMPACT_STRINGS" "Z" ∈ lw_tbl ∧ Cond.initialized "java/lang/String" ∈ lw_tbl) ∧ (Cond.laysStatic "jdk/internal/util/Preconditions" "SIOOBE_FORMATTER" "Ljava/util/function/BiFunction;" ∈ lw_tbl ∧ Cond.initialized "jdk/internal/util/Preconditions" ∈ lw_tbl) ∧ (Cond.laysStatic Bundle.tN "UNASSIGNED_STACK" Bundle.steD ∈ lw_tbl ∧ Cond.laysStatic Bundle.tN "SUPPRESSED_SENTINEL" Bundle.listD ∈ lw_tbl ∧ Cond.initialized Bundle.tN ∈ lw_tbl) := by decide +kernel
set_option maxRecDepth 100000 in
theorem pr_n : (Cond.methodLinkNest "RingDisk$Disk" 71 ⟨"RingDisk", "isWithin", "(III)Z"⟩ "RingDisk" ∈ lw_tbl ∧ Cond.methodLinkNest "RingDisk$Tape" 21 ⟨"RingDisk", "isWithin", "(III)Z"⟩ "RingDisk" ∈ lw_tbl ∧ Cond.methodLinkNest "RingDisk$Reader" 130 ⟨"RingDisk", "isWithin", "(III)Z"⟩ "RingDisk" ∈ lw_tbl) ∧ (Cond.arrayOver (.object "RingDisk$Lump") ∈ lw_tbl ∧ Cond.arrayOver (.object "RingDisk$Disk") ∈ lw_tbl) ∧ (Cond.declares dcR ∈ lw_tbl ∧ Cond.declares dcE ∈ lw_tbl ∧ Cond.declares dcT ∈ lw_tbl ∧ Cond.castable nse nse ∈ lw_tbl) ∧ ∀ i, i < 13 → Cond.stringRef "RingDisk$Reader" (sIx.getD i 0) (sTx.getD i "") ∈ lw_tbl := by decide +kernel
theorem pr_a : Cond.arrayClass .char ∈ lw_tbl ∧ Cond.arrayClass .int ∈ lw_tbl ∧ Cond.arrayClass .long ∈ lw_tbl ∧ Cond.arrayClass .boolean ∈ lw_tbl := by decide +kernel
theorem pr_i : ∀ ci, ci < 8 → Cond.instantiable (Rc ci) (nf ci) ∈ lw_tbl := by decide +kernel
end PR
