/-! THE START: what the Statement gives of the texts and statics, and the law's run out of the little machine's -/
def xz_tix : List Nat := [74, 76, 78, 80, 82, 84, 86, 88, 90]
def xz_tm (i : Nat) : Term := .string "HandRelay$Text" (xz_tix.getD i 0)
abbrev xz_pre : List Cond := flatC (Jvm.Cond.and given_1 narrow_1)
theorem xz_pr_ex : ∀ i, i < 9 → Cond.exactly (xz_tm i) "java/lang/String" ∈ xz_pre := by decide +kernel
theorem xz_pr_co : ∀ i, i < 9 → Cond.eq (.field (xz_tm i) "java/lang/String" "coder" "B") (.int 0) ∈ xz_pre := by decide +kernel
theorem xz_pr_ar : ∀ i, i < 9 → Cond.arrayOf (.field (xz_tm i) "java/lang/String" "value" "[B") .byte ∈ xz_pre := by decide +kernel
theorem xz_pr_le : ∀ i, i < 9 → Cond.eq (.length (.field (xz_tm i) "java/lang/String" "value" "[B")) (.int (Int32.ofNat (xz_slen.getD i 0))) ∈ xz_pre := by decide +kernel
theorem xz_pr_el : ∀ i, i < 9 → ∀ j, j < xz_slen.getD i 0 → Cond.eq (.elem (.field (xz_tm i) "java/lang/String" "value" "[B") (.int (Int32.ofNat j))) (.int ((xz_sbyt.getD i []).getD j 0)) ∈ xz_pre := by decide +kernel
theorem xz_pr_ne : ∀ i, i < 9 → ∀ j, j < 9 → i ≠ j → (Cond.not (Cond.eq (xz_tm i) (xz_tm j)) ∈ xz_pre ∨ Cond.not (Cond.eq (xz_tm j) (xz_tm i)) ∈ xz_pre) := by decide +kernel
def xz_mix : List Nat := [189, 194, 196, 198, 199]
theorem xz_pr_m : ∀ i, i < 5 → Cond.eq (xz_tm i) (.string "HandRelayModel" (xz_mix.getD i 0)) ∈ xz_pre ∧ Cond.exactly (.string "HandRelayModel" (xz_mix.getD i 0)) "java/lang/String" ∈ xz_pre := by decide +kernel
theorem xz_pr_cs : Cond.eq (.static "java/lang/String" "COMPACT_STRINGS" "Z") (.int 1) ∈ xz_pre := by decide +kernel
theorem xz_pr_sf : Cond.isRef (.static "jdk/internal/util/Preconditions" "SIOOBE_FORMATTER" "Ljava/util/function/BiFunction;") ∈ xz_pre := by decide +kernel
