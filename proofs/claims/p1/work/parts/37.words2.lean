/-! NAMES: further words of the tables; values of reference and boolean fields. -/
theorem kI_Object_init : Cond.instanceMethod objectInit ∈ gx_all := gx_in 34 (by decide +kernel)
theorem kc_Object_init : Cond.code objectInit ⟨#[0xb1]⟩ 1 none ∈ gx_all := gx_in 35 (by decide +kernel)
theorem kL_DEFAULTCAPACITY_EMPTY_ELEMENTDATA : Cond.laysStatic "java/util/ArrayList" "DEFAULTCAPACITY_EMPTY_ELEMENTDATA" "[Ljava/lang/Object;" ∈ gx_all := gx_in 79 (by decide +kernel)
theorem kO_Fi : Cond.arrayOver (.object "CommitLedger$LedgerFile") ∈ gx_all := gx_in 113 (by decide +kernel)
theorem kO_Me : Cond.arrayOver (.object "CommitLedger$Merge") ∈ gx_all := gx_in 141 (by decide +kernel)
theorem kO_Re : Cond.arrayOver (.object "CommitLedger$Reader") ∈ gx_all := gx_in 164 (by decide +kernel)
theorem kO_Object : Cond.arrayOver (.object "java/lang/Object") ∈ gx_all := gx_in 334 (by decide +kernel)
theorem kO_Ve : Cond.arrayOver (.object "CommitLedgerModel$Version") ∈ gx_all := gx_in 965 (by decide +kernel)
theorem kR_DEFAULTCAPACITY_EMPTY_ELEMENTDATA : Cond.isRef (.static "java/util/ArrayList" "DEFAULTCAPACITY_EMPTY_ELEMENTDATA" "[Ljava/lang/Object;") ∈ gx_all := gx_inx 2 (by decide +kernel)
theorem gx_nra {t : FieldType} {v : Value} (h : v = .null ∨ ∃ a : Nat, v = .ref a) : narrow (.array t) v = v := by rcases h with rfl | ⟨_, rfl⟩ <;> rfl
theorem gx_fra {t : FieldType} {v : Value} (h : v = .null ∨ ∃ a : Nat, v = .ref a) : fits (.array t) v = true := by rcases h with rfl | ⟨_, rfl⟩ <;> rfl
def gx_b (v : Int32) : Prop := v = 0 ∨ v = 1
theorem gx_nb {v : Int32} (h : gx_b v) : narrow .boolean (.int v) = .int v := by rcases h with rfl | rfl <;> rfl
theorem gx_fb {v : Int32} (h : gx_b v) : fits .boolean (.int v) = true := by rcases h with rfl | rfl <;> rfl
