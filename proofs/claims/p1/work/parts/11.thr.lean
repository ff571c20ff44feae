/-! The throw of a NoSuchElementException whose constructor links its super at place 13. -/

def ab_nms : List String := ["java/lang/RuntimeException", "java/lang/Exception"]
abbrev ab_rx : ByteArray := prog_28_method_4_code
def ab_own0 : List Cond := Bundle.ownAtomsX "SundialTreaty" 135 ab_Nm 13 ab_rx ab_nms
theorem ab_rx0 : decode ab_rx 0 = .ok (.aload_n 0, 1) := by decide +kernel
theorem ab_rx1 : decode ab_rx 1 = .ok (.aload_n 1, 1) := by decide +kernel
theorem ab_rx2 : decode ab_rx 2 = .ok (.invokespecial 13, 3) := by decide +kernel
theorem ab_rx5 : decode ab_rx 5 = .ok (.return_, 1) := by decide +kernel
theorem ab_own_in : ∀ w ∈ ab_own0, w ∈ lw_tbl ∨ w = .isRef (.static Bundle.tN "UNASSIGNED_STACK" Bundle.steD) ∨ w = .isRef (.static Bundle.tN "SUPPRESSED_SENTINEL" Bundle.listD) := by decide +kernel
