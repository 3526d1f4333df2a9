/-! throwing: the words of each 'throw new E()', what a state must hold for one -/
abbrev eA : String := "java/lang/IllegalArgumentException"
abbrev eS : String := "java/lang/IllegalStateException"
abbrev eI : String := "java/lang/IndexOutOfBoundsException"
abbrev eN : String := "java/util/NoSuchElementException"
abbrev eUp : List String := ["java/lang/RuntimeException", "java/lang/Exception"]
theorem kt_gA : ∀ w ∈ (vx_at0 RD 29 eA eUp).filter goodWord, w ∈ GW := by decide +kernel
theorem kt_gS : ∀ w ∈ (vx_at0 RD 32 eS eUp).filter goodWord, w ∈ GW := by decide +kernel
theorem kt_gI : ∀ w ∈ (vx_at0 RD 139 eI eUp).filter goodWord, w ∈ GW := by decide +kernel
theorem kt_gN : ∀ w ∈ (vx_at0 RD 121 eN eUp).filter goodWord, w ∈ GW := by decide +kernel
def kt_bad (X : String) : List Cond := [.castable X X, .declares ⟨"java/lang/RuntimeException", "<init>", "()V"⟩, .declares ⟨"java/lang/Exception", "<init>", "()V"⟩, .declares ⟨"java/lang/Throwable", "<init>", "()V"⟩]
theorem kt_bA : ∀ w ∈ (vx_at0 RD 29 eA eUp).filter (fun w => !goodWord w), w ∈ kt_bad eA := by decide +kernel
theorem kt_bS : ∀ w ∈ (vx_at0 RD 32 eS eUp).filter (fun w => !goodWord w), w ∈ kt_bad eS := by decide +kernel
theorem kt_bI : ∀ w ∈ (vx_at0 RD 139 eI eUp).filter (fun w => !goodWord w), w ∈ kt_bad eI := by decide +kernel
theorem kt_bN : ∀ w ∈ (vx_at0 RD 121 eN eUp).filter (fun w => !goodWord w), w ∈ kt_bad eN := by decide +kernel
