abbrev eIOOB : String := "java/lang/IndexOutOfBoundsException"
theorem gt_IOOB : ∀ w ∈ (vx_at0 RX10 245 "java/lang/IndexOutOfBoundsException" ["java/lang/RuntimeException", "java/lang/Exception"]).filter (fun w => !goodWord w), w ∈ TWL := by decide +kernel
theorem gg_IOOB : ∀ w ∈ Cond.classLink RX10 243 "java/lang/IndexOutOfBoundsException" :: Cond.initialized "java/lang/IndexOutOfBoundsException" :: vx_at0 RX10 245 "java/lang/IndexOutOfBoundsException" ["java/lang/RuntimeException", "java/lang/Exception"], vx_ot w = true := by decide +kernel
theorem gf_IOOB : Bundle.fit "java/lang/IndexOutOfBoundsException" = true := by decide +kernel

abbrev eIAE : String := "java/lang/IllegalArgumentException"
theorem gt_IAE : ∀ w ∈ (vx_at0 RX10 95 "java/lang/IllegalArgumentException" ["java/lang/RuntimeException", "java/lang/Exception"]).filter (fun w => !goodWord w), w ∈ TWL := by decide +kernel
theorem gg_IAE : ∀ w ∈ Cond.classLink RX10 93 "java/lang/IllegalArgumentException" :: Cond.initialized "java/lang/IllegalArgumentException" :: vx_at0 RX10 95 "java/lang/IllegalArgumentException" ["java/lang/RuntimeException", "java/lang/Exception"], vx_ot w = true := by decide +kernel
theorem gf_IAE : Bundle.fit "java/lang/IllegalArgumentException" = true := by decide +kernel

abbrev eISE : String := "java/lang/IllegalStateException"
theorem gt_ISE : ∀ w ∈ (vx_at0 RX10 76 "java/lang/IllegalStateException" ["java/lang/RuntimeException", "java/lang/Exception"]).filter (fun w => !goodWord w), w ∈ TWL := by decide +kernel
theorem gg_ISE : ∀ w ∈ Cond.classLink RX10 74 "java/lang/IllegalStateException" :: Cond.initialized "java/lang/IllegalStateException" :: vx_at0 RX10 76 "java/lang/IllegalStateException" ["java/lang/RuntimeException", "java/lang/Exception"], vx_ot w = true := by decide +kernel
theorem gf_ISE : Bundle.fit "java/lang/IllegalStateException" = true := by decide +kernel

abbrev eNSE : String := "java/util/NoSuchElementException"
theorem gt_NSE : ∀ w ∈ (vx_at0 RX10 207 "java/util/NoSuchElementException" ["java/lang/RuntimeException", "java/lang/Exception"]).filter (fun w => !goodWord w), w ∈ TWL := by decide +kernel
theorem gg_NSE : ∀ w ∈ Cond.classLink RX10 205 "java/util/NoSuchElementException" :: Cond.initialized "java/util/NoSuchElementException" :: vx_at0 RX10 207 "java/util/NoSuchElementException" ["java/lang/RuntimeException", "java/lang/Exception"], vx_ot w = true := by decide +kernel
theorem gf_NSE : Bundle.fit "java/util/NoSuchElementException" = true := by decide +kernel

theorem gf_names : ∀ n ∈ ["java/lang/RuntimeException", "java/lang/Exception"], Bundle.fit n = true := by decide +kernel
