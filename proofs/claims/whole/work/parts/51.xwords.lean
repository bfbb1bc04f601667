theorem wXi_0 : Cond.initialized "java/lang/ArithmeticException" ∈ gT := by decide +kernel
theorem wXc_0 : Cond.classLink RX11 88 "java/lang/ArithmeticException" ∈ gT := wC_X11_88
theorem wXg_0 : ∀ w ∈ (vx_at0 RX11 90 "java/lang/ArithmeticException" ["java/lang/RuntimeException", "java/lang/Exception"]).filter goodWord, w ∈ gT := by decide +kernel
theorem wXb_0 : ∀ w ∈ (vx_at0 RX11 90 "java/lang/ArithmeticException" ["java/lang/RuntimeException", "java/lang/Exception"]).filter (fun w => !goodWord w), w ∈ cBx := by decide +kernel
theorem wXo_0 : ∀ w ∈ Cond.classLink RX11 88 "java/lang/ArithmeticException" :: Cond.initialized "java/lang/ArithmeticException" :: (vx_at0 RX11 90 "java/lang/ArithmeticException" ["java/lang/RuntimeException", "java/lang/Exception"]), vx_ot w = true := by decide +kernel
theorem wXi_1 : Cond.initialized "java/lang/NullPointerException" ∈ gT := by decide +kernel
theorem wXc_1 : Cond.classLink RX11 91 "java/lang/NullPointerException" ∈ gT := wC_X11_91
theorem wXg_1 : ∀ w ∈ cx_atN.filter goodWord, w ∈ gT := by decide +kernel
theorem wXb_1 : ∀ w ∈ cx_atN.filter (fun w => !goodWord w), w ∈ cBx := by decide +kernel
theorem wXo_1 : ∀ w ∈ Cond.classLink RX11 91 "java/lang/NullPointerException" :: Cond.initialized "java/lang/NullPointerException" :: cx_atN, vx_ot w = true := by decide +kernel
theorem wXi_2 : Cond.initialized "java/lang/ArrayIndexOutOfBoundsException" ∈ gT := by decide +kernel
theorem wXc_2 : Cond.classLink RX11 40 "java/lang/ArrayIndexOutOfBoundsException" ∈ gT := wC_X11_40
theorem wXg_2 : ∀ w ∈ (vx_at0 RX11 94 "java/lang/ArrayIndexOutOfBoundsException" ["java/lang/IndexOutOfBoundsException", "java/lang/RuntimeException", "java/lang/Exception"]).filter goodWord, w ∈ gT := by decide +kernel
theorem wXb_2 : ∀ w ∈ (vx_at0 RX11 94 "java/lang/ArrayIndexOutOfBoundsException" ["java/lang/IndexOutOfBoundsException", "java/lang/RuntimeException", "java/lang/Exception"]).filter (fun w => !goodWord w), w ∈ cBx := by decide +kernel
theorem wXo_2 : ∀ w ∈ Cond.classLink RX11 40 "java/lang/ArrayIndexOutOfBoundsException" :: Cond.initialized "java/lang/ArrayIndexOutOfBoundsException" :: (vx_at0 RX11 94 "java/lang/ArrayIndexOutOfBoundsException" ["java/lang/IndexOutOfBoundsException", "java/lang/RuntimeException", "java/lang/Exception"]), vx_ot w = true := by decide +kernel
theorem wXi_3 : Cond.initialized "java/lang/ClassCastException" ∈ gT := by decide +kernel
theorem wXc_3 : Cond.classLink RX11 95 "java/lang/ClassCastException" ∈ gT := wC_X11_95
theorem wXg_3 : ∀ w ∈ (vx_at0 RX11 97 "java/lang/ClassCastException" ["java/lang/RuntimeException", "java/lang/Exception"]).filter goodWord, w ∈ gT := by decide +kernel
theorem wXb_3 : ∀ w ∈ (vx_at0 RX11 97 "java/lang/ClassCastException" ["java/lang/RuntimeException", "java/lang/Exception"]).filter (fun w => !goodWord w), w ∈ cBx := by decide +kernel
theorem wXo_3 : ∀ w ∈ Cond.classLink RX11 95 "java/lang/ClassCastException" :: Cond.initialized "java/lang/ClassCastException" :: (vx_at0 RX11 97 "java/lang/ClassCastException" ["java/lang/RuntimeException", "java/lang/Exception"]), vx_ot w = true := by decide +kernel
theorem wXi_4 : Cond.initialized "java/lang/NegativeArraySizeException" ∈ gT := by decide +kernel
theorem wXc_4 : Cond.classLink RX11 98 "java/lang/NegativeArraySizeException" ∈ gT := wC_X11_98
theorem wXg_4 : ∀ w ∈ (vx_at0 RX11 100 "java/lang/NegativeArraySizeException" ["java/lang/RuntimeException", "java/lang/Exception"]).filter goodWord, w ∈ gT := by decide +kernel
theorem wXb_4 : ∀ w ∈ (vx_at0 RX11 100 "java/lang/NegativeArraySizeException" ["java/lang/RuntimeException", "java/lang/Exception"]).filter (fun w => !goodWord w), w ∈ cBx := by decide +kernel
theorem wXo_4 : ∀ w ∈ Cond.classLink RX11 98 "java/lang/NegativeArraySizeException" :: Cond.initialized "java/lang/NegativeArraySizeException" :: (vx_at0 RX11 100 "java/lang/NegativeArraySizeException" ["java/lang/RuntimeException", "java/lang/Exception"]), vx_ot w = true := by decide +kernel
theorem wXi_5 : Cond.initialized "java/lang/ArrayStoreException" ∈ gT := by decide +kernel
theorem wXc_5 : Cond.classLink RX11 101 "java/lang/ArrayStoreException" ∈ gT := wC_X11_101
theorem wXg_5 : ∀ w ∈ (vx_at0 RX11 103 "java/lang/ArrayStoreException" ["java/lang/RuntimeException", "java/lang/Exception"]).filter goodWord, w ∈ gT := by decide +kernel
theorem wXb_5 : ∀ w ∈ (vx_at0 RX11 103 "java/lang/ArrayStoreException" ["java/lang/RuntimeException", "java/lang/Exception"]).filter (fun w => !goodWord w), w ∈ cBx := by decide +kernel
theorem wXo_5 : ∀ w ∈ Cond.classLink RX11 101 "java/lang/ArrayStoreException" :: Cond.initialized "java/lang/ArrayStoreException" :: (vx_at0 RX11 103 "java/lang/ArrayStoreException" ["java/lang/RuntimeException", "java/lang/Exception"]), vx_ot w = true := by decide +kernel
theorem wXi_6 : Cond.initialized "java/lang/IllegalStateException" ∈ gT := by decide +kernel
theorem wXc_6 : Cond.classLink RX11 104 "java/lang/IllegalStateException" ∈ gT := wC_X11_104
theorem wXg_6 : ∀ w ∈ (vx_at0 RX11 106 "java/lang/IllegalStateException" ["java/lang/RuntimeException", "java/lang/Exception"]).filter goodWord, w ∈ gT := by decide +kernel
theorem wXb_6 : ∀ w ∈ (vx_at0 RX11 106 "java/lang/IllegalStateException" ["java/lang/RuntimeException", "java/lang/Exception"]).filter (fun w => !goodWord w), w ∈ cBx := by decide +kernel
theorem wXo_6 : ∀ w ∈ Cond.classLink RX11 104 "java/lang/IllegalStateException" :: Cond.initialized "java/lang/IllegalStateException" :: (vx_at0 RX11 106 "java/lang/IllegalStateException" ["java/lang/RuntimeException", "java/lang/Exception"]), vx_ot w = true := by decide +kernel
theorem wXm : Cond.methodLink RX11 93 (Bundle.init0 Bundle.nN) ∈ gT := by decide +kernel
theorem wXgS : ∀ w ∈ (vx_atS RX11 44 "java/lang/ArrayIndexOutOfBoundsException" ["java/lang/IndexOutOfBoundsException", "java/lang/RuntimeException", "java/lang/Exception"]).filter goodWord, w ∈ gT := by decide +kernel
theorem wXbS : ∀ w ∈ (vx_atS RX11 44 "java/lang/ArrayIndexOutOfBoundsException" ["java/lang/IndexOutOfBoundsException", "java/lang/RuntimeException", "java/lang/Exception"]).filter (fun w => !goodWord w), w ∈ cBx := by decide +kernel
theorem wXoS : ∀ w ∈ Cond.classLink RX11 40 "java/lang/ArrayIndexOutOfBoundsException" :: Cond.initialized "java/lang/ArrayIndexOutOfBoundsException" :: vx_atS RX11 44 "java/lang/ArrayIndexOutOfBoundsException" ["java/lang/IndexOutOfBoundsException", "java/lang/RuntimeException", "java/lang/Exception"], vx_ot w = true := by decide +kernel
