set_option maxRecDepth 20000 in
theorem xb_X6_245 : ∀ w ∈ (vx_atN).filter (fun w => !goodWord w), w ∈ (Cond.castable "java/util/NoSuchElementException" "java/util/NoSuchElementException" :: xdec.map Cond.declares) := by decide +kernel
set_option maxRecDepth 20000 in
theorem xb_X6_308 : ∀ w ∈ (vx_atS RX6 308 "java/lang/IndexOutOfBoundsException" xnms).filter (fun w => !goodWord w), w ∈ (Cond.castable "java/lang/IndexOutOfBoundsException" "java/lang/IndexOutOfBoundsException" :: xdec.map Cond.declares) := by decide +kernel
set_option maxRecDepth 20000 in
theorem xb_X6_317 : ∀ w ∈ (vx_atS RX6 317 "java/lang/IllegalStateException" xnms).filter (fun w => !goodWord w), w ∈ (Cond.castable "java/lang/IllegalStateException" "java/lang/IllegalStateException" :: xdec.map Cond.declares) := by decide +kernel
set_option maxRecDepth 20000 in
theorem xb_X6_83 : ∀ w ∈ (vx_atS RX6 83 "java/lang/IllegalArgumentException" xnms).filter (fun w => !goodWord w), w ∈ (Cond.castable "java/lang/IllegalArgumentException" "java/lang/IllegalArgumentException" :: xdec.map Cond.declares) := by decide +kernel
set_option maxRecDepth 20000 in
theorem xb_X6_93 : ∀ w ∈ (vx_atS RX6 93 "java/lang/UnsupportedOperationException" xnms).filter (fun w => !goodWord w), w ∈ (Cond.castable "java/lang/UnsupportedOperationException" "java/lang/UnsupportedOperationException" :: xdec.map Cond.declares) := by decide +kernel
set_option maxRecDepth 20000 in
theorem xo_X6_245_241 : ∀ w ∈ Cond.classLink RX6 241 "java/util/NoSuchElementException" :: Cond.initialized "java/util/NoSuchElementException" :: vx_atN, vx_ot w = true := by decide +kernel
set_option maxRecDepth 20000 in
theorem xo_X6_308_304 : ∀ w ∈ Cond.classLink RX6 304 "java/lang/IndexOutOfBoundsException" :: Cond.initialized "java/lang/IndexOutOfBoundsException" :: vx_atS RX6 308 "java/lang/IndexOutOfBoundsException" xnms, vx_ot w = true := by decide +kernel
set_option maxRecDepth 20000 in
theorem xo_X6_317_313 : ∀ w ∈ Cond.classLink RX6 313 "java/lang/IllegalStateException" :: Cond.initialized "java/lang/IllegalStateException" :: vx_atS RX6 317 "java/lang/IllegalStateException" xnms, vx_ot w = true := by decide +kernel
set_option maxRecDepth 20000 in
theorem xo_X6_83_79 : ∀ w ∈ Cond.classLink RX6 79 "java/lang/IllegalArgumentException" :: Cond.initialized "java/lang/IllegalArgumentException" :: vx_atS RX6 83 "java/lang/IllegalArgumentException" xnms, vx_ot w = true := by decide +kernel
set_option maxRecDepth 20000 in
theorem xo_X6_93_89 : ∀ w ∈ Cond.classLink RX6 89 "java/lang/UnsupportedOperationException" :: Cond.initialized "java/lang/UnsupportedOperationException" :: vx_atS RX6 93 "java/lang/UnsupportedOperationException" xnms, vx_ot w = true := by decide +kernel
set_option maxRecDepth 20000 in
theorem dv_X0 : ∀ j, j < 8 → defaultValue (tyX0 j) = vp_V [.null, .null, .null, .null, .int 0, .int 0, .int 0, .int 0] j := by decide +kernel
set_option maxRecDepth 20000 in
theorem dv_X1 : ∀ j, j < 5 → defaultValue (tyX1 j) = vp_V [.null, .null, .null, .null, .int 0] j := by decide +kernel
set_option maxRecDepth 20000 in
theorem dv_X2 : ∀ j, j < 3 → defaultValue (tyX2 j) = vp_V [.null, .null, .null] j := by decide +kernel
set_option maxRecDepth 20000 in
theorem dv_X3 : ∀ j, j < 4 → defaultValue (tyX3 j) = vp_V [.null, .null, .int 0, .int 0] j := by decide +kernel
set_option maxRecDepth 20000 in
theorem dv_X4 : ∀ j, j < 7 → defaultValue (tyX4 j) = vp_V [.int 0, .int 0, .int 0, .int 0, .int 0, .int 0, .int 0] j := by decide +kernel
set_option maxRecDepth 20000 in
theorem dv_X5 : ∀ j, j < 2 → defaultValue (tyX5 j) = vp_V [.null, .int 0] j := by decide +kernel
