set_option maxRecDepth 20000 in
theorem xb_X6_245 : ∀ w ∈ (vx_atS RX6 245 "java/util/NoSuchElementException" xnms).filter (fun w => !goodWord w), w ∈ (Cond.castable "java/util/NoSuchElementException" "java/util/NoSuchElementException" :: xdec.map Cond.declares) := by decide +kernel
set_option maxRecDepth 20000 in
theorem xb_X6_308 : ∀ w ∈ (vx_atS RX6 308 "java/lang/IndexOutOfBoundsException" xnms).filter (fun w => !goodWord w), w ∈ (Cond.castable "java/lang/IndexOutOfBoundsException" "java/lang/IndexOutOfBoundsException" :: xdec.map Cond.declares) := by decide +kernel
set_option maxRecDepth 20000 in
theorem xb_X6_317 : ∀ w ∈ (vx_atS RX6 317 "java/lang/IllegalStateException" xnms).filter (fun w => !goodWord w), w ∈ (Cond.castable "java/lang/IllegalStateException" "java/lang/IllegalStateException" :: xdec.map Cond.declares) := by decide +kernel
set_option maxRecDepth 20000 in
theorem xb_X6_83 : ∀ w ∈ (vx_atS RX6 83 "java/lang/IllegalArgumentException" xnms).filter (fun w => !goodWord w), w ∈ (Cond.castable "java/lang/IllegalArgumentException" "java/lang/IllegalArgumentException" :: xdec.map Cond.declares) := by decide +kernel
set_option maxRecDepth 20000 in
theorem xb_X6_93 : ∀ w ∈ (vx_atS RX6 93 "java/lang/UnsupportedOperationException" xnms).filter (fun w => !goodWord w), w ∈ (Cond.castable "java/lang/UnsupportedOperationException" "java/lang/UnsupportedOperationException" :: xdec.map Cond.declares) := by decide +kernel
set_option maxRecDepth 20000 in
theorem xo_X6_245_241 : ∀ w ∈ Cond.classLink RX6 241 "java/util/NoSuchElementException" :: Cond.initialized "java/util/NoSuchElementException" :: vx_atS RX6 245 "java/util/NoSuchElementException" xnms, vx_ot w = true := by decide +kernel
set_option maxRecDepth 20000 in
theorem xo_X6_308_304 : ∀ w ∈ Cond.classLink RX6 304 "java/lang/IndexOutOfBoundsException" :: Cond.initialized "java/lang/IndexOutOfBoundsException" :: vx_atS RX6 308 "java/lang/IndexOutOfBoundsException" xnms, vx_ot w = true := by decide +kernel
set_option maxRecDepth 20000 in
theorem xo_X6_317_313 : ∀ w ∈ Cond.classLink RX6 313 "java/lang/IllegalStateException" :: Cond.initialized "java/lang/IllegalStateException" :: vx_atS RX6 317 "java/lang/IllegalStateException" xnms, vx_ot w = true := by decide +kernel
set_option maxRecDepth 20000 in
theorem xo_X6_83_79 : ∀ w ∈ Cond.classLink RX6 79 "java/lang/IllegalArgumentException" :: Cond.initialized "java/lang/IllegalArgumentException" :: vx_atS RX6 83 "java/lang/IllegalArgumentException" xnms, vx_ot w = true := by decide +kernel
set_option maxRecDepth 20000 in
theorem xo_X6_93_89 : ∀ w ∈ Cond.classLink RX6 89 "java/lang/UnsupportedOperationException" :: Cond.initialized "java/lang/UnsupportedOperationException" :: vx_atS RX6 93 "java/lang/UnsupportedOperationException" xnms, vx_ot w = true := by decide +kernel
