abbrev rm_X5_init : Room := { frames := 1, cells := 1, slots := 400, locals := 12 }
set_option maxRecDepth 20000 in
theorem w_X5_init_ol3 : Cond.methodLink RX5 3 Lib.objectInit ∈ wsX5_init := by decide +kernel
set_option maxRecDepth 20000 in
theorem w_X5_init_oi : Cond.instanceMethod Lib.objectInit ∈ wsX5_init := by decide +kernel
set_option maxRecDepth 20000 in
theorem w_X5_init_oc : Cond.code Lib.objectInit ⟨#[0xb1]⟩ 1 none ∈ wsX5_init := by decide +kernel
set_option maxRecDepth 20000 in
theorem w_X5_init_acI : Cond.arrayClass .int ∈ wsX5_init := by decide +kernel
set_option maxRecDepth 20000 in
theorem in_X5_init_X5 : ∀ w ∈ wsX50, w ∈ wsX5_init := by decide +kernel
set_option maxRecDepth 20000 in
theorem fl_X5_init_9 : Cond.fieldLink RX5 9 (TX5 0).1 (TX5 0).2.1 (TX5 0).2.2.1 ∈ wsX5_init := by decide +kernel
def F_X5_init (G : Gx) (p0 : Nat) (ws : va_W) (Q : va_W → Prop) : Prop := qNA (gc G 1) 400 ws (fun q1 ws => qP 5 0 p0 (.ref q1) ws (fun ws => Q ws))
set_option maxRecDepth 20000 in
set_option maxHeartbeats 4000000 in
theorem m_X5_init {G : Gx} (hst : (gl G).stackTraces = false) {p0 : Nat} {ws : va_W} {Q : va_W → Prop} (h : F_X5_init G p0 ws Q) : Mt G yX5_init wsX5_init rm_X5_init [.ref p0] ws (QtV G Q) := by
  refine mk_Mi (cc := cX5_init) (nL := 1) (own := RX5) (ret := none) (lv0 := [some (.ref p0)]) hst (by decide) rfl rfl rfl (Nat.le_of_ble_eq_true rfl) rfl ?_
  intro K C F hI
  refine e_aload_n C (x := p0) rfl dX5_init_0 (pc' := 1) rfl ?_
  refine e_objInit C dX5_init_1 (pc' := 4) rfl w_X5_init_ol3 w_X5_init_oi w_X5_init_oc (by decide) (by decide) ?_
  refine e_aload_n C (x := p0) rfl dX5_init_4 (pc' := 5) rfl ?_
  refine e_sipush C (v := (400 : Int32)) (by decide) dX5_init_5 (pc' := 8) rfl ?_
  refine f_newI C (N := 400) dX5_init_8 (pc' := 10) rfl w_X5_init_acI (by decide) (by decide) (by decide) (by decide) (by decide) (cn' := 1) (sn' := 400) rfl rfl h (fun q1 ws h => ?_)
  refine f_putF C hI (ci := 5) (CN := RX5) (TT := TX5) (N := 2) (ty := (.array .int)) 0 tyX5 dX5_init_10 (pc' := 13) rfl in_X5_init_X5 tyX5_ok nmX5 rfl (by decide) fl_X5_init_9 rfl rfl (by decide +kernel) rfl rfl h (fun ws h => ?_)
  exact r_void C F dX5_init_13 (by decide) (by decide) h
abbrev rm_X3_init : Room := { frames := 2, cells := 3, slots := 406, locals := 32 }
set_option maxRecDepth 20000 in
theorem w_X3_init_ol3 : Cond.methodLink RX3 3 Lib.objectInit ∈ wsX3_init := by decide +kernel
set_option maxRecDepth 20000 in
theorem w_X3_init_oi : Cond.instanceMethod Lib.objectInit ∈ wsX3_init := by decide +kernel
set_option maxRecDepth 20000 in
theorem w_X3_init_oc : Cond.code Lib.objectInit ⟨#[0xb1]⟩ 1 none ∈ wsX3_init := by decide +kernel
set_option maxRecDepth 20000 in
theorem w_X3_init_k9 : Cond.classLink RX3 9 RX5 ∈ wsX3_init := by decide +kernel
set_option maxRecDepth 20000 in
theorem w_X3_init_nX5 : Cond.instantiable RX5 2 ∈ wsX3_init := by decide +kernel
set_option maxRecDepth 20000 in
theorem w_X3_init_iniX5 : Cond.initialized RX5 ∈ wsX3_init := by decide +kernel
set_option maxRecDepth 20000 in
theorem in_X3_init_X5 : ∀ w ∈ wsX50, w ∈ wsX3_init := by decide +kernel
set_option maxRecDepth 20000 in
theorem w_X3_init_im_X5_init : Cond.instanceMethod yX5_init ∈ wsX3_init := by decide +kernel
set_option maxRecDepth 20000 in
theorem in_X3_init_X3 : ∀ w ∈ wsX30, w ∈ wsX3_init := by decide +kernel
set_option maxRecDepth 20000 in
theorem fl_X3_init_12 : Cond.fieldLink RX3 12 (TX3 0).1 (TX3 0).2.1 (TX3 0).2.2.1 ∈ wsX3_init := by decide +kernel
set_option maxRecDepth 20000 in
theorem w_X3_init_acI : Cond.arrayClass .int ∈ wsX3_init := by decide +kernel
set_option maxRecDepth 20000 in
theorem fl_X3_init_18 : Cond.fieldLink RX3 18 (TX3 1).1 (TX3 1).2.1 (TX3 1).2.2.1 ∈ wsX3_init := by decide +kernel
def F_X3_init (G : Gx) (p0 : Nat) (ws : va_W) (Q : va_W → Prop) : Prop := qNO 5 [.null, .int 0] ws (fun q1 ws => (qV 5 q1 ws ∧ F_X5_init G q1 ws (fun ws => qP 3 0 p0 (.ref q1) ws (fun ws => qNA (gc G 1) 4 ws (fun q3 ws => qP 3 1 p0 (.ref q3) ws (fun ws => Q ws))))))
set_option maxRecDepth 20000 in
set_option maxHeartbeats 4000000 in
theorem m_X3_init {G : Gx} (hst : (gl G).stackTraces = false) {p0 : Nat} {ws : va_W} {Q : va_W → Prop} (h : F_X3_init G p0 ws Q) : Mt G yX3_init wsX3_init rm_X3_init [.ref p0] ws (QtV G Q) := by
  refine mk_Mi (cc := cX3_init) (nL := 1) (own := RX3) (ret := none) (lv0 := [some (.ref p0)]) hst (by decide) rfl rfl rfl (Nat.le_of_ble_eq_true rfl) rfl ?_
  intro K C F hI
  refine e_aload_n C (x := p0) rfl dX3_init_0 (pc' := 1) rfl ?_
  refine e_objInit C dX3_init_1 (pc' := 4) rfl w_X3_init_ol3 w_X3_init_oi w_X3_init_oc (by decide) (by decide) ?_
  refine e_aload_n C (x := p0) rfl dX3_init_4 (pc' := 5) rfl ?_
  refine f_newO C (ci := 5) (CN := RX5) (TT := TX5) (N := 2) tyX5 dX3_init_5 (pc' := 8) rfl in_X3_init_X5 tyX5_ok w_X3_init_k9 w_X3_init_nX5 w_X3_init_iniX5 rfl dv_X5 (by decide) (by decide) (cn' := 1) (sn' := 2) rfl rfl h (fun q1 ws h => ?_)
  refine e_dup C rfl dX3_init_8 (pc' := 9) rfl ?_
  obtain ⟨hv, h⟩ := h
  refine e_callv (run_IN (n := 0) C (m_X5_init hst h) ggX3_init_X5_init rfl (by decide) w_X3_init_iniX5 rfl w_X3_init_im_X5_init ⟨by decide, by decide, by decide +kernel⟩ ⟨by decide, by decide⟩ rfl (Nat.le_of_ble_eq_true rfl) dX3_init_9 ⟨(by decide), (by decide)⟩ (As := []) rfl) (pc' := 12) rfl (cn' := 2) (sn' := 402) rfl rfl (fun ws h => ?_)
  refine f_putF C hI (ci := 3) (CN := RX3) (TT := TX3) (N := 4) (ty := (.object "DesertChannels$Tape")) 0 tyX3 dX3_init_12 (pc' := 15) rfl in_X3_init_X3 tyX3_ok nmX3 rfl (by decide) fl_X3_init_12 rfl rfl (by decide +kernel) rfl rfl h (fun ws h => ?_)
  refine e_aload_n C (x := p0) rfl dX3_init_15 (pc' := 16) rfl ?_
  refine e_iconst C (v := (4 : Int32)) (by decide) dX3_init_16 (pc' := 17) rfl ?_
  refine f_newI C (N := 4) dX3_init_17 (pc' := 19) rfl w_X3_init_acI (by decide) (by decide) (by decide) (by decide) (by decide) (cn' := 3) (sn' := 406) rfl rfl h (fun q3 ws h => ?_)
  refine f_putF C hI (ci := 3) (CN := RX3) (TT := TX3) (N := 4) (ty := (.array .int)) 1 tyX3 dX3_init_19 (pc' := 22) rfl in_X3_init_X3 tyX3_ok nmX3 rfl (by decide) fl_X3_init_18 rfl rfl (by decide +kernel) rfl rfl h (fun ws h => ?_)
  exact r_void C F dX3_init_22 (by decide) (by decide) h
abbrev rm_X0_init : Room := { frames := 1, cells := 4, slots := 80, locals := 12 }
set_option maxRecDepth 20000 in
theorem w_X0_init_ol3 : Cond.methodLink RX0 3 Lib.objectInit ∈ wsX0_init := by decide +kernel
set_option maxRecDepth 20000 in
theorem w_X0_init_oi : Cond.instanceMethod Lib.objectInit ∈ wsX0_init := by decide +kernel
set_option maxRecDepth 20000 in
theorem w_X0_init_oc : Cond.code Lib.objectInit ⟨#[0xb1]⟩ 1 none ∈ wsX0_init := by decide +kernel
set_option maxRecDepth 20000 in
theorem w_X0_init_acI : Cond.arrayClass .int ∈ wsX0_init := by decide +kernel
set_option maxRecDepth 20000 in
theorem in_X0_init_X0 : ∀ w ∈ wsX00, w ∈ wsX0_init := by decide +kernel
set_option maxRecDepth 20000 in
theorem fl_X0_init_9 : Cond.fieldLink RX0 9 (TX0 0).1 (TX0 0).2.1 (TX0 0).2.2.1 ∈ wsX0_init := by decide +kernel
set_option maxRecDepth 20000 in
theorem fl_X0_init_15 : Cond.fieldLink RX0 15 (TX0 1).1 (TX0 1).2.1 (TX0 1).2.2.1 ∈ wsX0_init := by decide +kernel
set_option maxRecDepth 20000 in
theorem fl_X0_init_18 : Cond.fieldLink RX0 18 (TX0 2).1 (TX0 2).2.1 (TX0 2).2.2.1 ∈ wsX0_init := by decide +kernel
set_option maxRecDepth 20000 in
theorem w_X0_init_acZ : Cond.arrayClass .boolean ∈ wsX0_init := by decide +kernel
set_option maxRecDepth 20000 in
theorem fl_X0_init_21 : Cond.fieldLink RX0 21 (TX0 3).1 (TX0 3).2.1 (TX0 3).2.2.1 ∈ wsX0_init := by decide +kernel
def F_X0_init (G : Gx) (p0 : Nat) (ws : va_W) (Q : va_W → Prop) : Prop := qNA (gc G 1) 20 ws (fun q1 ws => qP 0 0 p0 (.ref q1) ws (fun ws => qNA (gc G 1) 20 ws (fun q2 ws => qP 0 1 p0 (.ref q2) ws (fun ws => qNA (gc G 1) 20 ws (fun q3 ws => qP 0 2 p0 (.ref q3) ws (fun ws => qNA (gc G 2) 20 ws (fun q4 ws => qP 0 3 p0 (.ref q4) ws (fun ws => Q ws))))))))
set_option maxRecDepth 20000 in
set_option maxHeartbeats 4000000 in
theorem m_X0_init {G : Gx} (hst : (gl G).stackTraces = false) {p0 : Nat} {ws : va_W} {Q : va_W → Prop} (h : F_X0_init G p0 ws Q) : Mt G yX0_init wsX0_init rm_X0_init [.ref p0] ws (QtV G Q) := by
  refine mk_Mi (cc := cX0_init) (nL := 1) (own := RX0) (ret := none) (lv0 := [some (.ref p0)]) hst (by decide) rfl rfl rfl (Nat.le_of_ble_eq_true rfl) rfl ?_
  intro K C F hI
  refine e_aload_n C (x := p0) rfl dX0_init_0 (pc' := 1) rfl ?_
  refine e_objInit C dX0_init_1 (pc' := 4) rfl w_X0_init_ol3 w_X0_init_oi w_X0_init_oc (by decide) (by decide) ?_
  refine e_aload_n C (x := p0) rfl dX0_init_4 (pc' := 5) rfl ?_
  refine e_bipush C (v := (20 : Int32)) (by decide) dX0_init_5 (pc' := 7) rfl ?_
  refine f_newI C (N := 20) dX0_init_7 (pc' := 9) rfl w_X0_init_acI (by decide) (by decide) (by decide) (by decide) (by decide) (cn' := 1) (sn' := 20) rfl rfl h (fun q1 ws h => ?_)
  refine f_putF C hI (ci := 0) (CN := RX0) (TT := TX0) (N := 8) (ty := (.array .int)) 0 tyX0 dX0_init_9 (pc' := 12) rfl in_X0_init_X0 tyX0_ok nmX0 rfl (by decide) fl_X0_init_9 rfl rfl (by decide +kernel) rfl rfl h (fun ws h => ?_)
  refine e_aload_n C (x := p0) rfl dX0_init_12 (pc' := 13) rfl ?_
  refine e_bipush C (v := (20 : Int32)) (by decide) dX0_init_13 (pc' := 15) rfl ?_
  refine f_newI C (N := 20) dX0_init_15 (pc' := 17) rfl w_X0_init_acI (by decide) (by decide) (by decide) (by decide) (by decide) (cn' := 2) (sn' := 40) rfl rfl h (fun q2 ws h => ?_)
  refine f_putF C hI (ci := 0) (CN := RX0) (TT := TX0) (N := 8) (ty := (.array .int)) 1 tyX0 dX0_init_17 (pc' := 20) rfl in_X0_init_X0 tyX0_ok nmX0 rfl (by decide) fl_X0_init_15 rfl rfl (by decide +kernel) rfl rfl h (fun ws h => ?_)
  refine e_aload_n C (x := p0) rfl dX0_init_20 (pc' := 21) rfl ?_
  refine e_bipush C (v := (20 : Int32)) (by decide) dX0_init_21 (pc' := 23) rfl ?_
  refine f_newI C (N := 20) dX0_init_23 (pc' := 25) rfl w_X0_init_acI (by decide) (by decide) (by decide) (by decide) (by decide) (cn' := 3) (sn' := 60) rfl rfl h (fun q3 ws h => ?_)
  refine f_putF C hI (ci := 0) (CN := RX0) (TT := TX0) (N := 8) (ty := (.array .int)) 2 tyX0 dX0_init_25 (pc' := 28) rfl in_X0_init_X0 tyX0_ok nmX0 rfl (by decide) fl_X0_init_18 rfl rfl (by decide +kernel) rfl rfl h (fun ws h => ?_)
  refine e_aload_n C (x := p0) rfl dX0_init_28 (pc' := 29) rfl ?_
  refine e_bipush C (v := (20 : Int32)) (by decide) dX0_init_29 (pc' := 31) rfl ?_
  refine f_newZ C (N := 20) dX0_init_31 (pc' := 33) rfl w_X0_init_acZ (by decide) (by decide) (by decide) (by decide) (by decide) (cn' := 4) (sn' := 80) rfl rfl h (fun q4 ws h => ?_)
  refine f_putF C hI (ci := 0) (CN := RX0) (TT := TX0) (N := 8) (ty := (.array .boolean)) 3 tyX0 dX0_init_33 (pc' := 36) rfl in_X0_init_X0 tyX0_ok nmX0 rfl (by decide) fl_X0_init_21 rfl rfl (by decide +kernel) rfl rfl h (fun ws h => ?_)
  exact r_void C F dX0_init_36 (by decide) (by decide) h
abbrev rm_X4_init : Room := { frames := 1, cells := 0, slots := 0, locals := 12 }
set_option maxRecDepth 20000 in
theorem w_X4_init_ol3 : Cond.methodLink RX4 3 Lib.objectInit ∈ wsX4_init := by decide +kernel
set_option maxRecDepth 20000 in
theorem w_X4_init_oi : Cond.instanceMethod Lib.objectInit ∈ wsX4_init := by decide +kernel
set_option maxRecDepth 20000 in
theorem w_X4_init_oc : Cond.code Lib.objectInit ⟨#[0xb1]⟩ 1 none ∈ wsX4_init := by decide +kernel
def F_X4_init (G : Gx) (p0 : Nat) (ws : va_W) (Q : va_W → Prop) : Prop := Q ws
set_option maxRecDepth 20000 in
set_option maxHeartbeats 4000000 in
theorem m_X4_init {G : Gx} (hst : (gl G).stackTraces = false) {p0 : Nat} {ws : va_W} {Q : va_W → Prop} (h : F_X4_init G p0 ws Q) : Mt G yX4_init wsX4_init rm_X4_init [.ref p0] ws (QtV G Q) := by
  refine mk_Mi (cc := cX4_init) (nL := 1) (own := RX4) (ret := none) (lv0 := [some (.ref p0)]) hst (by decide) rfl rfl rfl (Nat.le_of_ble_eq_true rfl) rfl ?_
  intro K C F hI
  refine e_aload_n C (x := p0) rfl dX4_init_0 (pc' := 1) rfl ?_
  refine e_objInit C dX4_init_1 (pc' := 4) rfl w_X4_init_ol3 w_X4_init_oi w_X4_init_oc (by decide) (by decide) ?_
  exact r_void C F dX4_init_4 (by decide) (by decide) h
abbrev rm_X2_init : Room := { frames := 1, cells := 3, slots := 12, locals := 12 }
set_option maxRecDepth 20000 in
theorem w_X2_init_ol3 : Cond.methodLink RX2 3 Lib.objectInit ∈ wsX2_init := by decide +kernel
set_option maxRecDepth 20000 in
theorem w_X2_init_oi : Cond.instanceMethod Lib.objectInit ∈ wsX2_init := by decide +kernel
set_option maxRecDepth 20000 in
theorem w_X2_init_oc : Cond.code Lib.objectInit ⟨#[0xb1]⟩ 1 none ∈ wsX2_init := by decide +kernel
set_option maxRecDepth 20000 in
theorem w_X2_init_acI : Cond.arrayClass .int ∈ wsX2_init := by decide +kernel
set_option maxRecDepth 20000 in
theorem in_X2_init_X2 : ∀ w ∈ wsX20, w ∈ wsX2_init := by decide +kernel
set_option maxRecDepth 20000 in
theorem fl_X2_init_9 : Cond.fieldLink RX2 9 (TX2 0).1 (TX2 0).2.1 (TX2 0).2.2.1 ∈ wsX2_init := by decide +kernel
set_option maxRecDepth 20000 in
theorem fl_X2_init_15 : Cond.fieldLink RX2 15 (TX2 1).1 (TX2 1).2.1 (TX2 1).2.2.1 ∈ wsX2_init := by decide +kernel
set_option maxRecDepth 20000 in
theorem fl_X2_init_18 : Cond.fieldLink RX2 18 (TX2 2).1 (TX2 2).2.1 (TX2 2).2.2.1 ∈ wsX2_init := by decide +kernel
def F_X2_init (G : Gx) (p0 : Nat) (ws : va_W) (Q : va_W → Prop) : Prop := qNA (gc G 1) 4 ws (fun q1 ws => qP 2 0 p0 (.ref q1) ws (fun ws => qNA (gc G 1) 4 ws (fun q2 ws => qP 2 1 p0 (.ref q2) ws (fun ws => qNA (gc G 1) 4 ws (fun q3 ws => qP 2 2 p0 (.ref q3) ws (fun ws => Q ws))))))
set_option maxRecDepth 20000 in
set_option maxHeartbeats 4000000 in
theorem m_X2_init {G : Gx} (hst : (gl G).stackTraces = false) {p0 : Nat} {ws : va_W} {Q : va_W → Prop} (h : F_X2_init G p0 ws Q) : Mt G yX2_init wsX2_init rm_X2_init [.ref p0] ws (QtV G Q) := by
  refine mk_Mi (cc := cX2_init) (nL := 1) (own := RX2) (ret := none) (lv0 := [some (.ref p0)]) hst (by decide) rfl rfl rfl (Nat.le_of_ble_eq_true rfl) rfl ?_
  intro K C F hI
  refine e_aload_n C (x := p0) rfl dX2_init_0 (pc' := 1) rfl ?_
  refine e_objInit C dX2_init_1 (pc' := 4) rfl w_X2_init_ol3 w_X2_init_oi w_X2_init_oc (by decide) (by decide) ?_
  refine e_aload_n C (x := p0) rfl dX2_init_4 (pc' := 5) rfl ?_
  refine e_iconst C (v := (4 : Int32)) (by decide) dX2_init_5 (pc' := 6) rfl ?_
  refine f_newI C (N := 4) dX2_init_6 (pc' := 8) rfl w_X2_init_acI (by decide) (by decide) (by decide) (by decide) (by decide) (cn' := 1) (sn' := 4) rfl rfl h (fun q1 ws h => ?_)
  refine f_putF C hI (ci := 2) (CN := RX2) (TT := TX2) (N := 3) (ty := (.array .int)) 0 tyX2 dX2_init_8 (pc' := 11) rfl in_X2_init_X2 tyX2_ok nmX2 rfl (by decide) fl_X2_init_9 rfl rfl (by decide +kernel) rfl rfl h (fun ws h => ?_)
  refine e_aload_n C (x := p0) rfl dX2_init_11 (pc' := 12) rfl ?_
  refine e_iconst C (v := (4 : Int32)) (by decide) dX2_init_12 (pc' := 13) rfl ?_
  refine f_newI C (N := 4) dX2_init_13 (pc' := 15) rfl w_X2_init_acI (by decide) (by decide) (by decide) (by decide) (by decide) (cn' := 2) (sn' := 8) rfl rfl h (fun q2 ws h => ?_)
  refine f_putF C hI (ci := 2) (CN := RX2) (TT := TX2) (N := 3) (ty := (.array .int)) 1 tyX2 dX2_init_15 (pc' := 18) rfl in_X2_init_X2 tyX2_ok nmX2 rfl (by decide) fl_X2_init_15 rfl rfl (by decide +kernel) rfl rfl h (fun ws h => ?_)
  refine e_aload_n C (x := p0) rfl dX2_init_18 (pc' := 19) rfl ?_
  refine e_iconst C (v := (4 : Int32)) (by decide) dX2_init_19 (pc' := 20) rfl ?_
  refine f_newI C (N := 4) dX2_init_20 (pc' := 22) rfl w_X2_init_acI (by decide) (by decide) (by decide) (by decide) (by decide) (cn' := 3) (sn' := 12) rfl rfl h (fun q3 ws h => ?_)
  refine f_putF C hI (ci := 2) (CN := RX2) (TT := TX2) (N := 3) (ty := (.array .int)) 2 tyX2 dX2_init_22 (pc' := 25) rfl in_X2_init_X2 tyX2_ok nmX2 rfl (by decide) fl_X2_init_18 rfl rfl (by decide +kernel) rfl rfl h (fun ws h => ?_)
  exact r_void C F dX2_init_25 (by decide) (by decide) h
abbrev rm_X1_init : Room := { frames := 1, cells := 4, slots := 539, locals := 12 }
set_option maxRecDepth 20000 in
theorem w_X1_init_ol3 : Cond.methodLink RX1 3 Lib.objectInit ∈ wsX1_init := by decide +kernel
set_option maxRecDepth 20000 in
theorem w_X1_init_oi : Cond.instanceMethod Lib.objectInit ∈ wsX1_init := by decide +kernel
set_option maxRecDepth 20000 in
theorem w_X1_init_oc : Cond.code Lib.objectInit ⟨#[0xb1]⟩ 1 none ∈ wsX1_init := by decide +kernel
set_option maxRecDepth 20000 in
theorem w_X1_init_acI : Cond.arrayClass .int ∈ wsX1_init := by decide +kernel
set_option maxRecDepth 20000 in
theorem in_X1_init_X1 : ∀ w ∈ wsX10, w ∈ wsX1_init := by decide +kernel
set_option maxRecDepth 20000 in
theorem fl_X1_init_9 : Cond.fieldLink RX1 9 (TX1 0).1 (TX1 0).2.1 (TX1 0).2.2.1 ∈ wsX1_init := by decide +kernel
set_option maxRecDepth 20000 in
theorem fl_X1_init_15 : Cond.fieldLink RX1 15 (TX1 1).1 (TX1 1).2.1 (TX1 1).2.2.1 ∈ wsX1_init := by decide +kernel
set_option maxRecDepth 20000 in
theorem fl_X1_init_18 : Cond.fieldLink RX1 18 (TX1 2).1 (TX1 2).2.1 (TX1 2).2.2.1 ∈ wsX1_init := by decide +kernel
set_option maxRecDepth 20000 in
theorem fl_X1_init_21 : Cond.fieldLink RX1 21 (TX1 3).1 (TX1 3).2.1 (TX1 3).2.2.1 ∈ wsX1_init := by decide +kernel
def F_X1_init (G : Gx) (p0 : Nat) (ws : va_W) (Q : va_W → Prop) : Prop := qNA (gc G 1) 9 ws (fun q1 ws => qP 1 0 p0 (.ref q1) ws (fun ws => qNA (gc G 1) 9 ws (fun q2 ws => qP 1 1 p0 (.ref q2) ws (fun ws => qNA (gc G 1) 9 ws (fun q3 ws => qP 1 2 p0 (.ref q3) ws (fun ws => qNA (gc G 1) 512 ws (fun q4 ws => qP 1 3 p0 (.ref q4) ws (fun ws => Q ws))))))))
set_option maxRecDepth 20000 in
set_option maxHeartbeats 4000000 in
theorem m_X1_init {G : Gx} (hst : (gl G).stackTraces = false) {p0 : Nat} {ws : va_W} {Q : va_W → Prop} (h : F_X1_init G p0 ws Q) : Mt G yX1_init wsX1_init rm_X1_init [.ref p0] ws (QtV G Q) := by
  refine mk_Mi (cc := cX1_init) (nL := 1) (own := RX1) (ret := none) (lv0 := [some (.ref p0)]) hst (by decide) rfl rfl rfl (Nat.le_of_ble_eq_true rfl) rfl ?_
  intro K C F hI
  refine e_aload_n C (x := p0) rfl dX1_init_0 (pc' := 1) rfl ?_
  refine e_objInit C dX1_init_1 (pc' := 4) rfl w_X1_init_ol3 w_X1_init_oi w_X1_init_oc (by decide) (by decide) ?_
  refine e_aload_n C (x := p0) rfl dX1_init_4 (pc' := 5) rfl ?_
  refine e_bipush C (v := (9 : Int32)) (by decide) dX1_init_5 (pc' := 7) rfl ?_
  refine f_newI C (N := 9) dX1_init_7 (pc' := 9) rfl w_X1_init_acI (by decide) (by decide) (by decide) (by decide) (by decide) (cn' := 1) (sn' := 9) rfl rfl h (fun q1 ws h => ?_)
  refine f_putF C hI (ci := 1) (CN := RX1) (TT := TX1) (N := 5) (ty := (.array .int)) 0 tyX1 dX1_init_9 (pc' := 12) rfl in_X1_init_X1 tyX1_ok nmX1 rfl (by decide) fl_X1_init_9 rfl rfl (by decide +kernel) rfl rfl h (fun ws h => ?_)
  refine e_aload_n C (x := p0) rfl dX1_init_12 (pc' := 13) rfl ?_
  refine e_bipush C (v := (9 : Int32)) (by decide) dX1_init_13 (pc' := 15) rfl ?_
  refine f_newI C (N := 9) dX1_init_15 (pc' := 17) rfl w_X1_init_acI (by decide) (by decide) (by decide) (by decide) (by decide) (cn' := 2) (sn' := 18) rfl rfl h (fun q2 ws h => ?_)
  refine f_putF C hI (ci := 1) (CN := RX1) (TT := TX1) (N := 5) (ty := (.array .int)) 1 tyX1 dX1_init_17 (pc' := 20) rfl in_X1_init_X1 tyX1_ok nmX1 rfl (by decide) fl_X1_init_15 rfl rfl (by decide +kernel) rfl rfl h (fun ws h => ?_)
  refine e_aload_n C (x := p0) rfl dX1_init_20 (pc' := 21) rfl ?_
  refine e_bipush C (v := (9 : Int32)) (by decide) dX1_init_21 (pc' := 23) rfl ?_
  refine f_newI C (N := 9) dX1_init_23 (pc' := 25) rfl w_X1_init_acI (by decide) (by decide) (by decide) (by decide) (by decide) (cn' := 3) (sn' := 27) rfl rfl h (fun q3 ws h => ?_)
  refine f_putF C hI (ci := 1) (CN := RX1) (TT := TX1) (N := 5) (ty := (.array .int)) 2 tyX1 dX1_init_25 (pc' := 28) rfl in_X1_init_X1 tyX1_ok nmX1 rfl (by decide) fl_X1_init_18 rfl rfl (by decide +kernel) rfl rfl h (fun ws h => ?_)
  refine e_aload_n C (x := p0) rfl dX1_init_28 (pc' := 29) rfl ?_
  refine e_sipush C (v := (512 : Int32)) (by decide) dX1_init_29 (pc' := 32) rfl ?_
  refine f_newI C (N := 512) dX1_init_32 (pc' := 34) rfl w_X1_init_acI (by decide) (by decide) (by decide) (by decide) (by decide) (cn' := 4) (sn' := 539) rfl rfl h (fun q4 ws h => ?_)
  refine f_putF C hI (ci := 1) (CN := RX1) (TT := TX1) (N := 5) (ty := (.array .int)) 3 tyX1 dX1_init_34 (pc' := 37) rfl in_X1_init_X1 tyX1_ok nmX1 rfl (by decide) fl_X1_init_21 rfl rfl (by decide +kernel) rfl rfl h (fun ws h => ?_)
  exact r_void C F dX1_init_37 (by decide) (by decide) h
abbrev rm_X6_init : Room := { frames := 3, cells := 200, slots := 4000, locals := 52 }
set_option maxRecDepth 20000 in
theorem w_X6_init_ol1 : Cond.methodLink RX6 1 Lib.objectInit ∈ wsX6_init := by decide +kernel
set_option maxRecDepth 20000 in
theorem w_X6_init_oi : Cond.instanceMethod Lib.objectInit ∈ wsX6_init := by decide +kernel
set_option maxRecDepth 20000 in
theorem w_X6_init_oc : Cond.code Lib.objectInit ⟨#[0xb1]⟩ 1 none ∈ wsX6_init := by decide +kernel
set_option maxRecDepth 20000 in
theorem w_X6_init_k7 : Cond.classLink RX6 7 RX3 ∈ wsX6_init := by decide +kernel
set_option maxRecDepth 20000 in
theorem w_X6_init_nX3 : Cond.instantiable RX3 4 ∈ wsX6_init := by decide +kernel
set_option maxRecDepth 20000 in
theorem w_X6_init_iniX3 : Cond.initialized RX3 ∈ wsX6_init := by decide +kernel
set_option maxRecDepth 20000 in
theorem in_X6_init_X3 : ∀ w ∈ wsX30, w ∈ wsX6_init := by decide +kernel
set_option maxRecDepth 20000 in
theorem w_X6_init_im_X3_init : Cond.instanceMethod yX3_init ∈ wsX6_init := by decide +kernel
set_option maxRecDepth 20000 in
theorem in_X6_init_X6 : ∀ w ∈ wsX60, w ∈ wsX6_init := by decide +kernel
set_option maxRecDepth 20000 in
theorem fl_X6_init_10 : Cond.fieldLink RX6 10 (TX6 0).1 (TX6 0).2.1 (TX6 0).2.2.1 ∈ wsX6_init := by decide +kernel
set_option maxRecDepth 20000 in
theorem fl_X6_init_16 : Cond.fieldLink RX6 16 (TX3 0).1 (TX3 0).2.1 (TX3 0).2.2.1 ∈ wsX6_init := by decide +kernel
set_option maxRecDepth 20000 in
theorem fl_X6_init_20 : Cond.fieldLink RX6 20 (TX6 1).1 (TX6 1).2.1 (TX6 1).2.2.1 ∈ wsX6_init := by decide +kernel
set_option maxRecDepth 20000 in
theorem w_X6_init_acI : Cond.arrayClass .int ∈ wsX6_init := by decide +kernel
set_option maxRecDepth 20000 in
theorem fl_X6_init_21 : Cond.fieldLink RX6 21 (TX6 2).1 (TX6 2).2.1 (TX6 2).2.2.1 ∈ wsX6_init := by decide +kernel
set_option maxRecDepth 20000 in
theorem fl_X6_init_25 : Cond.fieldLink RX6 25 (TX6 3).1 (TX6 3).2.1 (TX6 3).2.2.1 ∈ wsX6_init := by decide +kernel
set_option maxRecDepth 20000 in
theorem w_X6_init_k29 : Cond.classLink RX6 29 RX0 ∈ wsX6_init := by decide +kernel
set_option maxRecDepth 20000 in
theorem fl_X6_init_31 : Cond.fieldLink RX6 31 (TX6 4).1 (TX6 4).2.1 (TX6 4).2.2.1 ∈ wsX6_init := by decide +kernel
set_option maxRecDepth 20000 in
theorem fl_X6_init_36 : Cond.fieldLink RX6 36 (TX6 7).1 (TX6 7).2.1 (TX6 7).2.2.1 ∈ wsX6_init := by decide +kernel
set_option maxRecDepth 20000 in
theorem fl_X6_init_39 : Cond.fieldLink RX6 39 (TX6 8).1 (TX6 8).2.1 (TX6 8).2.2.1 ∈ wsX6_init := by decide +kernel
set_option maxRecDepth 20000 in
theorem w_X6_init_k42 : Cond.classLink RX6 42 RX4 ∈ wsX6_init := by decide +kernel
set_option maxRecDepth 20000 in
theorem fl_X6_init_44 : Cond.fieldLink RX6 44 (TX6 10).1 (TX6 10).2.1 (TX6 10).2.2.1 ∈ wsX6_init := by decide +kernel
set_option maxRecDepth 20000 in
theorem w_X6_init_nX0 : Cond.instantiable RX0 8 ∈ wsX6_init := by decide +kernel
set_option maxRecDepth 20000 in
theorem w_X6_init_iniX0 : Cond.initialized RX0 ∈ wsX6_init := by decide +kernel
set_option maxRecDepth 20000 in
theorem in_X6_init_X0 : ∀ w ∈ wsX00, w ∈ wsX6_init := by decide +kernel
set_option maxRecDepth 20000 in
theorem w_X6_init_im_X0_init : Cond.instanceMethod yX0_init ∈ wsX6_init := by decide +kernel
set_option maxRecDepth 20000 in
theorem w_X6_init_k49 : Cond.classLink RX6 49 RX2 ∈ wsX6_init := by decide +kernel
set_option maxRecDepth 20000 in
theorem w_X6_init_nX2 : Cond.instantiable RX2 3 ∈ wsX6_init := by decide +kernel
set_option maxRecDepth 20000 in
theorem w_X6_init_iniX2 : Cond.initialized RX2 ∈ wsX6_init := by decide +kernel
set_option maxRecDepth 20000 in
theorem in_X6_init_X2 : ∀ w ∈ wsX20, w ∈ wsX6_init := by decide +kernel
set_option maxRecDepth 20000 in
theorem w_X6_init_im_X2_init : Cond.instanceMethod yX2_init ∈ wsX6_init := by decide +kernel
set_option maxRecDepth 20000 in
theorem fl_X6_init_52 : Cond.fieldLink RX6 52 (TX6 13).1 (TX6 13).2.1 (TX6 13).2.2.1 ∈ wsX6_init := by decide +kernel
set_option maxRecDepth 20000 in
theorem fl_X6_init_56 : Cond.fieldLink RX6 56 (TX6 14).1 (TX6 14).2.1 (TX6 14).2.2.1 ∈ wsX6_init := by decide +kernel
set_option maxRecDepth 20000 in
theorem w_X6_init_k59 : Cond.classLink RX6 59 RX1 ∈ wsX6_init := by decide +kernel
set_option maxRecDepth 20000 in
theorem w_X6_init_nX1 : Cond.instantiable RX1 5 ∈ wsX6_init := by decide +kernel
set_option maxRecDepth 20000 in
theorem w_X6_init_iniX1 : Cond.initialized RX1 ∈ wsX6_init := by decide +kernel
set_option maxRecDepth 20000 in
theorem in_X6_init_X1 : ∀ w ∈ wsX10, w ∈ wsX6_init := by decide +kernel
set_option maxRecDepth 20000 in
theorem w_X6_init_im_X1_init : Cond.instanceMethod yX1_init ∈ wsX6_init := by decide +kernel
set_option maxRecDepth 20000 in
theorem fl_X6_init_62 : Cond.fieldLink RX6 62 (TX6 15).1 (TX6 15).2.1 (TX6 15).2.2.1 ∈ wsX6_init := by decide +kernel
set_option maxRecDepth 20000 in
theorem w_X6_init_nX4 : Cond.instantiable RX4 7 ∈ wsX6_init := by decide +kernel
set_option maxRecDepth 20000 in
theorem w_X6_init_iniX4 : Cond.initialized RX4 ∈ wsX6_init := by decide +kernel
set_option maxRecDepth 20000 in
theorem in_X6_init_X4 : ∀ w ∈ wsX40, w ∈ wsX6_init := by decide +kernel
set_option maxRecDepth 20000 in
theorem w_X6_init_im_X4_init : Cond.instanceMethod yX4_init ∈ wsX6_init := by decide +kernel
def F_X6_init (G : Gx) (p0 : Nat) (ws : va_W) (Q : va_W → Prop) : Prop := ∀ (J49 : Int32 → Nat → Nat → va_W → Prop), ∀ (J97 : Int32 → Nat → Nat → va_W → Prop), (∀ (x1 : Int32) (cn : Nat) (sn : Nat) (ws : va_W), (((8 : Int32) ≤ x1 → qP 6 7 p0 (.int (500 : Int32)) ws (fun ws => qP 6 8 p0 (.int (2 : Int32)) ws (fun ws => ((cn + 1 ≤ 200 ∧ sn + 60 ≤ 4000) ∧ qNR (gc G 4) 60 ws (fun q7 ws => qP 6 10 p0 (.ref q7) ws (fun ws => J97 (0 : Int32) (cn + 1) (sn + 60) ws)))))) ∧ (¬ (8 : Int32) ≤ x1 → qR 6 4 p0 ws (fun v8 => ((cn + 1 ≤ 200 ∧ sn + 8 ≤ 4000) ∧ qNO 0 [.null, .null, .null, .null, .int 0, .int 0, .int 0, .int 0] ws (fun q9 ws => ((cn + 5 ≤ 200 ∧ sn + 88 ≤ 4000) ∧ (qV 0 q9 ws ∧ F_X0_init G q9 ws (fun ws => qW (gc G 3) 0 v8 x1 q9 ws (fun ws => J49 (x1 + (1 : Int32)) (cn + 5) (sn + 88) ws))))))))) → J49 x1 cn sn ws) → (∀ (x1 : Int32) (cn : Nat) (sn : Nat) (ws : va_W), (((60 : Int32) ≤ x1 → ((cn + 1 ≤ 200 ∧ sn + 3 ≤ 4000) ∧ qNO 2 [.null, .null, .null] ws (fun q11 ws => ((cn + 4 ≤ 200 ∧ sn + 15 ≤ 4000) ∧ (qV 2 q11 ws ∧ F_X2_init G q11 ws (fun ws => qP 6 13 p0 (.ref q11) ws (fun ws => ((cn + 5 ≤ 200 ∧ sn + 46 ≤ 4000) ∧ qNA (gc G 1) 31 ws (fun q13 ws => qP 6 14 p0 (.ref q13) ws (fun ws => ((cn + 6 ≤ 200 ∧ sn + 51 ≤ 4000) ∧ qNO 1 [.null, .null, .null, .null, .int 0] ws (fun q14 ws => ((cn + 10 ≤ 200 ∧ sn + 590 ≤ 4000) ∧ (qV 1 q14 ws ∧ F_X1_init G q14 ws (fun ws => qP 6 15 p0 (.ref q14) ws (fun ws => ((cn + 10 ≤ 200 ∧ sn + 590 ≤ 4000) ∧ Q ws))))))))))))))))) ∧ (¬ (60 : Int32) ≤ x1 → qR 6 10 p0 ws (fun v16 => ((cn + 1 ≤ 200 ∧ sn + 7 ≤ 4000) ∧ qNO 4 [.int 0, .int 0, .int 0, .int 0, .int 0, .int 0, .int 0] ws (fun q17 ws => ((cn + 1 ≤ 200 ∧ sn + 7 ≤ 4000) ∧ (qV 4 q17 ws ∧ F_X4_init G q17 ws (fun ws => qW (gc G 4) 4 v16 x1 q17 ws (fun ws => J97 (x1 + (1 : Int32)) (cn + 1) (sn + 7) ws))))))))) → J97 x1 cn sn ws) → qNO 3 [.null, .null, .int 0, .int 0] ws (fun q1 ws => (qV 3 q1 ws ∧ F_X3_init G q1 ws (fun ws => qP 6 0 p0 (.ref q1) ws (fun ws => qR 6 0 p0 ws (fun v3 => qR 3 0 v3 ws (fun v4 => qP 6 1 p0 (.ref v4) ws (fun ws => qNA (gc G 1) 4 ws (fun q5 ws => qP 6 2 p0 (.ref q5) ws (fun ws => qP 6 3 p0 (.int (-1 : Int32)) ws (fun ws => qNR (gc G 3) 8 ws (fun q6 ws => qP 6 4 p0 (.ref q6) ws (fun ws => J49 (0 : Int32) 6 422 ws))))))))))))
set_option maxRecDepth 20000 in
set_option maxHeartbeats 4000000 in
theorem m_X6_init {G : Gx} (hst : (gl G).stackTraces = false) {p0 : Nat} {ws : va_W} {Q : va_W → Prop} (h : F_X6_init G p0 ws Q) : Mt G yX6_init wsX6_init rm_X6_init [.ref p0] ws (QtV G Q) := by
  refine mk_Mi (cc := cX6_init) (nL := 2) (own := RX6) (ret := none) (lv0 := [some (.ref p0), none]) hst (by decide) rfl rfl rfl (Nat.le_of_ble_eq_true rfl) rfl ?_
  intro K C F hI
  replace h := h (fun x1 cn sn ws => Ev K G 2 cn sn 49 [some (.ref p0), some (.int x1)] [] ws) (fun x1 cn sn ws => Ev K G 2 cn sn 97 [some (.ref p0), some (.int x1)] [] ws)
  replace h := h (by
    intro x1 cn sn ws h
    show Ev K G 2 cn sn 49 [some (.ref p0), some (.int x1)] [] ws
    refine e_iload_n C (x := x1) rfl dX6_init_49 (pc' := 50) rfl ?_
    refine e_bipush C (v := (8 : Int32)) (by decide) dX6_init_50 (pc' := 52) rfl ?_
    refine e_icmp_ge C (tg := 74) dX6_init_52 (by decide) (pc' := 55) rfl (fun hc => ?_) (fun hc => ?_)
    · replace h := h.1 hc
      refine e_aload_n C (x := p0) rfl dX6_init_74 (pc' := 75) rfl ?_
      refine e_sipush C (v := (500 : Int32)) (by decide) dX6_init_75 (pc' := 78) rfl ?_
      refine f_putI C (ci := 6) (CN := RX6) (TT := TX6) (N := 16) 7 tyX6 dX6_init_78 (pc' := 81) rfl in_X6_init_X6 tyX6_ok nmX6 rfl (by decide) fl_X6_init_36 rfl (by decide +kernel) h (fun ws h => ?_)
      refine e_aload_n C (x := p0) rfl dX6_init_81 (pc' := 82) rfl ?_
      refine e_iconst C (v := (2 : Int32)) (by decide) dX6_init_82 (pc' := 83) rfl ?_
      refine f_putI C (ci := 6) (CN := RX6) (TT := TX6) (N := 16) 8 tyX6 dX6_init_83 (pc' := 86) rfl in_X6_init_X6 tyX6_ok nmX6 rfl (by decide) fl_X6_init_39 rfl (by decide +kernel) h (fun ws h => ?_)
      refine e_aload_n C (x := p0) rfl dX6_init_86 (pc' := 87) rfl ?_
      refine e_bipush C (v := (60 : Int32)) (by decide) dX6_init_87 (pc' := 89) rfl ?_
      obtain ⟨⟨l1, l2⟩, h⟩ := h
      refine f_newS C (N := 60) dX6_init_89 (pc' := 92) rfl w_X6_init_k42 (by decide) (by decide) (by decide) l1 l2 (cn' := cn + 1) (sn' := sn + 60) rfl rfl h (fun q7 ws h => ?_)
      refine f_putF C hI (ci := 6) (CN := RX6) (TT := TX6) (N := 16) (ty := (.array (.object "DesertChannels$Share"))) 10 tyX6 dX6_init_92 (pc' := 95) rfl in_X6_init_X6 tyX6_ok nmX6 rfl (by decide) fl_X6_init_44 rfl rfl (by decide +kernel) rfl rfl h (fun ws h => ?_)
      refine e_iconst C (v := (0 : Int32)) (by decide) dX6_init_95 (pc' := 96) rfl ?_
      refine e_istore_n C (by decide) dX6_init_96 (pc' := 97) rfl (lv' := [some (.ref p0), some (.int (0 : Int32))]) rfl ?_
      exact h
    · replace h := h.2 hc
      refine e_aload_n C (x := p0) rfl dX6_init_55 (pc' := 56) rfl ?_
      refine f_getR C (ci := 6) (CN := RX6) (TT := TX6) (N := 16) 4 dX6_init_56 (pc' := 59) rfl in_X6_init_X6 rfl (by decide) fl_X6_init_31 h (fun v8 h => ?_)
      refine e_iload_n C (x := x1) rfl dX6_init_59 (pc' := 60) rfl ?_
      obtain ⟨⟨l1, l2⟩, h⟩ := h
      refine f_newO C (ci := 0) (CN := RX0) (TT := TX0) (N := 8) tyX0 dX6_init_60 (pc' := 63) rfl in_X6_init_X0 tyX0_ok w_X6_init_k29 w_X6_init_nX0 w_X6_init_iniX0 rfl dv_X0 l1 l2 (cn' := cn + 1) (sn' := sn + 8) rfl rfl h (fun q9 ws h => ?_)
      refine e_dup C rfl dX6_init_63 (pc' := 64) rfl ?_
      obtain ⟨⟨l1, l2⟩, h⟩ := h
      obtain ⟨hv, h⟩ := h
      refine e_callv (run_IN (n := 0) C (m_X0_init hst h) ggX6_init_X0_init rfl (by decide) w_X6_init_iniX0 rfl w_X6_init_im_X0_init ⟨by decide, by decide, by decide +kernel⟩ ⟨by decide, by decide⟩ rfl (Nat.le_of_ble_eq_true rfl) dX6_init_64 ⟨l1, l2⟩ (As := []) rfl) (pc' := 67) rfl (cn' := cn + 5) (sn' := sn + 88) rfl rfl (fun ws h => ?_)
      refine f_aastC C dX6_init_67 (pc' := 68) rfl h (fun ws h => ?_)
      refine e_iinc C dX6_init_68 (x := x1) (v := (x1 + (1 : Int32))) rfl rfl (by decide) (pc' := 71) rfl (lv' := [some (.ref p0), some (.int (x1 + (1 : Int32)))]) rfl ?_
      refine e_goto C (tg := 49) dX6_init_71 (by decide) ?_
      exact h)
  replace h := h (by
    intro x1 cn sn ws h
    show Ev K G 2 cn sn 97 [some (.ref p0), some (.int x1)] [] ws
    refine e_iload_n C (x := x1) rfl dX6_init_97 (pc' := 98) rfl ?_
    refine e_bipush C (v := (60 : Int32)) (by decide) dX6_init_98 (pc' := 100) rfl ?_
    refine e_icmp_ge C (tg := 122) dX6_init_100 (by decide) (pc' := 103) rfl (fun hc => ?_) (fun hc => ?_)
    · replace h := h.1 hc
      refine e_aload_n C (x := p0) rfl dX6_init_122 (pc' := 123) rfl ?_
      obtain ⟨⟨l1, l2⟩, h⟩ := h
      refine f_newO C (ci := 2) (CN := RX2) (TT := TX2) (N := 3) tyX2 dX6_init_123 (pc' := 126) rfl in_X6_init_X2 tyX2_ok w_X6_init_k49 w_X6_init_nX2 w_X6_init_iniX2 rfl dv_X2 l1 l2 (cn' := cn + 1) (sn' := sn + 3) rfl rfl h (fun q11 ws h => ?_)
      refine e_dup C rfl dX6_init_126 (pc' := 127) rfl ?_
      obtain ⟨⟨l1, l2⟩, h⟩ := h
      obtain ⟨hv, h⟩ := h
      refine e_callv (run_IN (n := 0) C (m_X2_init hst h) ggX6_init_X2_init rfl (by decide) w_X6_init_iniX2 rfl w_X6_init_im_X2_init ⟨by decide, by decide, by decide +kernel⟩ ⟨by decide, by decide⟩ rfl (Nat.le_of_ble_eq_true rfl) dX6_init_127 ⟨l1, l2⟩ (As := []) rfl) (pc' := 130) rfl (cn' := cn + 4) (sn' := sn + 15) rfl rfl (fun ws h => ?_)
      refine f_putF C hI (ci := 6) (CN := RX6) (TT := TX6) (N := 16) (ty := (.object "DesertChannels$Heirs")) 13 tyX6 dX6_init_130 (pc' := 133) rfl in_X6_init_X6 tyX6_ok nmX6 rfl (by decide) fl_X6_init_52 rfl rfl (by decide +kernel) rfl rfl h (fun ws h => ?_)
      refine e_aload_n C (x := p0) rfl dX6_init_133 (pc' := 134) rfl ?_
      refine e_bipush C (v := (31 : Int32)) (by decide) dX6_init_134 (pc' := 136) rfl ?_
      obtain ⟨⟨l1, l2⟩, h⟩ := h
      refine f_newI C (N := 31) dX6_init_136 (pc' := 138) rfl w_X6_init_acI (by decide) (by decide) (by decide) l1 l2 (cn' := cn + 5) (sn' := sn + 46) rfl rfl h (fun q13 ws h => ?_)
      refine f_putF C hI (ci := 6) (CN := RX6) (TT := TX6) (N := 16) (ty := (.array .int)) 14 tyX6 dX6_init_138 (pc' := 141) rfl in_X6_init_X6 tyX6_ok nmX6 rfl (by decide) fl_X6_init_56 rfl rfl (by decide +kernel) rfl rfl h (fun ws h => ?_)
      refine e_aload_n C (x := p0) rfl dX6_init_141 (pc' := 142) rfl ?_
      obtain ⟨⟨l1, l2⟩, h⟩ := h
      refine f_newO C (ci := 1) (CN := RX1) (TT := TX1) (N := 5) tyX1 dX6_init_142 (pc' := 145) rfl in_X6_init_X1 tyX1_ok w_X6_init_k59 w_X6_init_nX1 w_X6_init_iniX1 rfl dv_X1 l1 l2 (cn' := cn + 6) (sn' := sn + 51) rfl rfl h (fun q14 ws h => ?_)
      refine e_dup C rfl dX6_init_145 (pc' := 146) rfl ?_
      obtain ⟨⟨l1, l2⟩, h⟩ := h
      obtain ⟨hv, h⟩ := h
      refine e_callv (run_IN (n := 0) C (m_X1_init hst h) ggX6_init_X1_init rfl (by decide) w_X6_init_iniX1 rfl w_X6_init_im_X1_init ⟨by decide, by decide, by decide +kernel⟩ ⟨by decide, by decide⟩ rfl (Nat.le_of_ble_eq_true rfl) dX6_init_146 ⟨l1, l2⟩ (As := []) rfl) (pc' := 149) rfl (cn' := cn + 10) (sn' := sn + 590) rfl rfl (fun ws h => ?_)
      refine f_putF C hI (ci := 6) (CN := RX6) (TT := TX6) (N := 16) (ty := (.object "DesertChannels$Fields")) 15 tyX6 dX6_init_149 (pc' := 152) rfl in_X6_init_X6 tyX6_ok nmX6 rfl (by decide) fl_X6_init_62 rfl rfl (by decide +kernel) rfl rfl h (fun ws h => ?_)
      obtain ⟨⟨l1, l2⟩, h⟩ := h
      exact r_void C F dX6_init_152 l1 l2 h
    · replace h := h.2 hc
      refine e_aload_n C (x := p0) rfl dX6_init_103 (pc' := 104) rfl ?_
      refine f_getR C (ci := 6) (CN := RX6) (TT := TX6) (N := 16) 10 dX6_init_104 (pc' := 107) rfl in_X6_init_X6 rfl (by decide) fl_X6_init_44 h (fun v16 h => ?_)
      refine e_iload_n C (x := x1) rfl dX6_init_107 (pc' := 108) rfl ?_
      obtain ⟨⟨l1, l2⟩, h⟩ := h
      refine f_newO C (ci := 4) (CN := RX4) (TT := TX4) (N := 7) tyX4 dX6_init_108 (pc' := 111) rfl in_X6_init_X4 tyX4_ok w_X6_init_k42 w_X6_init_nX4 w_X6_init_iniX4 rfl dv_X4 l1 l2 (cn' := cn + 1) (sn' := sn + 7) rfl rfl h (fun q17 ws h => ?_)
      refine e_dup C rfl dX6_init_111 (pc' := 112) rfl ?_
      obtain ⟨⟨l1, l2⟩, h⟩ := h
      obtain ⟨hv, h⟩ := h
      refine e_callv (run_IN (n := 0) C (m_X4_init hst h) ggX6_init_X4_init rfl (by decide) w_X6_init_iniX4 rfl w_X6_init_im_X4_init ⟨by decide, by decide, by decide +kernel⟩ ⟨by decide, by decide⟩ rfl (Nat.le_of_ble_eq_true rfl) dX6_init_112 ⟨l1, l2⟩ (As := []) rfl) (pc' := 115) rfl (cn' := cn + 1) (sn' := sn + 7) rfl rfl (fun ws h => ?_)
      refine f_aastS C dX6_init_115 (pc' := 116) rfl h (fun ws h => ?_)
      refine e_iinc C dX6_init_116 (x := x1) (v := (x1 + (1 : Int32))) rfl rfl (by decide) (pc' := 119) rfl (lv' := [some (.ref p0), some (.int (x1 + (1 : Int32)))]) rfl ?_
      refine e_goto C (tg := 97) dX6_init_119 (by decide) ?_
      exact h)
  refine e_aload_n C (x := p0) rfl dX6_init_0 (pc' := 1) rfl ?_
  refine e_objInit C dX6_init_1 (pc' := 4) rfl w_X6_init_ol1 w_X6_init_oi w_X6_init_oc (by decide) (by decide) ?_
  refine e_aload_n C (x := p0) rfl dX6_init_4 (pc' := 5) rfl ?_
  refine f_newO C (ci := 3) (CN := RX3) (TT := TX3) (N := 4) tyX3 dX6_init_5 (pc' := 8) rfl in_X6_init_X3 tyX3_ok w_X6_init_k7 w_X6_init_nX3 w_X6_init_iniX3 rfl dv_X3 (by decide) (by decide) (cn' := 1) (sn' := 4) rfl rfl h (fun q1 ws h => ?_)
  refine e_dup C rfl dX6_init_8 (pc' := 9) rfl ?_
  obtain ⟨hv, h⟩ := h
  refine e_callv (run_IN (n := 0) C (m_X3_init hst h) ggX6_init_X3_init rfl (by decide) w_X6_init_iniX3 rfl w_X6_init_im_X3_init ⟨by decide, by decide, by decide +kernel⟩ ⟨by decide, by decide⟩ rfl (Nat.le_of_ble_eq_true rfl) dX6_init_9 ⟨(by decide), (by decide)⟩ (As := []) rfl) (pc' := 12) rfl (cn' := 4) (sn' := 410) rfl rfl (fun ws h => ?_)
  refine f_putF C hI (ci := 6) (CN := RX6) (TT := TX6) (N := 16) (ty := (.object "DesertChannels$LawReader")) 0 tyX6 dX6_init_12 (pc' := 15) rfl in_X6_init_X6 tyX6_ok nmX6 rfl (by decide) fl_X6_init_10 rfl rfl (by decide +kernel) rfl rfl h (fun ws h => ?_)
  refine e_aload_n C (x := p0) rfl dX6_init_15 (pc' := 16) rfl ?_
  refine e_aload_n C (x := p0) rfl dX6_init_16 (pc' := 17) rfl ?_
  refine f_getR C (ci := 6) (CN := RX6) (TT := TX6) (N := 16) 0 dX6_init_17 (pc' := 20) rfl in_X6_init_X6 rfl (by decide) fl_X6_init_10 h (fun v3 h => ?_)
  refine f_getR C (ci := 3) (CN := RX3) (TT := TX3) (N := 4) 0 dX6_init_20 (pc' := 23) rfl in_X6_init_X3 rfl (by decide) fl_X6_init_16 h (fun v4 h => ?_)
  refine f_putF C hI (ci := 6) (CN := RX6) (TT := TX6) (N := 16) (ty := (.object "DesertChannels$Tape")) 1 tyX6 dX6_init_23 (pc' := 26) rfl in_X6_init_X6 tyX6_ok nmX6 rfl (by decide) fl_X6_init_20 rfl rfl (by decide +kernel) rfl rfl h (fun ws h => ?_)
  refine e_aload_n C (x := p0) rfl dX6_init_26 (pc' := 27) rfl ?_
  refine e_iconst C (v := (4 : Int32)) (by decide) dX6_init_27 (pc' := 28) rfl ?_
  refine f_newI C (N := 4) dX6_init_28 (pc' := 30) rfl w_X6_init_acI (by decide) (by decide) (by decide) (by decide) (by decide) (cn' := 5) (sn' := 414) rfl rfl h (fun q5 ws h => ?_)
  refine f_putF C hI (ci := 6) (CN := RX6) (TT := TX6) (N := 16) (ty := (.array .int)) 2 tyX6 dX6_init_30 (pc' := 33) rfl in_X6_init_X6 tyX6_ok nmX6 rfl (by decide) fl_X6_init_21 rfl rfl (by decide +kernel) rfl rfl h (fun ws h => ?_)
  refine e_aload_n C (x := p0) rfl dX6_init_33 (pc' := 34) rfl ?_
  refine e_iconst C (v := (-1 : Int32)) (by decide) dX6_init_34 (pc' := 35) rfl ?_
  refine f_putI C (ci := 6) (CN := RX6) (TT := TX6) (N := 16) 3 tyX6 dX6_init_35 (pc' := 38) rfl in_X6_init_X6 tyX6_ok nmX6 rfl (by decide) fl_X6_init_25 rfl (by decide +kernel) h (fun ws h => ?_)
  refine e_aload_n C (x := p0) rfl dX6_init_38 (pc' := 39) rfl ?_
  refine e_bipush C (v := (8 : Int32)) (by decide) dX6_init_39 (pc' := 41) rfl ?_
  refine f_newC C (N := 8) dX6_init_41 (pc' := 44) rfl w_X6_init_k29 (by decide) (by decide) (by decide) (by decide) (by decide) (cn' := 6) (sn' := 422) rfl rfl h (fun q6 ws h => ?_)
  refine f_putF C hI (ci := 6) (CN := RX6) (TT := TX6) (N := 16) (ty := (.array (.object "DesertChannels$Channel"))) 4 tyX6 dX6_init_44 (pc' := 47) rfl in_X6_init_X6 tyX6_ok nmX6 rfl (by decide) fl_X6_init_31 rfl rfl (by decide +kernel) rfl rfl h (fun ws h => ?_)
  refine e_iconst C (v := (0 : Int32)) (by decide) dX6_init_47 (pc' := 48) rfl ?_
  refine e_istore_n C (by decide) dX6_init_48 (pc' := 49) rfl (lv' := [some (.ref p0), some (.int (0 : Int32))]) rfl ?_
  exact h
abbrev rm_X7_init : Room := { frames := 1, cells := 22, slots := 2095, locals := 12 }
set_option maxRecDepth 20000 in
theorem w_X7_init_ol1 : Cond.methodLink RX7 1 Lib.objectInit ∈ wsX7_init := by decide +kernel
set_option maxRecDepth 20000 in
theorem w_X7_init_oi : Cond.instanceMethod Lib.objectInit ∈ wsX7_init := by decide +kernel
set_option maxRecDepth 20000 in
theorem w_X7_init_oc : Cond.code Lib.objectInit ⟨#[0xb1]⟩ 1 none ∈ wsX7_init := by decide +kernel
set_option maxRecDepth 20000 in
theorem in_X7_init_X7 : ∀ w ∈ wsX70, w ∈ wsX7_init := by decide +kernel
set_option maxRecDepth 20000 in
theorem fl_X7_init_7 : Cond.fieldLink RX7 7 (TX7 1).1 (TX7 1).2.1 (TX7 1).2.2.1 ∈ wsX7_init := by decide +kernel
set_option maxRecDepth 20000 in
theorem fl_X7_init_13 : Cond.fieldLink RX7 13 (TX7 2).1 (TX7 2).2.1 (TX7 2).2.2.1 ∈ wsX7_init := by decide +kernel
set_option maxRecDepth 20000 in
theorem w_X7_init_acI : Cond.arrayClass .int ∈ wsX7_init := by decide +kernel
set_option maxRecDepth 20000 in
theorem fl_X7_init_16 : Cond.fieldLink RX7 16 (TX7 5).1 (TX7 5).2.1 (TX7 5).2.2.1 ∈ wsX7_init := by decide +kernel
set_option maxRecDepth 20000 in
theorem w_X7_init_acZ : Cond.arrayClass .boolean ∈ wsX7_init := by decide +kernel
set_option maxRecDepth 20000 in
theorem fl_X7_init_20 : Cond.fieldLink RX7 20 (TX7 6).1 (TX7 6).2.1 (TX7 6).2.2.1 ∈ wsX7_init := by decide +kernel
set_option maxRecDepth 20000 in
theorem fl_X7_init_24 : Cond.fieldLink RX7 24 (TX7 7).1 (TX7 7).2.1 (TX7 7).2.2.1 ∈ wsX7_init := by decide +kernel
set_option maxRecDepth 20000 in
theorem fl_X7_init_27 : Cond.fieldLink RX7 27 (TX7 8).1 (TX7 8).2.1 (TX7 8).2.2.1 ∈ wsX7_init := by decide +kernel
set_option maxRecDepth 20000 in
theorem fl_X7_init_30 : Cond.fieldLink RX7 30 (TX7 9).1 (TX7 9).2.1 (TX7 9).2.2.1 ∈ wsX7_init := by decide +kernel
set_option maxRecDepth 20000 in
theorem fl_X7_init_33 : Cond.fieldLink RX7 33 (TX7 12).1 (TX7 12).2.1 (TX7 12).2.2.1 ∈ wsX7_init := by decide +kernel
set_option maxRecDepth 20000 in
theorem fl_X7_init_36 : Cond.fieldLink RX7 36 (TX7 13).1 (TX7 13).2.1 (TX7 13).2.2.1 ∈ wsX7_init := by decide +kernel
set_option maxRecDepth 20000 in
theorem fl_X7_init_39 : Cond.fieldLink RX7 39 (TX7 14).1 (TX7 14).2.1 (TX7 14).2.2.1 ∈ wsX7_init := by decide +kernel
set_option maxRecDepth 20000 in
theorem fl_X7_init_42 : Cond.fieldLink RX7 42 (TX7 15).1 (TX7 15).2.1 (TX7 15).2.2.1 ∈ wsX7_init := by decide +kernel
set_option maxRecDepth 20000 in
theorem fl_X7_init_45 : Cond.fieldLink RX7 45 (TX7 16).1 (TX7 16).2.1 (TX7 16).2.2.1 ∈ wsX7_init := by decide +kernel
set_option maxRecDepth 20000 in
theorem fl_X7_init_48 : Cond.fieldLink RX7 48 (TX7 18).1 (TX7 18).2.1 (TX7 18).2.2.1 ∈ wsX7_init := by decide +kernel
set_option maxRecDepth 20000 in
theorem fl_X7_init_51 : Cond.fieldLink RX7 51 (TX7 19).1 (TX7 19).2.1 (TX7 19).2.2.1 ∈ wsX7_init := by decide +kernel
set_option maxRecDepth 20000 in
theorem fl_X7_init_54 : Cond.fieldLink RX7 54 (TX7 20).1 (TX7 20).2.1 (TX7 20).2.2.1 ∈ wsX7_init := by decide +kernel
set_option maxRecDepth 20000 in
theorem fl_X7_init_57 : Cond.fieldLink RX7 57 (TX7 21).1 (TX7 21).2.1 (TX7 21).2.2.1 ∈ wsX7_init := by decide +kernel
set_option maxRecDepth 20000 in
theorem fl_X7_init_60 : Cond.fieldLink RX7 60 (TX7 22).1 (TX7 22).2.1 (TX7 22).2.2.1 ∈ wsX7_init := by decide +kernel
set_option maxRecDepth 20000 in
theorem w_X7_init_acB : Cond.arrayClass .byte ∈ wsX7_init := by decide +kernel
set_option maxRecDepth 20000 in
theorem fl_X7_init_63 : Cond.fieldLink RX7 63 (TX7 23).1 (TX7 23).2.1 (TX7 23).2.2.1 ∈ wsX7_init := by decide +kernel
set_option maxRecDepth 20000 in
theorem fl_X7_init_67 : Cond.fieldLink RX7 67 (TX7 28).1 (TX7 28).2.1 (TX7 28).2.2.1 ∈ wsX7_init := by decide +kernel
set_option maxRecDepth 20000 in
theorem fl_X7_init_70 : Cond.fieldLink RX7 70 (TX7 29).1 (TX7 29).2.1 (TX7 29).2.2.1 ∈ wsX7_init := by decide +kernel
set_option maxRecDepth 20000 in
theorem fl_X7_init_73 : Cond.fieldLink RX7 73 (TX7 30).1 (TX7 30).2.1 (TX7 30).2.2.1 ∈ wsX7_init := by decide +kernel
set_option maxRecDepth 20000 in
theorem fl_X7_init_76 : Cond.fieldLink RX7 76 (TX7 31).1 (TX7 31).2.1 (TX7 31).2.2.1 ∈ wsX7_init := by decide +kernel
set_option maxRecDepth 20000 in
theorem fl_X7_init_79 : Cond.fieldLink RX7 79 (TX7 32).1 (TX7 32).2.1 (TX7 32).2.2.1 ∈ wsX7_init := by decide +kernel
set_option maxRecDepth 20000 in
theorem fl_X7_init_82 : Cond.fieldLink RX7 82 (TX7 33).1 (TX7 33).2.1 (TX7 33).2.2.1 ∈ wsX7_init := by decide +kernel
set_option maxRecDepth 20000 in
theorem fl_X7_init_85 : Cond.fieldLink RX7 85 (TX7 35).1 (TX7 35).2.1 (TX7 35).2.2.1 ∈ wsX7_init := by decide +kernel
def F_X7_init (G : Gx) (p0 : Nat) (ws : va_W) (Q : va_W → Prop) : Prop := qP 7 1 p0 (.int (500 : Int32)) ws (fun ws => qP 7 2 p0 (.int (2 : Int32)) ws (fun ws => qNA (gc G 1) 8 ws (fun q1 ws => qP 7 5 p0 (.ref q1) ws (fun ws => qNA (gc G 2) 8 ws (fun q2 ws => qP 7 6 p0 (.ref q2) ws (fun ws => qNA (gc G 1) 8 ws (fun q3 ws => qP 7 7 p0 (.ref q3) ws (fun ws => qNA (gc G 1) 8 ws (fun q4 ws => qP 7 8 p0 (.ref q4) ws (fun ws => qNA (gc G 1) 8 ws (fun q5 ws => qP 7 9 p0 (.ref q5) ws (fun ws => qNA (gc G 1) 160 ws (fun q6 ws => qP 7 12 p0 (.ref q6) ws (fun ws => qNA (gc G 1) 160 ws (fun q7 ws => qP 7 13 p0 (.ref q7) ws (fun ws => qNA (gc G 1) 160 ws (fun q8 ws => qP 7 14 p0 (.ref q8) ws (fun ws => qNA (gc G 2) 160 ws (fun q9 ws => qP 7 15 p0 (.ref q9) ws (fun ws => qNA (gc G 1) 420 ws (fun q10 ws => qP 7 16 p0 (.ref q10) ws (fun ws => qNA (gc G 1) 4 ws (fun q11 ws => qP 7 18 p0 (.ref q11) ws (fun ws => qNA (gc G 1) 4 ws (fun q12 ws => qP 7 19 p0 (.ref q12) ws (fun ws => qNA (gc G 1) 4 ws (fun q13 ws => qP 7 20 p0 (.ref q13) ws (fun ws => qNA (gc G 1) 4 ws (fun q14 ws => qP 7 21 p0 (.ref q14) ws (fun ws => qNA (gc G 1) 4 ws (fun q15 ws => qP 7 22 p0 (.ref q15) ws (fun ws => qNA (gc G 0) 400 ws (fun q16 ws => qP 7 23 p0 (.ref q16) ws (fun ws => qP 7 28 p0 (.int (-1 : Int32)) ws (fun ws => qNA (gc G 1) 5 ws (fun q17 ws => qP 7 29 p0 (.ref q17) ws (fun ws => qNA (gc G 1) 31 ws (fun q18 ws => qP 7 30 p0 (.ref q18) ws (fun ws => qNA (gc G 1) 9 ws (fun q19 ws => qP 7 31 p0 (.ref q19) ws (fun ws => qNA (gc G 1) 9 ws (fun q20 ws => qP 7 32 p0 (.ref q20) ws (fun ws => qNA (gc G 1) 9 ws (fun q21 ws => qP 7 33 p0 (.ref q21) ws (fun ws => qNA (gc G 1) 512 ws (fun q22 ws => qP 7 35 p0 (.ref q22) ws (fun ws => Q ws)))))))))))))))))))))))))))))))))))))))))))))))
set_option maxRecDepth 20000 in
set_option maxHeartbeats 4000000 in
theorem m_X7_init {G : Gx} (hst : (gl G).stackTraces = false) {p0 : Nat} {ws : va_W} {Q : va_W → Prop} (h : F_X7_init G p0 ws Q) : Mt G yX7_init wsX7_init rm_X7_init [.ref p0] ws (QtV G Q) := by
  refine mk_Mi (cc := cX7_init) (nL := 1) (own := RX7) (ret := none) (lv0 := [some (.ref p0)]) hst (by decide) rfl rfl rfl (Nat.le_of_ble_eq_true rfl) rfl ?_
  intro K C F hI
  refine e_aload_n C (x := p0) rfl dX7_init_0 (pc' := 1) rfl ?_
  refine e_objInit C dX7_init_1 (pc' := 4) rfl w_X7_init_ol1 w_X7_init_oi w_X7_init_oc (by decide) (by decide) ?_
  refine e_aload_n C (x := p0) rfl dX7_init_4 (pc' := 5) rfl ?_
  refine e_sipush C (v := (500 : Int32)) (by decide) dX7_init_5 (pc' := 8) rfl ?_
  refine f_putI C (ci := 7) (CN := RX7) (TT := TX7) (N := 36) 1 tyX7 dX7_init_8 (pc' := 11) rfl in_X7_init_X7 tyX7_ok nmX7 rfl (by decide) fl_X7_init_7 rfl (by decide +kernel) h (fun ws h => ?_)
  refine e_aload_n C (x := p0) rfl dX7_init_11 (pc' := 12) rfl ?_
  refine e_iconst C (v := (2 : Int32)) (by decide) dX7_init_12 (pc' := 13) rfl ?_
  refine f_putI C (ci := 7) (CN := RX7) (TT := TX7) (N := 36) 2 tyX7 dX7_init_13 (pc' := 16) rfl in_X7_init_X7 tyX7_ok nmX7 rfl (by decide) fl_X7_init_13 rfl (by decide +kernel) h (fun ws h => ?_)
  refine e_aload_n C (x := p0) rfl dX7_init_16 (pc' := 17) rfl ?_
  refine e_bipush C (v := (8 : Int32)) (by decide) dX7_init_17 (pc' := 19) rfl ?_
  refine f_newI C (N := 8) dX7_init_19 (pc' := 21) rfl w_X7_init_acI (by decide) (by decide) (by decide) (by decide) (by decide) (cn' := 1) (sn' := 8) rfl rfl h (fun q1 ws h => ?_)
  refine f_putF C hI (ci := 7) (CN := RX7) (TT := TX7) (N := 36) (ty := (.array .int)) 5 tyX7 dX7_init_21 (pc' := 24) rfl in_X7_init_X7 tyX7_ok nmX7 rfl (by decide) fl_X7_init_16 rfl rfl (by decide +kernel) rfl rfl h (fun ws h => ?_)
  refine e_aload_n C (x := p0) rfl dX7_init_24 (pc' := 25) rfl ?_
  refine e_bipush C (v := (8 : Int32)) (by decide) dX7_init_25 (pc' := 27) rfl ?_
  refine f_newZ C (N := 8) dX7_init_27 (pc' := 29) rfl w_X7_init_acZ (by decide) (by decide) (by decide) (by decide) (by decide) (cn' := 2) (sn' := 16) rfl rfl h (fun q2 ws h => ?_)
  refine f_putF C hI (ci := 7) (CN := RX7) (TT := TX7) (N := 36) (ty := (.array .boolean)) 6 tyX7 dX7_init_29 (pc' := 32) rfl in_X7_init_X7 tyX7_ok nmX7 rfl (by decide) fl_X7_init_20 rfl rfl (by decide +kernel) rfl rfl h (fun ws h => ?_)
  refine e_aload_n C (x := p0) rfl dX7_init_32 (pc' := 33) rfl ?_
  refine e_bipush C (v := (8 : Int32)) (by decide) dX7_init_33 (pc' := 35) rfl ?_
  refine f_newI C (N := 8) dX7_init_35 (pc' := 37) rfl w_X7_init_acI (by decide) (by decide) (by decide) (by decide) (by decide) (cn' := 3) (sn' := 24) rfl rfl h (fun q3 ws h => ?_)
  refine f_putF C hI (ci := 7) (CN := RX7) (TT := TX7) (N := 36) (ty := (.array .int)) 7 tyX7 dX7_init_37 (pc' := 40) rfl in_X7_init_X7 tyX7_ok nmX7 rfl (by decide) fl_X7_init_24 rfl rfl (by decide +kernel) rfl rfl h (fun ws h => ?_)
  refine e_aload_n C (x := p0) rfl dX7_init_40 (pc' := 41) rfl ?_
  refine e_bipush C (v := (8 : Int32)) (by decide) dX7_init_41 (pc' := 43) rfl ?_
  refine f_newI C (N := 8) dX7_init_43 (pc' := 45) rfl w_X7_init_acI (by decide) (by decide) (by decide) (by decide) (by decide) (cn' := 4) (sn' := 32) rfl rfl h (fun q4 ws h => ?_)
  refine f_putF C hI (ci := 7) (CN := RX7) (TT := TX7) (N := 36) (ty := (.array .int)) 8 tyX7 dX7_init_45 (pc' := 48) rfl in_X7_init_X7 tyX7_ok nmX7 rfl (by decide) fl_X7_init_27 rfl rfl (by decide +kernel) rfl rfl h (fun ws h => ?_)
  refine e_aload_n C (x := p0) rfl dX7_init_48 (pc' := 49) rfl ?_
  refine e_bipush C (v := (8 : Int32)) (by decide) dX7_init_49 (pc' := 51) rfl ?_
  refine f_newI C (N := 8) dX7_init_51 (pc' := 53) rfl w_X7_init_acI (by decide) (by decide) (by decide) (by decide) (by decide) (cn' := 5) (sn' := 40) rfl rfl h (fun q5 ws h => ?_)
  refine f_putF C hI (ci := 7) (CN := RX7) (TT := TX7) (N := 36) (ty := (.array .int)) 9 tyX7 dX7_init_53 (pc' := 56) rfl in_X7_init_X7 tyX7_ok nmX7 rfl (by decide) fl_X7_init_30 rfl rfl (by decide +kernel) rfl rfl h (fun ws h => ?_)
  refine e_aload_n C (x := p0) rfl dX7_init_56 (pc' := 57) rfl ?_
  refine e_sipush C (v := (160 : Int32)) (by decide) dX7_init_57 (pc' := 60) rfl ?_
  refine f_newI C (N := 160) dX7_init_60 (pc' := 62) rfl w_X7_init_acI (by decide) (by decide) (by decide) (by decide) (by decide) (cn' := 6) (sn' := 200) rfl rfl h (fun q6 ws h => ?_)
  refine f_putF C hI (ci := 7) (CN := RX7) (TT := TX7) (N := 36) (ty := (.array .int)) 12 tyX7 dX7_init_62 (pc' := 65) rfl in_X7_init_X7 tyX7_ok nmX7 rfl (by decide) fl_X7_init_33 rfl rfl (by decide +kernel) rfl rfl h (fun ws h => ?_)
  refine e_aload_n C (x := p0) rfl dX7_init_65 (pc' := 66) rfl ?_
  refine e_sipush C (v := (160 : Int32)) (by decide) dX7_init_66 (pc' := 69) rfl ?_
  refine f_newI C (N := 160) dX7_init_69 (pc' := 71) rfl w_X7_init_acI (by decide) (by decide) (by decide) (by decide) (by decide) (cn' := 7) (sn' := 360) rfl rfl h (fun q7 ws h => ?_)
  refine f_putF C hI (ci := 7) (CN := RX7) (TT := TX7) (N := 36) (ty := (.array .int)) 13 tyX7 dX7_init_71 (pc' := 74) rfl in_X7_init_X7 tyX7_ok nmX7 rfl (by decide) fl_X7_init_36 rfl rfl (by decide +kernel) rfl rfl h (fun ws h => ?_)
  refine e_aload_n C (x := p0) rfl dX7_init_74 (pc' := 75) rfl ?_
  refine e_sipush C (v := (160 : Int32)) (by decide) dX7_init_75 (pc' := 78) rfl ?_
  refine f_newI C (N := 160) dX7_init_78 (pc' := 80) rfl w_X7_init_acI (by decide) (by decide) (by decide) (by decide) (by decide) (cn' := 8) (sn' := 520) rfl rfl h (fun q8 ws h => ?_)
  refine f_putF C hI (ci := 7) (CN := RX7) (TT := TX7) (N := 36) (ty := (.array .int)) 14 tyX7 dX7_init_80 (pc' := 83) rfl in_X7_init_X7 tyX7_ok nmX7 rfl (by decide) fl_X7_init_39 rfl rfl (by decide +kernel) rfl rfl h (fun ws h => ?_)
  refine e_aload_n C (x := p0) rfl dX7_init_83 (pc' := 84) rfl ?_
  refine e_sipush C (v := (160 : Int32)) (by decide) dX7_init_84 (pc' := 87) rfl ?_
  refine f_newZ C (N := 160) dX7_init_87 (pc' := 89) rfl w_X7_init_acZ (by decide) (by decide) (by decide) (by decide) (by decide) (cn' := 9) (sn' := 680) rfl rfl h (fun q9 ws h => ?_)
  refine f_putF C hI (ci := 7) (CN := RX7) (TT := TX7) (N := 36) (ty := (.array .boolean)) 15 tyX7 dX7_init_89 (pc' := 92) rfl in_X7_init_X7 tyX7_ok nmX7 rfl (by decide) fl_X7_init_42 rfl rfl (by decide +kernel) rfl rfl h (fun ws h => ?_)
  refine e_aload_n C (x := p0) rfl dX7_init_92 (pc' := 93) rfl ?_
  refine e_sipush C (v := (420 : Int32)) (by decide) dX7_init_93 (pc' := 96) rfl ?_
  refine f_newI C (N := 420) dX7_init_96 (pc' := 98) rfl w_X7_init_acI (by decide) (by decide) (by decide) (by decide) (by decide) (cn' := 10) (sn' := 1100) rfl rfl h (fun q10 ws h => ?_)
  refine f_putF C hI (ci := 7) (CN := RX7) (TT := TX7) (N := 36) (ty := (.array .int)) 16 tyX7 dX7_init_98 (pc' := 101) rfl in_X7_init_X7 tyX7_ok nmX7 rfl (by decide) fl_X7_init_45 rfl rfl (by decide +kernel) rfl rfl h (fun ws h => ?_)
  refine e_aload_n C (x := p0) rfl dX7_init_101 (pc' := 102) rfl ?_
  refine e_iconst C (v := (4 : Int32)) (by decide) dX7_init_102 (pc' := 103) rfl ?_
  refine f_newI C (N := 4) dX7_init_103 (pc' := 105) rfl w_X7_init_acI (by decide) (by decide) (by decide) (by decide) (by decide) (cn' := 11) (sn' := 1104) rfl rfl h (fun q11 ws h => ?_)
  refine f_putF C hI (ci := 7) (CN := RX7) (TT := TX7) (N := 36) (ty := (.array .int)) 18 tyX7 dX7_init_105 (pc' := 108) rfl in_X7_init_X7 tyX7_ok nmX7 rfl (by decide) fl_X7_init_48 rfl rfl (by decide +kernel) rfl rfl h (fun ws h => ?_)
  refine e_aload_n C (x := p0) rfl dX7_init_108 (pc' := 109) rfl ?_
  refine e_iconst C (v := (4 : Int32)) (by decide) dX7_init_109 (pc' := 110) rfl ?_
  refine f_newI C (N := 4) dX7_init_110 (pc' := 112) rfl w_X7_init_acI (by decide) (by decide) (by decide) (by decide) (by decide) (cn' := 12) (sn' := 1108) rfl rfl h (fun q12 ws h => ?_)
  refine f_putF C hI (ci := 7) (CN := RX7) (TT := TX7) (N := 36) (ty := (.array .int)) 19 tyX7 dX7_init_112 (pc' := 115) rfl in_X7_init_X7 tyX7_ok nmX7 rfl (by decide) fl_X7_init_51 rfl rfl (by decide +kernel) rfl rfl h (fun ws h => ?_)
  refine e_aload_n C (x := p0) rfl dX7_init_115 (pc' := 116) rfl ?_
  refine e_iconst C (v := (4 : Int32)) (by decide) dX7_init_116 (pc' := 117) rfl ?_
  refine f_newI C (N := 4) dX7_init_117 (pc' := 119) rfl w_X7_init_acI (by decide) (by decide) (by decide) (by decide) (by decide) (cn' := 13) (sn' := 1112) rfl rfl h (fun q13 ws h => ?_)
  refine f_putF C hI (ci := 7) (CN := RX7) (TT := TX7) (N := 36) (ty := (.array .int)) 20 tyX7 dX7_init_119 (pc' := 122) rfl in_X7_init_X7 tyX7_ok nmX7 rfl (by decide) fl_X7_init_54 rfl rfl (by decide +kernel) rfl rfl h (fun ws h => ?_)
  refine e_aload_n C (x := p0) rfl dX7_init_122 (pc' := 123) rfl ?_
  refine e_iconst C (v := (4 : Int32)) (by decide) dX7_init_123 (pc' := 124) rfl ?_
  refine f_newI C (N := 4) dX7_init_124 (pc' := 126) rfl w_X7_init_acI (by decide) (by decide) (by decide) (by decide) (by decide) (cn' := 14) (sn' := 1116) rfl rfl h (fun q14 ws h => ?_)
  refine f_putF C hI (ci := 7) (CN := RX7) (TT := TX7) (N := 36) (ty := (.array .int)) 21 tyX7 dX7_init_126 (pc' := 129) rfl in_X7_init_X7 tyX7_ok nmX7 rfl (by decide) fl_X7_init_57 rfl rfl (by decide +kernel) rfl rfl h (fun ws h => ?_)
  refine e_aload_n C (x := p0) rfl dX7_init_129 (pc' := 130) rfl ?_
  refine e_iconst C (v := (4 : Int32)) (by decide) dX7_init_130 (pc' := 131) rfl ?_
  refine f_newI C (N := 4) dX7_init_131 (pc' := 133) rfl w_X7_init_acI (by decide) (by decide) (by decide) (by decide) (by decide) (cn' := 15) (sn' := 1120) rfl rfl h (fun q15 ws h => ?_)
  refine f_putF C hI (ci := 7) (CN := RX7) (TT := TX7) (N := 36) (ty := (.array .int)) 22 tyX7 dX7_init_133 (pc' := 136) rfl in_X7_init_X7 tyX7_ok nmX7 rfl (by decide) fl_X7_init_60 rfl rfl (by decide +kernel) rfl rfl h (fun ws h => ?_)
  refine e_aload_n C (x := p0) rfl dX7_init_136 (pc' := 137) rfl ?_
  refine e_sipush C (v := (400 : Int32)) (by decide) dX7_init_137 (pc' := 140) rfl ?_
  refine f_newB C (N := 400) dX7_init_140 (pc' := 142) rfl w_X7_init_acB (by decide) (by decide) (by decide) (by decide) (by decide) (cn' := 16) (sn' := 1520) rfl rfl h (fun q16 ws h => ?_)
  refine f_putF C hI (ci := 7) (CN := RX7) (TT := TX7) (N := 36) (ty := (.array .byte)) 23 tyX7 dX7_init_142 (pc' := 145) rfl in_X7_init_X7 tyX7_ok nmX7 rfl (by decide) fl_X7_init_63 rfl rfl (by decide +kernel) rfl rfl h (fun ws h => ?_)
  refine e_aload_n C (x := p0) rfl dX7_init_145 (pc' := 146) rfl ?_
  refine e_iconst C (v := (-1 : Int32)) (by decide) dX7_init_146 (pc' := 147) rfl ?_
  refine f_putI C (ci := 7) (CN := RX7) (TT := TX7) (N := 36) 28 tyX7 dX7_init_147 (pc' := 150) rfl in_X7_init_X7 tyX7_ok nmX7 rfl (by decide) fl_X7_init_67 rfl (by decide +kernel) h (fun ws h => ?_)
  refine e_aload_n C (x := p0) rfl dX7_init_150 (pc' := 151) rfl ?_
  refine e_iconst C (v := (5 : Int32)) (by decide) dX7_init_151 (pc' := 152) rfl ?_
  refine f_newI C (N := 5) dX7_init_152 (pc' := 154) rfl w_X7_init_acI (by decide) (by decide) (by decide) (by decide) (by decide) (cn' := 17) (sn' := 1525) rfl rfl h (fun q17 ws h => ?_)
  refine f_putF C hI (ci := 7) (CN := RX7) (TT := TX7) (N := 36) (ty := (.array .int)) 29 tyX7 dX7_init_154 (pc' := 157) rfl in_X7_init_X7 tyX7_ok nmX7 rfl (by decide) fl_X7_init_70 rfl rfl (by decide +kernel) rfl rfl h (fun ws h => ?_)
  refine e_aload_n C (x := p0) rfl dX7_init_157 (pc' := 158) rfl ?_
  refine e_bipush C (v := (31 : Int32)) (by decide) dX7_init_158 (pc' := 160) rfl ?_
  refine f_newI C (N := 31) dX7_init_160 (pc' := 162) rfl w_X7_init_acI (by decide) (by decide) (by decide) (by decide) (by decide) (cn' := 18) (sn' := 1556) rfl rfl h (fun q18 ws h => ?_)
  refine f_putF C hI (ci := 7) (CN := RX7) (TT := TX7) (N := 36) (ty := (.array .int)) 30 tyX7 dX7_init_162 (pc' := 165) rfl in_X7_init_X7 tyX7_ok nmX7 rfl (by decide) fl_X7_init_73 rfl rfl (by decide +kernel) rfl rfl h (fun ws h => ?_)
  refine e_aload_n C (x := p0) rfl dX7_init_165 (pc' := 166) rfl ?_
  refine e_bipush C (v := (9 : Int32)) (by decide) dX7_init_166 (pc' := 168) rfl ?_
  refine f_newI C (N := 9) dX7_init_168 (pc' := 170) rfl w_X7_init_acI (by decide) (by decide) (by decide) (by decide) (by decide) (cn' := 19) (sn' := 1565) rfl rfl h (fun q19 ws h => ?_)
  refine f_putF C hI (ci := 7) (CN := RX7) (TT := TX7) (N := 36) (ty := (.array .int)) 31 tyX7 dX7_init_170 (pc' := 173) rfl in_X7_init_X7 tyX7_ok nmX7 rfl (by decide) fl_X7_init_76 rfl rfl (by decide +kernel) rfl rfl h (fun ws h => ?_)
  refine e_aload_n C (x := p0) rfl dX7_init_173 (pc' := 174) rfl ?_
  refine e_bipush C (v := (9 : Int32)) (by decide) dX7_init_174 (pc' := 176) rfl ?_
  refine f_newI C (N := 9) dX7_init_176 (pc' := 178) rfl w_X7_init_acI (by decide) (by decide) (by decide) (by decide) (by decide) (cn' := 20) (sn' := 1574) rfl rfl h (fun q20 ws h => ?_)
  refine f_putF C hI (ci := 7) (CN := RX7) (TT := TX7) (N := 36) (ty := (.array .int)) 32 tyX7 dX7_init_178 (pc' := 181) rfl in_X7_init_X7 tyX7_ok nmX7 rfl (by decide) fl_X7_init_79 rfl rfl (by decide +kernel) rfl rfl h (fun ws h => ?_)
  refine e_aload_n C (x := p0) rfl dX7_init_181 (pc' := 182) rfl ?_
  refine e_bipush C (v := (9 : Int32)) (by decide) dX7_init_182 (pc' := 184) rfl ?_
  refine f_newI C (N := 9) dX7_init_184 (pc' := 186) rfl w_X7_init_acI (by decide) (by decide) (by decide) (by decide) (by decide) (cn' := 21) (sn' := 1583) rfl rfl h (fun q21 ws h => ?_)
  refine f_putF C hI (ci := 7) (CN := RX7) (TT := TX7) (N := 36) (ty := (.array .int)) 33 tyX7 dX7_init_186 (pc' := 189) rfl in_X7_init_X7 tyX7_ok nmX7 rfl (by decide) fl_X7_init_82 rfl rfl (by decide +kernel) rfl rfl h (fun ws h => ?_)
  refine e_aload_n C (x := p0) rfl dX7_init_189 (pc' := 190) rfl ?_
  refine e_sipush C (v := (512 : Int32)) (by decide) dX7_init_190 (pc' := 193) rfl ?_
  refine f_newI C (N := 512) dX7_init_193 (pc' := 195) rfl w_X7_init_acI (by decide) (by decide) (by decide) (by decide) (by decide) (cn' := 22) (sn' := 2095) rfl rfl h (fun q22 ws h => ?_)
  refine f_putF C hI (ci := 7) (CN := RX7) (TT := TX7) (N := 36) (ty := (.array .int)) 35 tyX7 dX7_init_195 (pc' := 198) rfl in_X7_init_X7 tyX7_ok nmX7 rfl (by decide) fl_X7_init_85 rfl rfl (by decide +kernel) rfl rfl h (fun ws h => ?_)
  exact r_void C F dX7_init_198 (by decide) (by decide) h
