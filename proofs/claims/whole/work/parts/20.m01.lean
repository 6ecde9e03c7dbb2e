abbrev rm_X6_years : Room := { frames := 6, cells := 1, slots := 6, locals := 82 }
set_option maxRecDepth 20000 in
theorem in_X6_years_X6 : ∀ w ∈ wsX60, w ∈ wsX6_years := by decide +kernel
set_option maxRecDepth 20000 in
theorem fl_X6_years_129 : Cond.fieldLink RX6 129 (TX6 9).1 (TX6 9).2.1 (TX6 9).2.2.1 ∈ wsX6_years := by decide +kernel
set_option maxRecDepth 20000 in
theorem w_X6_years_k79 : Cond.classLink RX6 79 "java/lang/IllegalArgumentException" ∈ wsX6_years := by decide +kernel
set_option maxRecDepth 20000 in
theorem w_X6_years_i79 : Cond.initialized "java/lang/IllegalArgumentException" ∈ wsX6_years := by decide +kernel
set_option maxRecDepth 20000 in
theorem gw_X6_years_83 : ∀ w ∈ (vx_atS RX6 83 "java/lang/IllegalArgumentException" xnms).filter goodWord, w ∈ wsX6_years := by decide +kernel
def F_X6_years (G : Gx) (p0 : Nat) (p1 : Int32) (ws : va_W) (Q : Int32 → va_W → Prop) (X : String → va_W → Prop) : Prop := (F_X6_isWithin G p1 (0 : Int32) (100 : Int32) ws (fun v1 ws => ((¬ v1 = 0 → qI 6 9 p0 ws (fun v2 => qP 6 9 p0 (.int (v2 + p1)) ws (fun ws => qI 6 9 p0 ws (fun v3 => Q v3 ws)))) ∧ (v1 = 0 → X "java/lang/IllegalArgumentException" ws))))
set_option maxRecDepth 20000 in
set_option maxHeartbeats 4000000 in
theorem m_X6_years {G : Gx} (hst : (gl G).stackTraces = false) {p0 : Nat} {p1 : Int32} {ws : va_W} {Q : Int32 → va_W → Prop} {X : String → va_W → Prop} (h : F_X6_years G p0 p1 ws Q X) : Xt G yX6_years wsX6_years rm_X6_years [.ref p0, .int p1] ws (QtI G Q) X := by
  refine mk_Xt (cc := cX6_years) (nL := 2) (own := RX6) (ret := (some .int)) (lv0 := [some (.ref p0), some (.int p1)]) hst (by decide) rfl rfl (Nat.le_of_ble_eq_true rfl) rfl ?_
  intro K C F
  refine e_iload_n C (x := p1) rfl dX6_years_0 (pc' := 1) rfl ?_
  refine e_iconst C (v := (0 : Int32)) (by decide) dX6_years_1 (pc' := 2) rfl ?_
  refine e_bipush C (v := (100 : Int32)) (by decide) dX6_years_2 (pc' := 4) rfl ?_
  refine e_calli (run_S (n := 3) C (m_X6_isWithin hst h) gX6_years_X6_isWithin rfl ⟨rfl, by decide, by decide, by decide +kernel⟩ ⟨by decide, by decide⟩ rfl (Nat.le_of_ble_eq_true rfl) dX6_years_4 ⟨by decide, by decide⟩ (As := [.int p1, .int (0 : Int32), .int (100 : Int32)]) rfl) (pc' := 7) rfl (cn' := 0) (sn' := 0) rfl rfl (fun v1 ws h => ?_)
  refine e_if_ne C (tg := 20) dX6_years_7 (by decide) (pc' := 10) rfl (fun hc => ?_) (fun hc => ?_)
  · replace h := h.1 hc
    refine e_aload_n C (x := p0) rfl dX6_years_20 (pc' := 21) rfl ?_
    refine e_dup C rfl dX6_years_21 (pc' := 22) rfl ?_
    refine f_getI C (ci := 6) (CN := RX6) (TT := TX6) (N := 16) 9 dX6_years_22 (pc' := 25) rfl in_X6_years_X6 rfl (by decide) fl_X6_years_129 h (fun v2 h => ?_)
    refine e_iload_n C (x := p1) rfl dX6_years_25 (pc' := 26) rfl ?_
    refine e_iadd C dX6_years_26 (pc' := 27) rfl ?_
    refine f_putI C (ci := 6) (CN := RX6) (TT := TX6) (N := 16) 9 tyX6 dX6_years_27 (pc' := 30) rfl in_X6_years_X6 tyX6_ok nmX6 rfl (by decide) fl_X6_years_129 rfl (by decide +kernel) h (fun ws h => ?_)
    refine e_aload_n C (x := p0) rfl dX6_years_30 (pc' := 31) rfl ?_
    refine f_getI C (ci := 6) (CN := RX6) (TT := TX6) (N := 16) 9 dX6_years_31 (pc' := 34) rfl in_X6_years_X6 rfl (by decide) fl_X6_years_129 h (fun v3 h => ?_)
    exact x_int C F dX6_years_34 (by decide) (by decide) h
  · replace h := h.2 hc
    exact x_throwS C F (E := "java/lang/IllegalArgumentException") (tx := "years are none") (by decide) (by decide) w_X6_years_k79 w_X6_years_i79 (by decide) gw_X6_years_83 xb_X6_83 xo_X6_83_79 dX6_years_10 dX6_years_13 dX6_years_14 dX6_years_16 dX6_years_19 (by decide) (by decide) (by decide) (by decide) h
abbrev rm_X6_dugWithWell : Room := { frames := 7, cells := 2, slots := 12, locals := 103 }
set_option maxRecDepth 20000 in
theorem w_X6_dugWithWell_k304 : Cond.classLink RX6 304 "java/lang/IndexOutOfBoundsException" ∈ wsX6_dugWithWell := by decide +kernel
set_option maxRecDepth 20000 in
theorem w_X6_dugWithWell_i304 : Cond.initialized "java/lang/IndexOutOfBoundsException" ∈ wsX6_dugWithWell := by decide +kernel
set_option maxRecDepth 20000 in
theorem gw_X6_dugWithWell_308 : ∀ w ∈ (vx_atS RX6 308 "java/lang/IndexOutOfBoundsException" xnms).filter goodWord, w ∈ wsX6_dugWithWell := by decide +kernel
set_option maxRecDepth 20000 in
theorem in_X6_dugWithWell_X0 : ∀ w ∈ wsX00, w ∈ wsX6_dugWithWell := by decide +kernel
set_option maxRecDepth 20000 in
theorem fl_X6_dugWithWell_104 : Cond.fieldLink RX6 104 (TX0 4).1 (TX0 4).2.1 (TX0 4).2.2.1 ∈ wsX6_dugWithWell := by decide +kernel
set_option maxRecDepth 20000 in
theorem w_X6_dugWithWell_k313 : Cond.classLink RX6 313 "java/lang/IllegalStateException" ∈ wsX6_dugWithWell := by decide +kernel
set_option maxRecDepth 20000 in
theorem w_X6_dugWithWell_i313 : Cond.initialized "java/lang/IllegalStateException" ∈ wsX6_dugWithWell := by decide +kernel
set_option maxRecDepth 20000 in
theorem gw_X6_dugWithWell_317 : ∀ w ∈ (vx_atS RX6 317 "java/lang/IllegalStateException" xnms).filter goodWord, w ∈ wsX6_dugWithWell := by decide +kernel
def F_X6_dugWithWell (G : Gx) (p0 : Nat) (p1 : Int32) (p2 : Int32) (ws : va_W) (Q : Nat → va_W → Prop) (X : String → va_W → Prop) : Prop := (qV 6 p0 ws ∧ F_X6_channelAt G p0 p1 ws (fun v1 ws => ((p2 < 0 → X "java/lang/IndexOutOfBoundsException" ws) ∧ (¬ p2 < 0 → qI 0 4 v1 ws (fun v2 => ((p2 < v2 → (qV 0 v1 ws ∧ F_X0_isDug G v1 ws (fun v3 ws => ((¬ v3 = 0 → Q v1 ws) ∧ (v3 = 0 → X "java/lang/IllegalStateException" ws))))) ∧ (¬ p2 < v2 → X "java/lang/IndexOutOfBoundsException" ws)))))) X)
set_option maxRecDepth 20000 in
set_option maxHeartbeats 4000000 in
theorem m_X6_dugWithWell {G : Gx} (hst : (gl G).stackTraces = false) {p0 : Nat} {p1 : Int32} {p2 : Int32} {ws : va_W} {Q : Nat → va_W → Prop} {X : String → va_W → Prop} (h : F_X6_dugWithWell G p0 p1 p2 ws Q X) : Xt G yX6_dugWithWell wsX6_dugWithWell rm_X6_dugWithWell [.ref p0, .int p1, .int p2] ws (QtR G Q) X := by
  refine mk_Xt (cc := cX6_dugWithWell) (nL := 4) (own := RX6) (ret := (some (.object "DesertChannels$Channel"))) (lv0 := [some (.ref p0), some (.int p1), some (.int p2), none]) hst (by decide) rfl rfl (Nat.le_of_ble_eq_true rfl) rfl ?_
  intro K C F
  refine e_aload_n C (x := p0) rfl dX6_dugWithWell_0 (pc' := 1) rfl ?_
  refine e_iload_n C (x := p1) rfl dX6_dugWithWell_1 (pc' := 2) rfl ?_
  obtain ⟨hv, h⟩ := h
  refine e_xcallr (run_XV (n := 1) C (m_X6_channelAt hst h) gX6_dugWithWell_X6_channelAt rfl ⟨rfl, by decide, by decide, by decide +kernel⟩ ⟨by decide, by decide⟩ (ci := 6) rfl rfl hv rfl (Nat.le_of_ble_eq_true rfl) dX6_dugWithWell_2 ⟨by decide, by decide⟩ (As := [.int p1]) rfl) (pc' := 5) rfl (cn' := 1) (sn' := 6) rfl rfl (fun E u hx => x_out C F (by decide) (by decide) hx) (fun v1 ws h => ?_)
  refine e_astore_n C (by decide) dX6_dugWithWell_5 (pc' := 6) rfl (lv' := [some (.ref p0), some (.int p1), some (.int p2), some (.ref v1)]) rfl ?_
  refine e_iload_n C (x := p2) rfl dX6_dugWithWell_6 (pc' := 7) rfl ?_
  refine e_if_lt C (tg := 18) dX6_dugWithWell_7 (by decide) (pc' := 10) rfl (fun hc => ?_) (fun hc => ?_)
  · replace h := h.1 hc
    exact x_throwSW C F (E := "java/lang/IndexOutOfBoundsException") (tx := "there is no such well") (by decide) (by decide) w_X6_dugWithWell_k304 w_X6_dugWithWell_i304 (by decide) gw_X6_dugWithWell_308 xb_X6_308 xo_X6_308_304 dX6_dugWithWell_18 dX6_dugWithWell_21 dX6_dugWithWell_22 dX6_dugWithWell_25 dX6_dugWithWell_28 (by decide) (by decide) (by decide) (by decide) h
  · replace h := h.2 hc
    refine e_iload_n C (x := p2) rfl dX6_dugWithWell_10 (pc' := 11) rfl ?_
    refine e_aload_n C (x := v1) rfl dX6_dugWithWell_11 (pc' := 12) rfl ?_
    refine f_getI C (ci := 0) (CN := RX0) (TT := TX0) (N := 8) 4 dX6_dugWithWell_12 (pc' := 15) rfl in_X6_dugWithWell_X0 rfl (by decide) fl_X6_dugWithWell_104 h (fun v2 h => ?_)
    refine e_icmp_lt C (tg := 29) dX6_dugWithWell_15 (by decide) (pc' := 18) rfl (fun hc => ?_) (fun hc => ?_)
    · replace h := h.1 hc
      refine e_aload_n C (x := v1) rfl dX6_dugWithWell_29 (pc' := 30) rfl ?_
      obtain ⟨hv, h⟩ := h
      refine e_calli (run_V (n := 0) C (m_X0_isDug hst h) gX6_dugWithWell_X0_isDug rfl ⟨rfl, by decide, by decide, by decide +kernel⟩ ⟨by decide, by decide⟩ (ci := 0) rfl rfl hv rfl (Nat.le_of_ble_eq_true rfl) dX6_dugWithWell_30 ⟨by decide, by decide⟩ (As := []) rfl) (pc' := 33) rfl (cn' := 1) (sn' := 6) rfl rfl (fun v3 ws h => ?_)
      refine e_if_ne C (tg := 47) dX6_dugWithWell_33 (by decide) (pc' := 36) rfl (fun hc => ?_) (fun hc => ?_)
      · replace h := h.1 hc
        refine e_aload_n C (x := v1) rfl dX6_dugWithWell_47 (pc' := 48) rfl ?_
        exact x_ref C F dX6_dugWithWell_48 (by decide) (by decide) h
      · replace h := h.2 hc
        exact x_throwSW C F (E := "java/lang/IllegalStateException") (tx := "the channel is not dug") (by decide) (by decide) w_X6_dugWithWell_k313 w_X6_dugWithWell_i313 (by decide) gw_X6_dugWithWell_317 xb_X6_317 xo_X6_317_313 dX6_dugWithWell_36 dX6_dugWithWell_39 dX6_dugWithWell_40 dX6_dugWithWell_43 dX6_dugWithWell_46 (by decide) (by decide) (by decide) (by decide) h
    · replace h := h.2 hc
      exact x_throwSW C F (E := "java/lang/IndexOutOfBoundsException") (tx := "there is no such well") (by decide) (by decide) w_X6_dugWithWell_k304 w_X6_dugWithWell_i304 (by decide) gw_X6_dugWithWell_308 xb_X6_308 xo_X6_308_304 dX6_dugWithWell_18 dX6_dugWithWell_21 dX6_dugWithWell_22 dX6_dugWithWell_25 dX6_dugWithWell_28 (by decide) (by decide) (by decide) (by decide) h
abbrev rm_X6_collapse : Room := { frames := 8, cells := 2, slots := 12, locals := 126 }
set_option maxRecDepth 20000 in
theorem in_X6_collapse_X0 : ∀ w ∈ wsX00, w ∈ wsX6_collapse := by decide +kernel
set_option maxRecDepth 20000 in
theorem fl_X6_collapse_151 : Cond.fieldLink RX6 151 (TX0 3).1 (TX0 3).2.1 (TX0 3).2.2.1 ∈ wsX6_collapse := by decide +kernel
def F_X6_collapse (G : Gx) (p0 : Nat) (p1 : Int32) (p2 : Int32) (p3 : Int32) (ws : va_W) (Q : Int32 → va_W → Prop) (X : String → va_W → Prop) : Prop := (qV 6 p0 ws ∧ F_X6_dugWithWell G p0 p1 p2 ws (fun v1 ws => qR 0 3 v1 ws (fun v2 => qA (gc G 2) v2 p2 ws (fun v3 => qR 0 3 v1 ws (fun v4 => qS (gc G 2) v4 p2 (vp_nar .boolean p3) ws (fun ws => ((v3 = p3 → Q (0 : Int32) ws) ∧ (¬ v3 = p3 → Q (1 : Int32) ws))))))) X)
set_option maxRecDepth 20000 in
set_option maxHeartbeats 4000000 in
theorem m_X6_collapse {G : Gx} (hst : (gl G).stackTraces = false) {p0 : Nat} {p1 : Int32} {p2 : Int32} {p3 : Int32} {ws : va_W} {Q : Int32 → va_W → Prop} {X : String → va_W → Prop} (h : F_X6_collapse G p0 p1 p2 p3 ws Q X) : Xt G yX6_collapse wsX6_collapse rm_X6_collapse [.ref p0, .int p1, .int p2, .int p3] ws (QtI G Q) X := by
  refine mk_Xt (cc := cX6_collapse) (nL := 6) (own := RX6) (ret := (some .boolean)) (lv0 := [some (.ref p0), some (.int p1), some (.int p2), some (.int p3), none, none]) hst (by decide) rfl rfl (Nat.le_of_ble_eq_true rfl) rfl ?_
  intro K C F
  refine e_aload_n C (x := p0) rfl dX6_collapse_0 (pc' := 1) rfl ?_
  refine e_iload_n C (x := p1) rfl dX6_collapse_1 (pc' := 2) rfl ?_
  refine e_iload_n C (x := p2) rfl dX6_collapse_2 (pc' := 3) rfl ?_
  obtain ⟨hv, h⟩ := h
  refine e_xcallr (run_XV (n := 2) C (m_X6_dugWithWell hst h) gX6_collapse_X6_dugWithWell rfl ⟨rfl, by decide, by decide, by decide +kernel⟩ ⟨by decide, by decide⟩ (ci := 6) rfl rfl hv rfl (Nat.le_of_ble_eq_true rfl) dX6_collapse_3 ⟨by decide, by decide⟩ (As := [.int p1, .int p2]) rfl) (pc' := 6) rfl (cn' := 2) (sn' := 12) rfl rfl (fun E u hx => x_out C F (by decide) (by decide) hx) (fun v1 ws h => ?_)
  refine e_astore C (by decide) dX6_collapse_6 (pc' := 8) rfl (lv' := [some (.ref p0), some (.int p1), some (.int p2), some (.int p3), some (.ref v1), none]) rfl ?_
  refine e_aload C (x := v1) rfl dX6_collapse_8 (pc' := 10) rfl ?_
  refine f_getR C (ci := 0) (CN := RX0) (TT := TX0) (N := 8) 3 dX6_collapse_10 (pc' := 13) rfl in_X6_collapse_X0 rfl (by decide) fl_X6_collapse_151 h (fun v2 h => ?_)
  refine e_iload_n C (x := p2) rfl dX6_collapse_13 (pc' := 14) rfl ?_
  refine f_zaload C dX6_collapse_14 (pc' := 15) rfl h (fun v3 h => ?_)
  refine e_istore C (by decide) dX6_collapse_15 (pc' := 17) rfl (lv' := [some (.ref p0), some (.int p1), some (.int p2), some (.int p3), some (.ref v1), some (.int v3)]) rfl ?_
  refine e_aload C (x := v1) rfl dX6_collapse_17 (pc' := 19) rfl ?_
  refine f_getR C (ci := 0) (CN := RX0) (TT := TX0) (N := 8) 3 dX6_collapse_19 (pc' := 22) rfl in_X6_collapse_X0 rfl (by decide) fl_X6_collapse_151 h (fun v4 h => ?_)
  refine e_iload_n C (x := p2) rfl dX6_collapse_22 (pc' := 23) rfl ?_
  refine e_iload_n C (x := p3) rfl dX6_collapse_23 (pc' := 24) rfl ?_
  refine f_zastore C dX6_collapse_24 (pc' := 25) rfl h (fun ws h => ?_)
  refine e_iload C (x := v3) rfl dX6_collapse_25 (pc' := 27) rfl ?_
  refine e_iload_n C (x := p3) rfl dX6_collapse_27 (pc' := 28) rfl ?_
  refine e_icmp_eq C (tg := 35) dX6_collapse_28 (by decide) (pc' := 31) rfl (fun hc => ?_) (fun hc => ?_)
  · replace h := h.1 hc
    refine e_iconst C (v := (0 : Int32)) (by decide) dX6_collapse_35 (pc' := 36) rfl ?_
    exact x_bool C F dX6_collapse_36 (by decide) (by decide) (Or.inl rfl) h
  · replace h := h.2 hc
    refine e_iconst C (v := (1 : Int32)) (by decide) dX6_collapse_31 (pc' := 32) rfl ?_
    refine e_goto C (tg := 36) dX6_collapse_32 (by decide) ?_
    exact x_bool C F dX6_collapse_36 (by decide) (by decide) (Or.inr rfl) h
abbrev rm_X6_dugAt : Room := { frames := 7, cells := 2, slots := 12, locals := 103 }
set_option maxRecDepth 20000 in
theorem w_X6_dugAt_k313 : Cond.classLink RX6 313 "java/lang/IllegalStateException" ∈ wsX6_dugAt := by decide +kernel
set_option maxRecDepth 20000 in
theorem w_X6_dugAt_i313 : Cond.initialized "java/lang/IllegalStateException" ∈ wsX6_dugAt := by decide +kernel
set_option maxRecDepth 20000 in
theorem gw_X6_dugAt_317 : ∀ w ∈ (vx_atS RX6 317 "java/lang/IllegalStateException" xnms).filter goodWord, w ∈ wsX6_dugAt := by decide +kernel
def F_X6_dugAt (G : Gx) (p0 : Nat) (p1 : Int32) (ws : va_W) (Q : Nat → va_W → Prop) (X : String → va_W → Prop) : Prop := (qV 6 p0 ws ∧ F_X6_channelAt G p0 p1 ws (fun v1 ws => (qV 0 v1 ws ∧ F_X0_isDug G v1 ws (fun v2 ws => ((¬ v2 = 0 → Q v1 ws) ∧ (v2 = 0 → X "java/lang/IllegalStateException" ws))))) X)
set_option maxRecDepth 20000 in
set_option maxHeartbeats 4000000 in
theorem m_X6_dugAt {G : Gx} (hst : (gl G).stackTraces = false) {p0 : Nat} {p1 : Int32} {ws : va_W} {Q : Nat → va_W → Prop} {X : String → va_W → Prop} (h : F_X6_dugAt G p0 p1 ws Q X) : Xt G yX6_dugAt wsX6_dugAt rm_X6_dugAt [.ref p0, .int p1] ws (QtR G Q) X := by
  refine mk_Xt (cc := cX6_dugAt) (nL := 3) (own := RX6) (ret := (some (.object "DesertChannels$Channel"))) (lv0 := [some (.ref p0), some (.int p1), none]) hst (by decide) rfl rfl (Nat.le_of_ble_eq_true rfl) rfl ?_
  intro K C F
  refine e_aload_n C (x := p0) rfl dX6_dugAt_0 (pc' := 1) rfl ?_
  refine e_iload_n C (x := p1) rfl dX6_dugAt_1 (pc' := 2) rfl ?_
  obtain ⟨hv, h⟩ := h
  refine e_xcallr (run_XV (n := 1) C (m_X6_channelAt hst h) gX6_dugAt_X6_channelAt rfl ⟨rfl, by decide, by decide, by decide +kernel⟩ ⟨by decide, by decide⟩ (ci := 6) rfl rfl hv rfl (Nat.le_of_ble_eq_true rfl) dX6_dugAt_2 ⟨by decide, by decide⟩ (As := [.int p1]) rfl) (pc' := 5) rfl (cn' := 1) (sn' := 6) rfl rfl (fun E u hx => x_out C F (by decide) (by decide) hx) (fun v1 ws h => ?_)
  refine e_astore_n C (by decide) dX6_dugAt_5 (pc' := 6) rfl (lv' := [some (.ref p0), some (.int p1), some (.ref v1)]) rfl ?_
  refine e_aload_n C (x := v1) rfl dX6_dugAt_6 (pc' := 7) rfl ?_
  obtain ⟨hv, h⟩ := h
  refine e_calli (run_V (n := 0) C (m_X0_isDug hst h) gX6_dugAt_X0_isDug rfl ⟨rfl, by decide, by decide, by decide +kernel⟩ ⟨by decide, by decide⟩ (ci := 0) rfl rfl hv rfl (Nat.le_of_ble_eq_true rfl) dX6_dugAt_7 ⟨by decide, by decide⟩ (As := []) rfl) (pc' := 10) rfl (cn' := 1) (sn' := 6) rfl rfl (fun v2 ws h => ?_)
  refine e_if_ne C (tg := 24) dX6_dugAt_10 (by decide) (pc' := 13) rfl (fun hc => ?_) (fun hc => ?_)
  · replace h := h.1 hc
    refine e_aload_n C (x := v1) rfl dX6_dugAt_24 (pc' := 25) rfl ?_
    exact x_ref C F dX6_dugAt_25 (by decide) (by decide) h
  · replace h := h.2 hc
    exact x_throwSW C F (E := "java/lang/IllegalStateException") (tx := "the channel is not dug") (by decide) (by decide) w_X6_dugAt_k313 w_X6_dugAt_i313 (by decide) gw_X6_dugAt_317 xb_X6_317 xo_X6_317_313 dX6_dugAt_13 dX6_dugAt_16 dX6_dugAt_17 dX6_dugAt_20 dX6_dugAt_23 (by decide) (by decide) (by decide) (by decide) h
abbrev rm_X0_runningWells : Room := { frames := 0, cells := 0, slots := 0, locals := 0 }
set_option maxRecDepth 20000 in
theorem in_X0_runningWells_X0 : ∀ w ∈ wsX00, w ∈ wsX0_runningWells := by decide +kernel
set_option maxRecDepth 20000 in
theorem fl_X0_runningWells_29 : Cond.fieldLink RX0 29 (TX0 4).1 (TX0 4).2.1 (TX0 4).2.2.1 ∈ wsX0_runningWells := by decide +kernel
set_option maxRecDepth 20000 in
theorem fl_X0_runningWells_21 : Cond.fieldLink RX0 21 (TX0 3).1 (TX0 3).2.1 (TX0 3).2.2.1 ∈ wsX0_runningWells := by decide +kernel
def F_X0_runningWells (G : Gx) (p0 : Nat) (ws : va_W) (Q : Int32 → va_W → Prop) : Prop := ∀ (J2 : Int32 → va_W → Prop), (∀ (x1 : Int32) (ws : va_W), qI 0 4 p0 ws (fun v1 => ((v1 ≤ x1 → qI 0 4 p0 ws (fun v2 => Q v2 ws)) ∧ (¬ v1 ≤ x1 → qR 0 3 p0 ws (fun v3 => qA (gc G 2) v3 x1 ws (fun v4 => ((v4 = 0 → J2 (x1 + (1 : Int32)) ws) ∧ (¬ v4 = 0 → Q x1 ws))))))) → J2 x1 ws) → J2 (0 : Int32) ws
set_option maxRecDepth 20000 in
set_option maxHeartbeats 4000000 in
theorem m_X0_runningWells {G : Gx} (hst : (gl G).stackTraces = false) {p0 : Nat} {ws : va_W} {Q : Int32 → va_W → Prop} (h : F_X0_runningWells G p0 ws Q) : Mt G yX0_runningWells wsX0_runningWells rm_X0_runningWells [.ref p0] ws (QtI G Q) := by
  refine mk_Mt (cc := cX0_runningWells) (nL := 2) (own := RX0) (ret := (some .int)) (lv0 := [some (.ref p0), none]) hst (by decide) rfl rfl (Nat.le_of_ble_eq_true rfl) rfl ?_
  intro K C F
  replace h := h (fun x1 ws => Ev K G 2 0 0 2 [some (.ref p0), some (.int x1)] [] ws)
  replace h := h (by
    intro x1 ws h
    show Ev K G 2 0 0 2 [some (.ref p0), some (.int x1)] [] ws
    refine e_iload_n C (x := x1) rfl dX0_runningWells_2 (pc' := 3) rfl ?_
    refine e_aload_n C (x := p0) rfl dX0_runningWells_3 (pc' := 4) rfl ?_
    refine f_getI C (ci := 0) (CN := RX0) (TT := TX0) (N := 8) 4 dX0_runningWells_4 (pc' := 7) rfl in_X0_runningWells_X0 rfl (by decide) fl_X0_runningWells_29 h (fun v1 h => ?_)
    refine e_icmp_ge C (tg := 27) dX0_runningWells_7 (by decide) (pc' := 10) rfl (fun hc => ?_) (fun hc => ?_)
    · replace h := h.1 hc
      refine e_aload_n C (x := p0) rfl dX0_runningWells_27 (pc' := 28) rfl ?_
      refine f_getI C (ci := 0) (CN := RX0) (TT := TX0) (N := 8) 4 dX0_runningWells_28 (pc' := 31) rfl in_X0_runningWells_X0 rfl (by decide) fl_X0_runningWells_29 h (fun v2 h => ?_)
      exact r_int C F dX0_runningWells_31 (by decide) (by decide) h
    · replace h := h.2 hc
      refine e_aload_n C (x := p0) rfl dX0_runningWells_10 (pc' := 11) rfl ?_
      refine f_getR C (ci := 0) (CN := RX0) (TT := TX0) (N := 8) 3 dX0_runningWells_11 (pc' := 14) rfl in_X0_runningWells_X0 rfl (by decide) fl_X0_runningWells_21 h (fun v3 h => ?_)
      refine e_iload_n C (x := x1) rfl dX0_runningWells_14 (pc' := 15) rfl ?_
      refine f_zaload C dX0_runningWells_15 (pc' := 16) rfl h (fun v4 h => ?_)
      refine e_if_eq C (tg := 21) dX0_runningWells_16 (by decide) (pc' := 19) rfl (fun hc => ?_) (fun hc => ?_)
      · replace h := h.1 hc
        refine e_iinc C dX0_runningWells_21 (x := x1) (v := (x1 + (1 : Int32))) rfl rfl (by decide) (pc' := 24) rfl (lv' := [some (.ref p0), some (.int (x1 + (1 : Int32)))]) rfl ?_
        refine e_goto C (tg := 2) dX0_runningWells_24 (by decide) ?_
        exact h
      · replace h := h.2 hc
        refine e_iload_n C (x := x1) rfl dX0_runningWells_19 (pc' := 20) rfl ?_
        exact r_int C F dX0_runningWells_20 (by decide) (by decide) h)
  refine e_iconst C (v := (0 : Int32)) (by decide) dX0_runningWells_0 (pc' := 1) rfl ?_
  refine e_istore_n C (by decide) dX0_runningWells_1 (pc' := 2) rfl (lv' := [some (.ref p0), some (.int (0 : Int32))]) rfl ?_
  exact h
abbrev rm_X6_drawAt : Room := { frames := 2, cells := 0, slots := 0, locals := 37 }
set_option maxRecDepth 20000 in
theorem in_X6_drawAt_X6 : ∀ w ∈ wsX60, w ∈ wsX6_drawAt := by decide +kernel
set_option maxRecDepth 20000 in
theorem fl_X6_drawAt_129 : Cond.fieldLink RX6 129 (TX6 9).1 (TX6 9).2.1 (TX6 9).2.2.1 ∈ wsX6_drawAt := by decide +kernel
set_option maxRecDepth 20000 in
theorem in_X6_drawAt_X0 : ∀ w ∈ wsX00, w ∈ wsX6_drawAt := by decide +kernel
set_option maxRecDepth 20000 in
theorem fl_X6_drawAt_132 : Cond.fieldLink RX6 132 (TX0 6).1 (TX0 6).2.1 (TX0 6).2.2.1 ∈ wsX6_drawAt := by decide +kernel
set_option maxRecDepth 20000 in
theorem fl_X6_drawAt_330 : Cond.fieldLink RX6 330 (TX0 0).1 (TX0 0).2.1 (TX0 0).2.2.1 ∈ wsX6_drawAt := by decide +kernel
set_option maxRecDepth 20000 in
theorem fl_X6_drawAt_333 : Cond.fieldLink RX6 333 (TX0 1).1 (TX0 1).2.1 (TX0 1).2.2.1 ∈ wsX6_drawAt := by decide +kernel
set_option maxRecDepth 20000 in
theorem w_X6_drawAt_ml301 : Cond.methodLink RX6 301 Lib.Math.max.name ∈ wsX6_drawAt := by decide +kernel
set_option maxRecDepth 20000 in
theorem w_X6_drawAt_ms_max : Cond.static Lib.Math.max.name ∈ wsX6_drawAt := by decide +kernel
set_option maxRecDepth 20000 in
theorem w_X6_drawAt_mi : Cond.initialized "java/lang/Math" ∈ wsX6_drawAt := by decide +kernel
set_option maxRecDepth 20000 in
theorem w_X6_drawAt_mc_max : Cond.code Lib.Math.max.name Lib.Math.max.code 2 (some .int) ∈ wsX6_drawAt := by decide +kernel
def F_X6_drawAt (G : Gx) (p0 : Nat) (p1 : Nat) (p2 : Int32) (p3 : Int32) (ws : va_W) (Q : Int32 → va_W → Prop) : Prop := ∀ (J12 : Int32 → Int32 → Int32 → va_W → Prop), (∀ (x4 : Int32) (x5 : Int32) (x6 : Int32) (ws : va_W), ((x4 ≤ x6 → qI 6 9 p0 ws (fun v2 => qI 0 6 p1 ws (fun v3 => (((5 : Int32) ≤ (v2 - v3) → Q x5 ws) ∧ (¬ (5 : Int32) ≤ (v2 - v3) → Q ((x5 * (v2 - v3)) / (5 : Int32)) ws))))) ∧ (¬ x4 ≤ x6 → qR 0 0 p1 ws (fun v4 => qA (gc G 1) v4 x6 ws (fun v5 => qR 0 1 p1 ws (fun v6 => qA (gc G 1) v6 x6 ws (fun v7 => (F_X6_kingSteps G p2 p3 v5 v7 ws (fun v8 ws => J12 x4 (if x5 < ((30 : Int32) - v8) then ((30 : Int32) - v8) else x5) (x6 + (1 : Int32)) ws)))))))) → J12 x4 x5 x6 ws) → (qV 0 p1 ws ∧ F_X0_runningWells G p1 ws (fun v1 ws => J12 v1 (0 : Int32) (0 : Int32) ws))
set_option maxRecDepth 20000 in
set_option maxHeartbeats 4000000 in
theorem m_X6_drawAt {G : Gx} (hst : (gl G).stackTraces = false) {p0 : Nat} {p1 : Nat} {p2 : Int32} {p3 : Int32} {ws : va_W} {Q : Int32 → va_W → Prop} (h : F_X6_drawAt G p0 p1 p2 p3 ws Q) : Mt G yX6_drawAt wsX6_drawAt rm_X6_drawAt [.ref p0, .ref p1, .int p2, .int p3] ws (QtI G Q) := by
  refine mk_Mt (cc := cX6_drawAt) (nL := 7) (own := RX6) (ret := (some .int)) (lv0 := [some (.ref p0), some (.ref p1), some (.int p2), some (.int p3), none, none, none]) hst (by decide) rfl rfl (Nat.le_of_ble_eq_true rfl) rfl ?_
  intro K C F
  replace h := h (fun x4 x5 x6 ws => Ev K G 7 0 0 12 [some (.ref p0), some (.ref p1), some (.int p2), some (.int p3), some (.int x4), some (.int x5), some (.int x6)] [] ws)
  replace h := h (by
    intro x4 x5 x6 ws h
    show Ev K G 7 0 0 12 [some (.ref p0), some (.ref p1), some (.int p2), some (.int p3), some (.int x4), some (.int x5), some (.int x6)] [] ws
    refine e_iload C (x := x6) rfl dX6_drawAt_12 (pc' := 14) rfl ?_
    refine e_iload C (x := x4) rfl dX6_drawAt_14 (pc' := 16) rfl ?_
    refine e_icmp_ge C (tg := 54) dX6_drawAt_16 (by decide) (pc' := 19) rfl (fun hc => ?_) (fun hc => ?_)
    · replace h := h.1 hc
      refine e_aload_n C (x := p0) rfl dX6_drawAt_54 (pc' := 55) rfl ?_
      refine f_getI C (ci := 6) (CN := RX6) (TT := TX6) (N := 16) 9 dX6_drawAt_55 (pc' := 58) rfl in_X6_drawAt_X6 rfl (by decide) fl_X6_drawAt_129 h (fun v2 h => ?_)
      refine e_aload_n C (x := p1) rfl dX6_drawAt_58 (pc' := 59) rfl ?_
      refine f_getI C (ci := 0) (CN := RX0) (TT := TX0) (N := 8) 6 dX6_drawAt_59 (pc' := 62) rfl in_X6_drawAt_X0 rfl (by decide) fl_X6_drawAt_132 h (fun v3 h => ?_)
      refine e_isub C dX6_drawAt_62 (pc' := 63) rfl ?_
      refine e_istore C (by decide) dX6_drawAt_63 (pc' := 65) rfl (lv' := [some (.ref p0), some (.ref p1), some (.int p2), some (.int p3), some (.int x4), some (.int x5), some (.int (v2 - v3))]) rfl ?_
      refine e_iload C (x := (v2 - v3)) rfl dX6_drawAt_65 (pc' := 67) rfl ?_
      refine e_iconst C (v := (5 : Int32)) (by decide) dX6_drawAt_67 (pc' := 68) rfl ?_
      refine e_icmp_ge C (tg := 81) dX6_drawAt_68 (by decide) (pc' := 71) rfl (fun hc => ?_) (fun hc => ?_)
      · replace h := h.1 hc
        refine e_iload C (x := x5) rfl dX6_drawAt_81 (pc' := 83) rfl ?_
        exact r_int C F dX6_drawAt_83 (by decide) (by decide) h
      · replace h := h.2 hc
        refine e_iload C (x := x5) rfl dX6_drawAt_71 (pc' := 73) rfl ?_
        refine e_iload C (x := (v2 - v3)) rfl dX6_drawAt_73 (pc' := 75) rfl ?_
        refine e_imul C dX6_drawAt_75 (pc' := 76) rfl ?_
        refine e_iconst C (v := (5 : Int32)) (by decide) dX6_drawAt_76 (pc' := 77) rfl ?_
        refine e_idiv C (by decide) dX6_drawAt_77 (pc' := 78) rfl ?_
        refine e_goto C (tg := 83) dX6_drawAt_78 (by decide) ?_
        exact r_int C F dX6_drawAt_83 (by decide) (by decide) h
    · replace h := h.2 hc
      refine e_iload C (x := x5) rfl dX6_drawAt_19 (pc' := 21) rfl ?_
      refine e_bipush C (v := (30 : Int32)) (by decide) dX6_drawAt_21 (pc' := 23) rfl ?_
      refine e_iload_n C (x := p2) rfl dX6_drawAt_23 (pc' := 24) rfl ?_
      refine e_iload_n C (x := p3) rfl dX6_drawAt_24 (pc' := 25) rfl ?_
      refine e_aload_n C (x := p1) rfl dX6_drawAt_25 (pc' := 26) rfl ?_
      refine f_getR C (ci := 0) (CN := RX0) (TT := TX0) (N := 8) 0 dX6_drawAt_26 (pc' := 29) rfl in_X6_drawAt_X0 rfl (by decide) fl_X6_drawAt_330 h (fun v4 h => ?_)
      refine e_iload C (x := x6) rfl dX6_drawAt_29 (pc' := 31) rfl ?_
      refine f_iaload C dX6_drawAt_31 (pc' := 32) rfl h (fun v5 h => ?_)
      refine e_aload_n C (x := p1) rfl dX6_drawAt_32 (pc' := 33) rfl ?_
      refine f_getR C (ci := 0) (CN := RX0) (TT := TX0) (N := 8) 1 dX6_drawAt_33 (pc' := 36) rfl in_X6_drawAt_X0 rfl (by decide) fl_X6_drawAt_333 h (fun v6 h => ?_)
      refine e_iload C (x := x6) rfl dX6_drawAt_36 (pc' := 38) rfl ?_
      refine f_iaload C dX6_drawAt_38 (pc' := 39) rfl h (fun v7 h => ?_)
      refine e_calli (run_S (n := 4) C (m_X6_kingSteps hst h) gX6_drawAt_X6_kingSteps rfl ⟨rfl, by decide, by decide, by decide +kernel⟩ ⟨by decide, by decide⟩ rfl (Nat.le_of_ble_eq_true rfl) dX6_drawAt_39 ⟨by decide, by decide⟩ (As := [.int p2, .int p3, .int v5, .int v7]) rfl) (pc' := 42) rfl (cn' := 0) (sn' := 0) rfl rfl (fun v8 ws h => ?_)
      refine e_isub C dX6_drawAt_42 (pc' := 43) rfl ?_
      refine e_mmax C dX6_drawAt_43 (pc' := 46) rfl w_X6_drawAt_ml301 w_X6_drawAt_ms_max w_X6_drawAt_mi w_X6_drawAt_mc_max (by decide) (Nat.le_of_ble_eq_true rfl) (by decide) (by decide) ?_
      refine e_istore C (by decide) dX6_drawAt_46 (pc' := 48) rfl (lv' := [some (.ref p0), some (.ref p1), some (.int p2), some (.int p3), some (.int x4), some (.int (if x5 < ((30 : Int32) - v8) then ((30 : Int32) - v8) else x5)), some (.int x6)]) rfl ?_
      refine e_iinc C dX6_drawAt_48 (x := x6) (v := (x6 + (1 : Int32))) rfl rfl (by decide) (pc' := 51) rfl (lv' := [some (.ref p0), some (.ref p1), some (.int p2), some (.int p3), some (.int x4), some (.int (if x5 < ((30 : Int32) - v8) then ((30 : Int32) - v8) else x5)), some (.int (x6 + (1 : Int32)))]) rfl ?_
      refine e_goto C (tg := 12) dX6_drawAt_51 (by decide) ?_
      exact h)
  refine e_aload_n C (x := p1) rfl dX6_drawAt_0 (pc' := 1) rfl ?_
  obtain ⟨hv, h⟩ := h
  refine e_calli (run_V (n := 0) C (m_X0_runningWells hst h) gX6_drawAt_X0_runningWells rfl ⟨rfl, by decide, by decide, by decide +kernel⟩ ⟨by decide, by decide⟩ (ci := 0) rfl rfl hv rfl (Nat.le_of_ble_eq_true rfl) dX6_drawAt_1 ⟨by decide, by decide⟩ (As := []) rfl) (pc' := 4) rfl (cn' := 0) (sn' := 0) rfl rfl (fun v1 ws h => ?_)
  refine e_istore C (by decide) dX6_drawAt_4 (pc' := 6) rfl (lv' := [some (.ref p0), some (.ref p1), some (.int p2), some (.int p3), some (.int v1), none, none]) rfl ?_
  refine e_iconst C (v := (0 : Int32)) (by decide) dX6_drawAt_6 (pc' := 7) rfl ?_
  refine e_istore C (by decide) dX6_drawAt_7 (pc' := 9) rfl (lv' := [some (.ref p0), some (.ref p1), some (.int p2), some (.int p3), some (.int v1), some (.int (0 : Int32)), none]) rfl ?_
  refine e_iconst C (v := (0 : Int32)) (by decide) dX6_drawAt_9 (pc' := 10) rfl ?_
  refine e_istore C (by decide) dX6_drawAt_10 (pc' := 12) rfl (lv' := [some (.ref p0), some (.ref p1), some (.int p2), some (.int p3), some (.int v1), some (.int (0 : Int32)), some (.int (0 : Int32))]) rfl ?_
  exact h
abbrev rm_X6_seepAt : Room := { frames := 3, cells := 0, slots := 0, locals := 63 }
set_option maxRecDepth 20000 in
theorem in_X6_seepAt_X6 : ∀ w ∈ wsX60, w ∈ wsX6_seepAt := by decide +kernel
set_option maxRecDepth 20000 in
theorem fl_X6_seepAt_36 : Cond.fieldLink RX6 36 (TX6 7).1 (TX6 7).2.1 (TX6 7).2.2.1 ∈ wsX6_seepAt := by decide +kernel
set_option maxRecDepth 20000 in
theorem fl_X6_seepAt_39 : Cond.fieldLink RX6 39 (TX6 8).1 (TX6 8).2.1 (TX6 8).2.2.1 ∈ wsX6_seepAt := by decide +kernel
set_option maxRecDepth 20000 in
theorem in_X6_seepAt_X0 : ∀ w ∈ wsX00, w ∈ wsX6_seepAt := by decide +kernel
set_option maxRecDepth 20000 in
theorem fl_X6_seepAt_330 : Cond.fieldLink RX6 330 (TX0 0).1 (TX0 0).2.1 (TX0 0).2.2.1 ∈ wsX6_seepAt := by decide +kernel
set_option maxRecDepth 20000 in
theorem fl_X6_seepAt_86 : Cond.fieldLink RX6 86 (TX6 5).1 (TX6 5).2.1 (TX6 5).2.2.1 ∈ wsX6_seepAt := by decide +kernel
set_option maxRecDepth 20000 in
theorem fl_X6_seepAt_340 : Cond.fieldLink RX6 340 (TX0 2).1 (TX0 2).2.1 (TX0 2).2.2.1 ∈ wsX6_seepAt := by decide +kernel
set_option maxRecDepth 20000 in
theorem w_X6_seepAt_ml346 : Cond.methodLink RX6 346 Lib.Math.min.name ∈ wsX6_seepAt := by decide +kernel
set_option maxRecDepth 20000 in
theorem w_X6_seepAt_ms_min : Cond.static Lib.Math.min.name ∈ wsX6_seepAt := by decide +kernel
set_option maxRecDepth 20000 in
theorem w_X6_seepAt_mi : Cond.initialized "java/lang/Math" ∈ wsX6_seepAt := by decide +kernel
set_option maxRecDepth 20000 in
theorem w_X6_seepAt_mc_min : Cond.code Lib.Math.min.name Lib.Math.min.code 2 (some .int) ∈ wsX6_seepAt := by decide +kernel
set_option maxRecDepth 20000 in
theorem w_X6_seepAt_ml301 : Cond.methodLink RX6 301 Lib.Math.max.name ∈ wsX6_seepAt := by decide +kernel
set_option maxRecDepth 20000 in
theorem w_X6_seepAt_ms_max : Cond.static Lib.Math.max.name ∈ wsX6_seepAt := by decide +kernel
set_option maxRecDepth 20000 in
theorem w_X6_seepAt_mc_max : Cond.code Lib.Math.max.name Lib.Math.max.code 2 (some .int) ∈ wsX6_seepAt := by decide +kernel
set_option maxRecDepth 20000 in
theorem fl_X6_seepAt_31 : Cond.fieldLink RX6 31 (TX6 4).1 (TX6 4).2.1 (TX6 4).2.2.1 ∈ wsX6_seepAt := by decide +kernel
set_option maxRecDepth 20000 in
theorem fl_X6_seepAt_138 : Cond.fieldLink RX6 138 (TX0 7).1 (TX0 7).2.1 (TX0 7).2.2.1 ∈ wsX6_seepAt := by decide +kernel
set_option maxRecDepth 20000 in
theorem fl_X6_seepAt_333 : Cond.fieldLink RX6 333 (TX0 1).1 (TX0 1).2.1 (TX0 1).2.2.1 ∈ wsX6_seepAt := by decide +kernel
def F_X6_seepAt (G : Gx) (p0 : Nat) (p1 : Nat) (p2 : Int32) (p3 : Int32) (ws : va_W) (Q : Int32 → va_W → Prop) : Prop := ∀ (J21 : Int32 → Int32 → va_W → Prop), ∀ (J85 : Int32 → Int32 → va_W → Prop), (∀ (x4 : Int32) (x5 : Int32) (ws : va_W), qI 6 5 p0 ws (fun v5 => ((v5 ≤ x5 → qR 0 2 p1 ws (fun v6 => qA (gc G 1) v6 p2 ws (fun v7 => Q (if (0 : Int32) < (if ((x4 - v7) / (10 : Int32)) < (50 : Int32) then ((x4 - v7) / (10 : Int32)) else (50 : Int32)) then (if ((x4 - v7) / (10 : Int32)) < (50 : Int32) then ((x4 - v7) / (10 : Int32)) else (50 : Int32)) else (0 : Int32)) ws))) ∧ (¬ v5 ≤ x5 → qR 6 4 p0 ws (fun v8 => qQ (gc G 3) v8 x5 ws (fun v9 => ((v9 = p1 → J85 x4 x5 ws) ∧ (¬ v9 = p1 → (qV 0 v9 ws ∧ F_X0_isDug G v9 ws (fun v10 ws => ((v10 = 0 → J85 x4 x5 ws) ∧ (¬ v10 = 0 → qI 0 7 v9 ws (fun v11 => ((p3 < v11 → J85 x4 x5 ws) ∧ (¬ p3 < v11 → qR 0 0 p1 ws (fun v12 => qA (gc G 1) v12 p2 ws (fun v13 => qR 0 1 p1 ws (fun v14 => qA (gc G 1) v14 p2 ws (fun v15 => (qV 6 p0 ws ∧ F_X6_drawAt G p0 v9 v13 v15 ws (fun v16 ws => J85 (x4 - v16) x5 ws)))))))))))))))))))) → J21 x4 x5 ws) → (∀ (x4 : Int32) (x5 : Int32) (ws : va_W), J21 x4 (x5 + (1 : Int32)) ws → J85 x4 x5 ws) → qI 6 7 p0 ws (fun v1 => qI 6 8 p0 ws (fun v2 => qR 0 0 p1 ws (fun v3 => qA (gc G 1) v3 p2 ws (fun v4 => J21 (v1 + (v2 * v4)) (0 : Int32) ws))))
set_option maxRecDepth 20000 in
set_option maxHeartbeats 4000000 in
theorem m_X6_seepAt {G : Gx} (hst : (gl G).stackTraces = false) {p0 : Nat} {p1 : Nat} {p2 : Int32} {p3 : Int32} {ws : va_W} {Q : Int32 → va_W → Prop} (h : F_X6_seepAt G p0 p1 p2 p3 ws Q) : Mt G yX6_seepAt wsX6_seepAt rm_X6_seepAt [.ref p0, .ref p1, .int p2, .int p3] ws (QtI G Q) := by
  refine mk_Mt (cc := cX6_seepAt) (nL := 7) (own := RX6) (ret := (some .int)) (lv0 := [some (.ref p0), some (.ref p1), some (.int p2), some (.int p3), none, none, none]) hst (by decide) rfl rfl (Nat.le_of_ble_eq_true rfl) rfl ?_
  intro K C F
  replace h := h (fun x4 x5 ws => Ev K G 7 0 0 21 [some (.ref p0), some (.ref p1), some (.int p2), some (.int p3), some (.int x4), some (.int x5), none] [] ws) (fun x4 x5 ws => Ev K G 7 0 0 85 [some (.ref p0), some (.ref p1), some (.int p2), some (.int p3), some (.int x4), some (.int x5), none] [] ws)
  replace h := h (by
    intro x4 x5 ws h
    show Ev K G 7 0 0 21 [some (.ref p0), some (.ref p1), some (.int p2), some (.int p3), some (.int x4), some (.int x5), none] [] ws
    refine e_iload C (x := x5) rfl dX6_seepAt_21 (pc' := 23) rfl ?_
    refine e_aload_n C (x := p0) rfl dX6_seepAt_23 (pc' := 24) rfl ?_
    refine f_getI C (ci := 6) (CN := RX6) (TT := TX6) (N := 16) 5 dX6_seepAt_24 (pc' := 27) rfl in_X6_seepAt_X6 rfl (by decide) fl_X6_seepAt_86 h (fun v5 h => ?_)
    refine e_icmp_ge C (tg := 91) dX6_seepAt_27 (by decide) (pc' := 30) rfl (fun hc => ?_) (fun hc => ?_)
    · replace h := h.1 hc
      refine e_iconst C (v := (0 : Int32)) (by decide) dX6_seepAt_91 (pc' := 92) rfl ?_
      refine e_bipush C (v := (50 : Int32)) (by decide) dX6_seepAt_92 (pc' := 94) rfl ?_
      refine e_iload C (x := x4) rfl dX6_seepAt_94 (pc' := 96) rfl ?_
      refine e_aload_n C (x := p1) rfl dX6_seepAt_96 (pc' := 97) rfl ?_
      refine f_getR C (ci := 0) (CN := RX0) (TT := TX0) (N := 8) 2 dX6_seepAt_97 (pc' := 100) rfl in_X6_seepAt_X0 rfl (by decide) fl_X6_seepAt_340 h (fun v6 h => ?_)
      refine e_iload_n C (x := p2) rfl dX6_seepAt_100 (pc' := 101) rfl ?_
      refine f_iaload C dX6_seepAt_101 (pc' := 102) rfl h (fun v7 h => ?_)
      refine e_isub C dX6_seepAt_102 (pc' := 103) rfl ?_
      refine e_bipush C (v := (10 : Int32)) (by decide) dX6_seepAt_103 (pc' := 105) rfl ?_
      refine e_idiv C (by decide) dX6_seepAt_105 (pc' := 106) rfl ?_
      refine e_mmin C dX6_seepAt_106 (pc' := 109) rfl w_X6_seepAt_ml346 w_X6_seepAt_ms_min w_X6_seepAt_mi w_X6_seepAt_mc_min (by decide) (Nat.le_of_ble_eq_true rfl) (by decide) (by decide) ?_
      refine e_mmax C dX6_seepAt_109 (pc' := 112) rfl w_X6_seepAt_ml301 w_X6_seepAt_ms_max w_X6_seepAt_mi w_X6_seepAt_mc_max (by decide) (Nat.le_of_ble_eq_true rfl) (by decide) (by decide) ?_
      exact r_int C F dX6_seepAt_112 (by decide) (by decide) h
    · replace h := h.2 hc
      refine e_aload_n C (x := p0) rfl dX6_seepAt_30 (pc' := 31) rfl ?_
      refine f_getR C (ci := 6) (CN := RX6) (TT := TX6) (N := 16) 4 dX6_seepAt_31 (pc' := 34) rfl in_X6_seepAt_X6 rfl (by decide) fl_X6_seepAt_31 h (fun v8 h => ?_)
      refine e_iload C (x := x5) rfl dX6_seepAt_34 (pc' := 36) rfl ?_
      refine f_aaloadC C dX6_seepAt_36 (pc' := 37) rfl h (fun v9 h => ?_)
      refine e_astore C (by decide) dX6_seepAt_37 (pc' := 39) rfl (lv' := [some (.ref p0), some (.ref p1), some (.int p2), some (.int p3), some (.int x4), some (.int x5), some (.ref v9)]) rfl ?_
      refine e_aload C (x := v9) rfl dX6_seepAt_39 (pc' := 41) rfl ?_
      refine e_aload_n C (x := p1) rfl dX6_seepAt_41 (pc' := 42) rfl ?_
      refine e_acmp_eq C (tg := 85) dX6_seepAt_42 (by decide) (pc' := 45) rfl (fun hc => ?_) (fun hc => ?_)
      · replace h := h.1 hc
        refine e_mask [true, true, true, true, true, true, false] (lv' := [some (.ref p0), some (.ref p1), some (.int p2), some (.int p3), some (.int x4), some (.int x5), none]) rfl ?_
        exact h
      · replace h := h.2 hc
        refine e_aload C (x := v9) rfl dX6_seepAt_45 (pc' := 47) rfl ?_
        obtain ⟨hv, h⟩ := h
        refine e_calli (run_V (n := 0) C (m_X0_isDug hst h) gX6_seepAt_X0_isDug rfl ⟨rfl, by decide, by decide, by decide +kernel⟩ ⟨by decide, by decide⟩ (ci := 0) rfl rfl hv rfl (Nat.le_of_ble_eq_true rfl) dX6_seepAt_47 ⟨by decide, by decide⟩ (As := []) rfl) (pc' := 50) rfl (cn' := 0) (sn' := 0) rfl rfl (fun v10 ws h => ?_)
        refine e_if_eq C (tg := 85) dX6_seepAt_50 (by decide) (pc' := 53) rfl (fun hc => ?_) (fun hc => ?_)
        · replace h := h.1 hc
          refine e_mask [true, true, true, true, true, true, false] (lv' := [some (.ref p0), some (.ref p1), some (.int p2), some (.int p3), some (.int x4), some (.int x5), none]) rfl ?_
          exact h
        · replace h := h.2 hc
          refine e_aload C (x := v9) rfl dX6_seepAt_53 (pc' := 55) rfl ?_
          refine f_getI C (ci := 0) (CN := RX0) (TT := TX0) (N := 8) 7 dX6_seepAt_55 (pc' := 58) rfl in_X6_seepAt_X0 rfl (by decide) fl_X6_seepAt_138 h (fun v11 h => ?_)
          refine e_iload_n C (x := p3) rfl dX6_seepAt_58 (pc' := 59) rfl ?_
          refine e_icmp_gt C (tg := 85) dX6_seepAt_59 (by decide) (pc' := 62) rfl (fun hc => ?_) (fun hc => ?_)
          · replace h := h.1 hc
            refine e_mask [true, true, true, true, true, true, false] (lv' := [some (.ref p0), some (.ref p1), some (.int p2), some (.int p3), some (.int x4), some (.int x5), none]) rfl ?_
            exact h
          · replace h := h.2 hc
            refine e_iload C (x := x4) rfl dX6_seepAt_62 (pc' := 64) rfl ?_
            refine e_aload_n C (x := p0) rfl dX6_seepAt_64 (pc' := 65) rfl ?_
            refine e_aload C (x := v9) rfl dX6_seepAt_65 (pc' := 67) rfl ?_
            refine e_aload_n C (x := p1) rfl dX6_seepAt_67 (pc' := 68) rfl ?_
            refine f_getR C (ci := 0) (CN := RX0) (TT := TX0) (N := 8) 0 dX6_seepAt_68 (pc' := 71) rfl in_X6_seepAt_X0 rfl (by decide) fl_X6_seepAt_330 h (fun v12 h => ?_)
            refine e_iload_n C (x := p2) rfl dX6_seepAt_71 (pc' := 72) rfl ?_
            refine f_iaload C dX6_seepAt_72 (pc' := 73) rfl h (fun v13 h => ?_)
            refine e_aload_n C (x := p1) rfl dX6_seepAt_73 (pc' := 74) rfl ?_
            refine f_getR C (ci := 0) (CN := RX0) (TT := TX0) (N := 8) 1 dX6_seepAt_74 (pc' := 77) rfl in_X6_seepAt_X0 rfl (by decide) fl_X6_seepAt_333 h (fun v14 h => ?_)
            refine e_iload_n C (x := p2) rfl dX6_seepAt_77 (pc' := 78) rfl ?_
            refine f_iaload C dX6_seepAt_78 (pc' := 79) rfl h (fun v15 h => ?_)
            obtain ⟨hv, h⟩ := h
            refine e_calli (run_V (n := 3) C (m_X6_drawAt hst h) gX6_seepAt_X6_drawAt rfl ⟨rfl, by decide, by decide, by decide +kernel⟩ ⟨by decide, by decide⟩ (ci := 6) rfl rfl hv rfl (Nat.le_of_ble_eq_true rfl) dX6_seepAt_79 ⟨by decide, by decide⟩ (As := [.ref v9, .int v13, .int v15]) rfl) (pc' := 82) rfl (cn' := 0) (sn' := 0) rfl rfl (fun v16 ws h => ?_)
            refine e_isub C dX6_seepAt_82 (pc' := 83) rfl ?_
            refine e_istore C (by decide) dX6_seepAt_83 (pc' := 85) rfl (lv' := [some (.ref p0), some (.ref p1), some (.int p2), some (.int p3), some (.int (x4 - v16)), some (.int x5), some (.ref v9)]) rfl ?_
            refine e_mask [true, true, true, true, true, true, false] (lv' := [some (.ref p0), some (.ref p1), some (.int p2), some (.int p3), some (.int (x4 - v16)), some (.int x5), none]) rfl ?_
            exact h)
  replace h := h (by
    intro x4 x5 ws h
    show Ev K G 7 0 0 85 [some (.ref p0), some (.ref p1), some (.int p2), some (.int p3), some (.int x4), some (.int x5), none] [] ws
    refine e_iinc C dX6_seepAt_85 (x := x5) (v := (x5 + (1 : Int32))) rfl rfl (by decide) (pc' := 88) rfl (lv' := [some (.ref p0), some (.ref p1), some (.int p2), some (.int p3), some (.int x4), some (.int (x5 + (1 : Int32))), none]) rfl ?_
    refine e_goto C (tg := 21) dX6_seepAt_88 (by decide) ?_
    exact h)
  refine e_aload_n C (x := p0) rfl dX6_seepAt_0 (pc' := 1) rfl ?_
  refine f_getI C (ci := 6) (CN := RX6) (TT := TX6) (N := 16) 7 dX6_seepAt_1 (pc' := 4) rfl in_X6_seepAt_X6 rfl (by decide) fl_X6_seepAt_36 h (fun v1 h => ?_)
  refine e_aload_n C (x := p0) rfl dX6_seepAt_4 (pc' := 5) rfl ?_
  refine f_getI C (ci := 6) (CN := RX6) (TT := TX6) (N := 16) 8 dX6_seepAt_5 (pc' := 8) rfl in_X6_seepAt_X6 rfl (by decide) fl_X6_seepAt_39 h (fun v2 h => ?_)
  refine e_aload_n C (x := p1) rfl dX6_seepAt_8 (pc' := 9) rfl ?_
  refine f_getR C (ci := 0) (CN := RX0) (TT := TX0) (N := 8) 0 dX6_seepAt_9 (pc' := 12) rfl in_X6_seepAt_X0 rfl (by decide) fl_X6_seepAt_330 h (fun v3 h => ?_)
  refine e_iload_n C (x := p2) rfl dX6_seepAt_12 (pc' := 13) rfl ?_
  refine f_iaload C dX6_seepAt_13 (pc' := 14) rfl h (fun v4 h => ?_)
  refine e_imul C dX6_seepAt_14 (pc' := 15) rfl ?_
  refine e_iadd C dX6_seepAt_15 (pc' := 16) rfl ?_
  refine e_istore C (by decide) dX6_seepAt_16 (pc' := 18) rfl (lv' := [some (.ref p0), some (.ref p1), some (.int p2), some (.int p3), some (.int (v1 + (v2 * v4))), none, none]) rfl ?_
  refine e_iconst C (v := (0 : Int32)) (by decide) dX6_seepAt_18 (pc' := 19) rfl ?_
  refine e_istore C (by decide) dX6_seepAt_19 (pc' := 21) rfl (lv' := [some (.ref p0), some (.ref p1), some (.int p2), some (.int p3), some (.int (v1 + (v2 * v4))), some (.int (0 : Int32)), none]) rfl ?_
  exact h
abbrev rm_X0_leaksBelow : Room := { frames := 0, cells := 0, slots := 0, locals := 0 }
set_option maxRecDepth 20000 in
theorem in_X0_leaksBelow_X0 : ∀ w ∈ wsX00, w ∈ wsX0_leaksBelow := by decide +kernel
set_option maxRecDepth 20000 in
theorem fl_X0_leaksBelow_29 : Cond.fieldLink RX0 29 (TX0 4).1 (TX0 4).2.1 (TX0 4).2.2.1 ∈ wsX0_leaksBelow := by decide +kernel
set_option maxRecDepth 20000 in
theorem fl_X0_leaksBelow_18 : Cond.fieldLink RX0 18 (TX0 2).1 (TX0 2).2.1 (TX0 2).2.2.1 ∈ wsX0_leaksBelow := by decide +kernel
def F_X0_leaksBelow (G : Gx) (p0 : Nat) (p1 : Int32) (ws : va_W) (Q : Int32 → va_W → Prop) : Prop := ((p1 < (1 : Int32) → Q (0 : Int32) ws) ∧ (¬ p1 < (1 : Int32) → qI 0 4 p0 ws (fun v1 => ((p1 < v1 → qR 0 2 p0 ws (fun v2 => qA (gc G 1) v2 p1 ws (fun v3 => qR 0 2 p0 ws (fun v4 => qA (gc G 1) v4 (p1 - (1 : Int32)) ws (fun v5 => (((v3 - v5) = 0 → Q (1 : Int32) ws) ∧ (¬ (v3 - v5) = 0 → (((v3 - v5) ≤ (20 : Int32) → Q (0 : Int32) ws) ∧ (¬ (v3 - v5) ≤ (20 : Int32) → Q (1 : Int32) ws))))))))) ∧ (¬ p1 < v1 → Q (0 : Int32) ws)))))
set_option maxRecDepth 20000 in
set_option maxHeartbeats 4000000 in
theorem m_X0_leaksBelow {G : Gx} (hst : (gl G).stackTraces = false) {p0 : Nat} {p1 : Int32} {ws : va_W} {Q : Int32 → va_W → Prop} (h : F_X0_leaksBelow G p0 p1 ws Q) : Mt G yX0_leaksBelow wsX0_leaksBelow rm_X0_leaksBelow [.ref p0, .int p1] ws (QtI G Q) := by
  refine mk_Mt (cc := cX0_leaksBelow) (nL := 3) (own := RX0) (ret := (some .boolean)) (lv0 := [some (.ref p0), some (.int p1), none]) hst (by decide) rfl rfl (Nat.le_of_ble_eq_true rfl) rfl ?_
  intro K C F
  refine e_iload_n C (x := p1) rfl dX0_leaksBelow_0 (pc' := 1) rfl ?_
  refine e_iconst C (v := (1 : Int32)) (by decide) dX0_leaksBelow_1 (pc' := 2) rfl ?_
  refine e_icmp_lt C (tg := 13) dX0_leaksBelow_2 (by decide) (pc' := 5) rfl (fun hc => ?_) (fun hc => ?_)
  · replace h := h.1 hc
    refine e_iconst C (v := (0 : Int32)) (by decide) dX0_leaksBelow_13 (pc' := 14) rfl ?_
    exact r_bool C F dX0_leaksBelow_14 (by decide) (by decide) (Or.inl rfl) h
  · replace h := h.2 hc
    refine e_iload_n C (x := p1) rfl dX0_leaksBelow_5 (pc' := 6) rfl ?_
    refine e_aload_n C (x := p0) rfl dX0_leaksBelow_6 (pc' := 7) rfl ?_
    refine f_getI C (ci := 0) (CN := RX0) (TT := TX0) (N := 8) 4 dX0_leaksBelow_7 (pc' := 10) rfl in_X0_leaksBelow_X0 rfl (by decide) fl_X0_leaksBelow_29 h (fun v1 h => ?_)
    refine e_icmp_lt C (tg := 15) dX0_leaksBelow_10 (by decide) (pc' := 13) rfl (fun hc => ?_) (fun hc => ?_)
    · replace h := h.1 hc
      refine e_aload_n C (x := p0) rfl dX0_leaksBelow_15 (pc' := 16) rfl ?_
      refine f_getR C (ci := 0) (CN := RX0) (TT := TX0) (N := 8) 2 dX0_leaksBelow_16 (pc' := 19) rfl in_X0_leaksBelow_X0 rfl (by decide) fl_X0_leaksBelow_18 h (fun v2 h => ?_)
      refine e_iload_n C (x := p1) rfl dX0_leaksBelow_19 (pc' := 20) rfl ?_
      refine f_iaload C dX0_leaksBelow_20 (pc' := 21) rfl h (fun v3 h => ?_)
      refine e_aload_n C (x := p0) rfl dX0_leaksBelow_21 (pc' := 22) rfl ?_
      refine f_getR C (ci := 0) (CN := RX0) (TT := TX0) (N := 8) 2 dX0_leaksBelow_22 (pc' := 25) rfl in_X0_leaksBelow_X0 rfl (by decide) fl_X0_leaksBelow_18 h (fun v4 h => ?_)
      refine e_iload_n C (x := p1) rfl dX0_leaksBelow_25 (pc' := 26) rfl ?_
      refine e_iconst C (v := (1 : Int32)) (by decide) dX0_leaksBelow_26 (pc' := 27) rfl ?_
      refine e_isub C dX0_leaksBelow_27 (pc' := 28) rfl ?_
      refine f_iaload C dX0_leaksBelow_28 (pc' := 29) rfl h (fun v5 h => ?_)
      refine e_isub C dX0_leaksBelow_29 (pc' := 30) rfl ?_
      refine e_istore_n C (by decide) dX0_leaksBelow_30 (pc' := 31) rfl (lv' := [some (.ref p0), some (.int p1), some (.int (v3 - v5))]) rfl ?_
      refine e_iload_n C (x := (v3 - v5)) rfl dX0_leaksBelow_31 (pc' := 32) rfl ?_
      refine e_if_eq C (tg := 41) dX0_leaksBelow_32 (by decide) (pc' := 35) rfl (fun hc => ?_) (fun hc => ?_)
      · replace h := h.1 hc
        refine e_iconst C (v := (1 : Int32)) (by decide) dX0_leaksBelow_41 (pc' := 42) rfl ?_
        refine e_goto C (tg := 46) dX0_leaksBelow_42 (by decide) ?_
        exact r_bool C F dX0_leaksBelow_46 (by decide) (by decide) (Or.inr rfl) h
      · replace h := h.2 hc
        refine e_iload_n C (x := (v3 - v5)) rfl dX0_leaksBelow_35 (pc' := 36) rfl ?_
        refine e_bipush C (v := (20 : Int32)) (by decide) dX0_leaksBelow_36 (pc' := 38) rfl ?_
        refine e_icmp_le C (tg := 45) dX0_leaksBelow_38 (by decide) (pc' := 41) rfl (fun hc => ?_) (fun hc => ?_)
        · replace h := h.1 hc
          refine e_iconst C (v := (0 : Int32)) (by decide) dX0_leaksBelow_45 (pc' := 46) rfl ?_
          exact r_bool C F dX0_leaksBelow_46 (by decide) (by decide) (Or.inl rfl) h
        · replace h := h.2 hc
          refine e_iconst C (v := (1 : Int32)) (by decide) dX0_leaksBelow_41 (pc' := 42) rfl ?_
          refine e_goto C (tg := 46) dX0_leaksBelow_42 (by decide) ?_
          exact r_bool C F dX0_leaksBelow_46 (by decide) (by decide) (Or.inr rfl) h
    · replace h := h.2 hc
      refine e_iconst C (v := (0 : Int32)) (by decide) dX0_leaksBelow_13 (pc' := 14) rfl ?_
      exact r_bool C F dX0_leaksBelow_14 (by decide) (by decide) (Or.inl rfl) h
abbrev rm_X6_flowOf : Room := { frames := 4, cells := 0, slots := 0, locals := 89 }
def F_X6_flowOf (G : Gx) (p0 : Nat) (p1 : Nat) (p2 : Int32) (ws : va_W) (Q : Int32 → va_W → Prop) : Prop := ∀ (J10 : Int32 → Int32 → va_W → Prop), ∀ (J47 : Int32 → Int32 → va_W → Prop), (∀ (x3 : Int32) (x4 : Int32) (ws : va_W), ((x4 < 0 → Q x3 ws) ∧ (¬ x4 < 0 → (qV 6 p0 ws ∧ F_X6_seepAt G p0 p1 x4 p2 ws (fun v2 ws => (qV 0 p1 ws ∧ F_X0_leaksBelow G p1 x4 ws (fun v3 ws => ((v3 = 0 → J47 (x3 + v2) x4 ws) ∧ (¬ v3 = 0 → J47 ((x3 + v2) - ((((x3 + v2) + (100 : Int32)) - (1 : Int32)) / (100 : Int32))) x4 ws)))))))) → J10 x3 x4 ws) → (∀ (x3 : Int32) (x4 : Int32) (ws : va_W), J10 x3 (x4 + (-1 : Int32)) ws → J47 x3 x4 ws) → (qV 0 p1 ws ∧ F_X0_runningWells G p1 ws (fun v1 ws => J10 (0 : Int32) (v1 - (1 : Int32)) ws))
set_option maxRecDepth 20000 in
set_option maxHeartbeats 4000000 in
theorem m_X6_flowOf {G : Gx} (hst : (gl G).stackTraces = false) {p0 : Nat} {p1 : Nat} {p2 : Int32} {ws : va_W} {Q : Int32 → va_W → Prop} (h : F_X6_flowOf G p0 p1 p2 ws Q) : Mt G yX6_flowOf wsX6_flowOf rm_X6_flowOf [.ref p0, .ref p1, .int p2] ws (QtI G Q) := by
  refine mk_Mt (cc := cX6_flowOf) (nL := 5) (own := RX6) (ret := (some .int)) (lv0 := [some (.ref p0), some (.ref p1), some (.int p2), none, none]) hst (by decide) rfl rfl (Nat.le_of_ble_eq_true rfl) rfl ?_
  intro K C F
  replace h := h (fun x3 x4 ws => Ev K G 5 0 0 10 [some (.ref p0), some (.ref p1), some (.int p2), some (.int x3), some (.int x4)] [] ws) (fun x3 x4 ws => Ev K G 5 0 0 47 [some (.ref p0), some (.ref p1), some (.int p2), some (.int x3), some (.int x4)] [] ws)
  replace h := h (by
    intro x3 x4 ws h
    show Ev K G 5 0 0 10 [some (.ref p0), some (.ref p1), some (.int p2), some (.int x3), some (.int x4)] [] ws
    refine e_iload C (x := x4) rfl dX6_flowOf_10 (pc' := 12) rfl ?_
    refine e_if_lt C (tg := 53) dX6_flowOf_12 (by decide) (pc' := 15) rfl (fun hc => ?_) (fun hc => ?_)
    · replace h := h.1 hc
      refine e_iload_n C (x := x3) rfl dX6_flowOf_53 (pc' := 54) rfl ?_
      exact r_int C F dX6_flowOf_54 (by decide) (by decide) h
    · replace h := h.2 hc
      refine e_iload_n C (x := x3) rfl dX6_flowOf_15 (pc' := 16) rfl ?_
      refine e_aload_n C (x := p0) rfl dX6_flowOf_16 (pc' := 17) rfl ?_
      refine e_aload_n C (x := p1) rfl dX6_flowOf_17 (pc' := 18) rfl ?_
      refine e_iload C (x := x4) rfl dX6_flowOf_18 (pc' := 20) rfl ?_
      refine e_iload_n C (x := p2) rfl dX6_flowOf_20 (pc' := 21) rfl ?_
      obtain ⟨hv, h⟩ := h
      refine e_calli (run_V (n := 3) C (m_X6_seepAt hst h) gX6_flowOf_X6_seepAt rfl ⟨rfl, by decide, by decide, by decide +kernel⟩ ⟨by decide, by decide⟩ (ci := 6) rfl rfl hv rfl (Nat.le_of_ble_eq_true rfl) dX6_flowOf_21 ⟨by decide, by decide⟩ (As := [.ref p1, .int x4, .int p2]) rfl) (pc' := 24) rfl (cn' := 0) (sn' := 0) rfl rfl (fun v2 ws h => ?_)
      refine e_iadd C dX6_flowOf_24 (pc' := 25) rfl ?_
      refine e_istore_n C (by decide) dX6_flowOf_25 (pc' := 26) rfl (lv' := [some (.ref p0), some (.ref p1), some (.int p2), some (.int (x3 + v2)), some (.int x4)]) rfl ?_
      refine e_aload_n C (x := p1) rfl dX6_flowOf_26 (pc' := 27) rfl ?_
      refine e_iload C (x := x4) rfl dX6_flowOf_27 (pc' := 29) rfl ?_
      obtain ⟨hv, h⟩ := h
      refine e_calli (run_V (n := 1) C (m_X0_leaksBelow hst h) gX6_flowOf_X0_leaksBelow rfl ⟨rfl, by decide, by decide, by decide +kernel⟩ ⟨by decide, by decide⟩ (ci := 0) rfl rfl hv rfl (Nat.le_of_ble_eq_true rfl) dX6_flowOf_29 ⟨by decide, by decide⟩ (As := [.int x4]) rfl) (pc' := 32) rfl (cn' := 0) (sn' := 0) rfl rfl (fun v3 ws h => ?_)
      refine e_if_eq C (tg := 47) dX6_flowOf_32 (by decide) (pc' := 35) rfl (fun hc => ?_) (fun hc => ?_)
      · replace h := h.1 hc
        exact h
      · replace h := h.2 hc
        refine e_iload_n C (x := (x3 + v2)) rfl dX6_flowOf_35 (pc' := 36) rfl ?_
        refine e_iload_n C (x := (x3 + v2)) rfl dX6_flowOf_36 (pc' := 37) rfl ?_
        refine e_bipush C (v := (100 : Int32)) (by decide) dX6_flowOf_37 (pc' := 39) rfl ?_
        refine e_iadd C dX6_flowOf_39 (pc' := 40) rfl ?_
        refine e_iconst C (v := (1 : Int32)) (by decide) dX6_flowOf_40 (pc' := 41) rfl ?_
        refine e_isub C dX6_flowOf_41 (pc' := 42) rfl ?_
        refine e_bipush C (v := (100 : Int32)) (by decide) dX6_flowOf_42 (pc' := 44) rfl ?_
        refine e_idiv C (by decide) dX6_flowOf_44 (pc' := 45) rfl ?_
        refine e_isub C dX6_flowOf_45 (pc' := 46) rfl ?_
        refine e_istore_n C (by decide) dX6_flowOf_46 (pc' := 47) rfl (lv' := [some (.ref p0), some (.ref p1), some (.int p2), some (.int ((x3 + v2) - ((((x3 + v2) + (100 : Int32)) - (1 : Int32)) / (100 : Int32)))), some (.int x4)]) rfl ?_
        exact h)
  replace h := h (by
    intro x3 x4 ws h
    show Ev K G 5 0 0 47 [some (.ref p0), some (.ref p1), some (.int p2), some (.int x3), some (.int x4)] [] ws
    refine e_iinc C dX6_flowOf_47 (x := x4) (v := (x4 + (-1 : Int32))) rfl rfl (by decide) (pc' := 50) rfl (lv' := [some (.ref p0), some (.ref p1), some (.int p2), some (.int x3), some (.int (x4 + (-1 : Int32)))]) rfl ?_
    refine e_goto C (tg := 10) dX6_flowOf_50 (by decide) ?_
    exact h)
  refine e_iconst C (v := (0 : Int32)) (by decide) dX6_flowOf_0 (pc' := 1) rfl ?_
  refine e_istore_n C (by decide) dX6_flowOf_1 (pc' := 2) rfl (lv' := [some (.ref p0), some (.ref p1), some (.int p2), some (.int (0 : Int32)), none]) rfl ?_
  refine e_aload_n C (x := p1) rfl dX6_flowOf_2 (pc' := 3) rfl ?_
  obtain ⟨hv, h⟩ := h
  refine e_calli (run_V (n := 0) C (m_X0_runningWells hst h) gX6_flowOf_X0_runningWells rfl ⟨rfl, by decide, by decide, by decide +kernel⟩ ⟨by decide, by decide⟩ (ci := 0) rfl rfl hv rfl (Nat.le_of_ble_eq_true rfl) dX6_flowOf_3 ⟨by decide, by decide⟩ (As := []) rfl) (pc' := 6) rfl (cn' := 0) (sn' := 0) rfl rfl (fun v1 ws h => ?_)
  refine e_iconst C (v := (1 : Int32)) (by decide) dX6_flowOf_6 (pc' := 7) rfl ?_
  refine e_isub C dX6_flowOf_7 (pc' := 8) rfl ?_
  refine e_istore C (by decide) dX6_flowOf_8 (pc' := 10) rfl (lv' := [some (.ref p0), some (.ref p1), some (.int p2), some (.int (0 : Int32)), some (.int (v1 - (1 : Int32)))]) rfl ?_
  exact h
abbrev rm_X6_flow : Room := { frames := 8, cells := 2, slots := 12, locals := 125 }
set_option maxRecDepth 20000 in
theorem in_X6_flow_X6 : ∀ w ∈ wsX60, w ∈ wsX6_flow := by decide +kernel
set_option maxRecDepth 20000 in
theorem fl_X6_flow_135 : Cond.fieldLink RX6 135 (TX6 6).1 (TX6 6).2.1 (TX6 6).2.2.1 ∈ wsX6_flow := by decide +kernel
def F_X6_flow (G : Gx) (p0 : Nat) (p1 : Int32) (ws : va_W) (Q : Int32 → va_W → Prop) (X : String → va_W → Prop) : Prop := (qV 6 p0 ws ∧ F_X6_dugAt G p0 p1 ws (fun v1 ws => qI 6 6 p0 ws (fun v2 => (qV 6 p0 ws ∧ F_X6_flowOf G p0 v1 v2 ws (fun v3 ws => Q v3 ws)))) X)
set_option maxRecDepth 20000 in
set_option maxHeartbeats 4000000 in
theorem m_X6_flow {G : Gx} (hst : (gl G).stackTraces = false) {p0 : Nat} {p1 : Int32} {ws : va_W} {Q : Int32 → va_W → Prop} {X : String → va_W → Prop} (h : F_X6_flow G p0 p1 ws Q X) : Xt G yX6_flow wsX6_flow rm_X6_flow [.ref p0, .int p1] ws (QtI G Q) X := by
  refine mk_Xt (cc := cX6_flow) (nL := 2) (own := RX6) (ret := (some .int)) (lv0 := [some (.ref p0), some (.int p1)]) hst (by decide) rfl rfl (Nat.le_of_ble_eq_true rfl) rfl ?_
  intro K C F
  refine e_aload_n C (x := p0) rfl dX6_flow_0 (pc' := 1) rfl ?_
  refine e_aload_n C (x := p0) rfl dX6_flow_1 (pc' := 2) rfl ?_
  refine e_iload_n C (x := p1) rfl dX6_flow_2 (pc' := 3) rfl ?_
  obtain ⟨hv, h⟩ := h
  refine e_xcallr (run_XV (n := 1) C (m_X6_dugAt hst h) gX6_flow_X6_dugAt rfl ⟨rfl, by decide, by decide, by decide +kernel⟩ ⟨by decide, by decide⟩ (ci := 6) rfl rfl hv rfl (Nat.le_of_ble_eq_true rfl) dX6_flow_3 ⟨by decide, by decide⟩ (As := [.int p1]) rfl) (pc' := 6) rfl (cn' := 2) (sn' := 12) rfl rfl (fun E u hx => x_out C F (by decide) (by decide) hx) (fun v1 ws h => ?_)
  refine e_aload_n C (x := p0) rfl dX6_flow_6 (pc' := 7) rfl ?_
  refine f_getI C (ci := 6) (CN := RX6) (TT := TX6) (N := 16) 6 dX6_flow_7 (pc' := 10) rfl in_X6_flow_X6 rfl (by decide) fl_X6_flow_135 h (fun v2 h => ?_)
  obtain ⟨hv, h⟩ := h
  refine e_calli (run_V (n := 2) C (m_X6_flowOf hst h) gX6_flow_X6_flowOf rfl ⟨rfl, by decide, by decide, by decide +kernel⟩ ⟨by decide, by decide⟩ (ci := 6) rfl rfl hv rfl (Nat.le_of_ble_eq_true rfl) dX6_flow_10 ⟨by decide, by decide⟩ (As := [.ref v1, .int v2]) rfl) (pc' := 13) rfl (cn' := 2) (sn' := 12) rfl rfl (fun v3 ws h => ?_)
  exact x_int C F dX6_flow_13 (by decide) (by decide) h
abbrev rm_X6_harm : Room := { frames := 8, cells := 2, slots := 12, locals := 125 }
set_option maxRecDepth 20000 in
theorem in_X6_harm_X0 : ∀ w ∈ wsX00, w ∈ wsX6_harm := by decide +kernel
set_option maxRecDepth 20000 in
theorem fl_X6_harm_138 : Cond.fieldLink RX6 138 (TX0 7).1 (TX0 7).2.1 (TX0 7).2.2.1 ∈ wsX6_harm := by decide +kernel
set_option maxRecDepth 20000 in
theorem in_X6_harm_X6 : ∀ w ∈ wsX60, w ∈ wsX6_harm := by decide +kernel
set_option maxRecDepth 20000 in
theorem fl_X6_harm_135 : Cond.fieldLink RX6 135 (TX6 6).1 (TX6 6).2.1 (TX6 6).2.2.1 ∈ wsX6_harm := by decide +kernel
def F_X6_harm (G : Gx) (p0 : Nat) (p1 : Int32) (ws : va_W) (Q : Int32 → va_W → Prop) (X : String → va_W → Prop) : Prop := (qV 6 p0 ws ∧ F_X6_dugAt G p0 p1 ws (fun v1 ws => qI 0 7 v1 ws (fun v2 => (qV 6 p0 ws ∧ F_X6_flowOf G p0 v1 v2 ws (fun v3 ws => qI 6 6 p0 ws (fun v4 => (qV 6 p0 ws ∧ F_X6_flowOf G p0 v1 v4 ws (fun v5 ws => Q (v3 - v5) ws))))))) X)
set_option maxRecDepth 20000 in
set_option maxHeartbeats 4000000 in
theorem m_X6_harm {G : Gx} (hst : (gl G).stackTraces = false) {p0 : Nat} {p1 : Int32} {ws : va_W} {Q : Int32 → va_W → Prop} {X : String → va_W → Prop} (h : F_X6_harm G p0 p1 ws Q X) : Xt G yX6_harm wsX6_harm rm_X6_harm [.ref p0, .int p1] ws (QtI G Q) X := by
  refine mk_Xt (cc := cX6_harm) (nL := 3) (own := RX6) (ret := (some .int)) (lv0 := [some (.ref p0), some (.int p1), none]) hst (by decide) rfl rfl (Nat.le_of_ble_eq_true rfl) rfl ?_
  intro K C F
  refine e_aload_n C (x := p0) rfl dX6_harm_0 (pc' := 1) rfl ?_
  refine e_iload_n C (x := p1) rfl dX6_harm_1 (pc' := 2) rfl ?_
  obtain ⟨hv, h⟩ := h
  refine e_xcallr (run_XV (n := 1) C (m_X6_dugAt hst h) gX6_harm_X6_dugAt rfl ⟨rfl, by decide, by decide, by decide +kernel⟩ ⟨by decide, by decide⟩ (ci := 6) rfl rfl hv rfl (Nat.le_of_ble_eq_true rfl) dX6_harm_2 ⟨by decide, by decide⟩ (As := [.int p1]) rfl) (pc' := 5) rfl (cn' := 2) (sn' := 12) rfl rfl (fun E u hx => x_out C F (by decide) (by decide) hx) (fun v1 ws h => ?_)
  refine e_astore_n C (by decide) dX6_harm_5 (pc' := 6) rfl (lv' := [some (.ref p0), some (.int p1), some (.ref v1)]) rfl ?_
  refine e_aload_n C (x := p0) rfl dX6_harm_6 (pc' := 7) rfl ?_
  refine e_aload_n C (x := v1) rfl dX6_harm_7 (pc' := 8) rfl ?_
  refine e_aload_n C (x := v1) rfl dX6_harm_8 (pc' := 9) rfl ?_
  refine f_getI C (ci := 0) (CN := RX0) (TT := TX0) (N := 8) 7 dX6_harm_9 (pc' := 12) rfl in_X6_harm_X0 rfl (by decide) fl_X6_harm_138 h (fun v2 h => ?_)
  obtain ⟨hv, h⟩ := h
  refine e_calli (run_V (n := 2) C (m_X6_flowOf hst h) gX6_harm_X6_flowOf rfl ⟨rfl, by decide, by decide, by decide +kernel⟩ ⟨by decide, by decide⟩ (ci := 6) rfl rfl hv rfl (Nat.le_of_ble_eq_true rfl) dX6_harm_12 ⟨by decide, by decide⟩ (As := [.ref v1, .int v2]) rfl) (pc' := 15) rfl (cn' := 2) (sn' := 12) rfl rfl (fun v3 ws h => ?_)
  refine e_aload_n C (x := p0) rfl dX6_harm_15 (pc' := 16) rfl ?_
  refine e_aload_n C (x := v1) rfl dX6_harm_16 (pc' := 17) rfl ?_
  refine e_aload_n C (x := p0) rfl dX6_harm_17 (pc' := 18) rfl ?_
  refine f_getI C (ci := 6) (CN := RX6) (TT := TX6) (N := 16) 6 dX6_harm_18 (pc' := 21) rfl in_X6_harm_X6 rfl (by decide) fl_X6_harm_135 h (fun v4 h => ?_)
  obtain ⟨hv, h⟩ := h
  refine e_calli (run_V (n := 2) C (m_X6_flowOf hst h) gX6_harm_X6_flowOf rfl ⟨rfl, by decide, by decide, by decide +kernel⟩ ⟨by decide, by decide⟩ (ci := 6) rfl rfl hv rfl (Nat.le_of_ble_eq_true rfl) dX6_harm_21 ⟨by decide, by decide⟩ (As := [.ref v1, .int v4]) rfl) (pc' := 24) rfl (cn' := 2) (sn' := 12) rfl rfl (fun v5 ws h => ?_)
  refine e_isub C dX6_harm_24 (pc' := 25) rfl ?_
  exact x_int C F dX6_harm_25 (by decide) (by decide) h
abbrev rm_X6_seep : Room := { frames := 8, cells := 2, slots := 12, locals := 126 }
set_option maxRecDepth 20000 in
theorem in_X6_seep_X6 : ∀ w ∈ wsX60, w ∈ wsX6_seep := by decide +kernel
set_option maxRecDepth 20000 in
theorem fl_X6_seep_135 : Cond.fieldLink RX6 135 (TX6 6).1 (TX6 6).2.1 (TX6 6).2.2.1 ∈ wsX6_seep := by decide +kernel
def F_X6_seep (G : Gx) (p0 : Nat) (p1 : Int32) (p2 : Int32) (ws : va_W) (Q : Int32 → va_W → Prop) (X : String → va_W → Prop) : Prop := (qV 6 p0 ws ∧ F_X6_dugWithWell G p0 p1 p2 ws (fun v1 ws => (qV 0 v1 ws ∧ F_X0_runningWells G v1 ws (fun v2 ws => ((v2 ≤ p2 → Q (0 : Int32) ws) ∧ (¬ v2 ≤ p2 → qI 6 6 p0 ws (fun v3 => (qV 6 p0 ws ∧ F_X6_seepAt G p0 v1 p2 v3 ws (fun v4 ws => Q v4 ws)))))))) X)
set_option maxRecDepth 20000 in
set_option maxHeartbeats 4000000 in
theorem m_X6_seep {G : Gx} (hst : (gl G).stackTraces = false) {p0 : Nat} {p1 : Int32} {p2 : Int32} {ws : va_W} {Q : Int32 → va_W → Prop} {X : String → va_W → Prop} (h : F_X6_seep G p0 p1 p2 ws Q X) : Xt G yX6_seep wsX6_seep rm_X6_seep [.ref p0, .int p1, .int p2] ws (QtI G Q) X := by
  refine mk_Xt (cc := cX6_seep) (nL := 4) (own := RX6) (ret := (some .int)) (lv0 := [some (.ref p0), some (.int p1), some (.int p2), none]) hst (by decide) rfl rfl (Nat.le_of_ble_eq_true rfl) rfl ?_
  intro K C F
  refine e_aload_n C (x := p0) rfl dX6_seep_0 (pc' := 1) rfl ?_
  refine e_iload_n C (x := p1) rfl dX6_seep_1 (pc' := 2) rfl ?_
  refine e_iload_n C (x := p2) rfl dX6_seep_2 (pc' := 3) rfl ?_
  obtain ⟨hv, h⟩ := h
  refine e_xcallr (run_XV (n := 2) C (m_X6_dugWithWell hst h) gX6_seep_X6_dugWithWell rfl ⟨rfl, by decide, by decide, by decide +kernel⟩ ⟨by decide, by decide⟩ (ci := 6) rfl rfl hv rfl (Nat.le_of_ble_eq_true rfl) dX6_seep_3 ⟨by decide, by decide⟩ (As := [.int p1, .int p2]) rfl) (pc' := 6) rfl (cn' := 2) (sn' := 12) rfl rfl (fun E u hx => x_out C F (by decide) (by decide) hx) (fun v1 ws h => ?_)
  refine e_astore_n C (by decide) dX6_seep_6 (pc' := 7) rfl (lv' := [some (.ref p0), some (.int p1), some (.int p2), some (.ref v1)]) rfl ?_
  refine e_iload_n C (x := p2) rfl dX6_seep_7 (pc' := 8) rfl ?_
  refine e_aload_n C (x := v1) rfl dX6_seep_8 (pc' := 9) rfl ?_
  obtain ⟨hv, h⟩ := h
  refine e_calli (run_V (n := 0) C (m_X0_runningWells hst h) gX6_seep_X0_runningWells rfl ⟨rfl, by decide, by decide, by decide +kernel⟩ ⟨by decide, by decide⟩ (ci := 0) rfl rfl hv rfl (Nat.le_of_ble_eq_true rfl) dX6_seep_9 ⟨by decide, by decide⟩ (As := []) rfl) (pc' := 12) rfl (cn' := 2) (sn' := 12) rfl rfl (fun v2 ws h => ?_)
  refine e_icmp_ge C (tg := 28) dX6_seep_12 (by decide) (pc' := 15) rfl (fun hc => ?_) (fun hc => ?_)
  · replace h := h.1 hc
    refine e_iconst C (v := (0 : Int32)) (by decide) dX6_seep_28 (pc' := 29) rfl ?_
    exact x_int C F dX6_seep_29 (by decide) (by decide) h
  · replace h := h.2 hc
    refine e_aload_n C (x := p0) rfl dX6_seep_15 (pc' := 16) rfl ?_
    refine e_aload_n C (x := v1) rfl dX6_seep_16 (pc' := 17) rfl ?_
    refine e_iload_n C (x := p2) rfl dX6_seep_17 (pc' := 18) rfl ?_
    refine e_aload_n C (x := p0) rfl dX6_seep_18 (pc' := 19) rfl ?_
    refine f_getI C (ci := 6) (CN := RX6) (TT := TX6) (N := 16) 6 dX6_seep_19 (pc' := 22) rfl in_X6_seep_X6 rfl (by decide) fl_X6_seep_135 h (fun v3 h => ?_)
    obtain ⟨hv, h⟩ := h
    refine e_calli (run_V (n := 3) C (m_X6_seepAt hst h) gX6_seep_X6_seepAt rfl ⟨rfl, by decide, by decide, by decide +kernel⟩ ⟨by decide, by decide⟩ (ci := 6) rfl rfl hv rfl (Nat.le_of_ble_eq_true rfl) dX6_seep_22 ⟨by decide, by decide⟩ (As := [.ref v1, .int p2, .int v3]) rfl) (pc' := 25) rfl (cn' := 2) (sn' := 12) rfl rfl (fun v4 ws h => ?_)
    refine e_goto C (tg := 29) dX6_seep_25 (by decide) ?_
    exact x_int C F dX6_seep_29 (by decide) (by decide) h
abbrev rm_X6_shareAt : Room := { frames := 6, cells := 1, slots := 6, locals := 82 }
set_option maxRecDepth 20000 in
theorem w_X6_shareAt_k304 : Cond.classLink RX6 304 "java/lang/IndexOutOfBoundsException" ∈ wsX6_shareAt := by decide +kernel
set_option maxRecDepth 20000 in
theorem w_X6_shareAt_i304 : Cond.initialized "java/lang/IndexOutOfBoundsException" ∈ wsX6_shareAt := by decide +kernel
set_option maxRecDepth 20000 in
theorem gw_X6_shareAt_308 : ∀ w ∈ (vx_atS RX6 308 "java/lang/IndexOutOfBoundsException" xnms).filter goodWord, w ∈ wsX6_shareAt := by decide +kernel
set_option maxRecDepth 20000 in
theorem in_X6_shareAt_X6 : ∀ w ∈ wsX60, w ∈ wsX6_shareAt := by decide +kernel
set_option maxRecDepth 20000 in
theorem fl_X6_shareAt_123 : Cond.fieldLink RX6 123 (TX6 11).1 (TX6 11).2.1 (TX6 11).2.2.1 ∈ wsX6_shareAt := by decide +kernel
set_option maxRecDepth 20000 in
theorem fl_X6_shareAt_44 : Cond.fieldLink RX6 44 (TX6 10).1 (TX6 10).2.1 (TX6 10).2.2.1 ∈ wsX6_shareAt := by decide +kernel
def F_X6_shareAt (G : Gx) (p0 : Nat) (p1 : Int32) (ws : va_W) (Q : Nat → va_W → Prop) (X : String → va_W → Prop) : Prop := ((p1 < 0 → X "java/lang/IndexOutOfBoundsException" ws) ∧ (¬ p1 < 0 → qI 6 11 p0 ws (fun v1 => ((p1 < v1 → qR 6 10 p0 ws (fun v2 => qQ (gc G 4) v2 p1 ws (fun v3 => Q v3 ws))) ∧ (¬ p1 < v1 → X "java/lang/IndexOutOfBoundsException" ws)))))
set_option maxRecDepth 20000 in
set_option maxHeartbeats 4000000 in
theorem m_X6_shareAt {G : Gx} (hst : (gl G).stackTraces = false) {p0 : Nat} {p1 : Int32} {ws : va_W} {Q : Nat → va_W → Prop} {X : String → va_W → Prop} (h : F_X6_shareAt G p0 p1 ws Q X) : Xt G yX6_shareAt wsX6_shareAt rm_X6_shareAt [.ref p0, .int p1] ws (QtR G Q) X := by
  refine mk_Xt (cc := cX6_shareAt) (nL := 2) (own := RX6) (ret := (some (.object "DesertChannels$Share"))) (lv0 := [some (.ref p0), some (.int p1)]) hst (by decide) rfl rfl (Nat.le_of_ble_eq_true rfl) rfl ?_
  intro K C F
  refine e_iload_n C (x := p1) rfl dX6_shareAt_0 (pc' := 1) rfl ?_
  refine e_if_lt C (tg := 12) dX6_shareAt_1 (by decide) (pc' := 4) rfl (fun hc => ?_) (fun hc => ?_)
  · replace h := h.1 hc
    exact x_throwSW C F (E := "java/lang/IndexOutOfBoundsException") (tx := "there is no such share") (by decide) (by decide) w_X6_shareAt_k304 w_X6_shareAt_i304 (by decide) gw_X6_shareAt_308 xb_X6_308 xo_X6_308_304 dX6_shareAt_12 dX6_shareAt_15 dX6_shareAt_16 dX6_shareAt_19 dX6_shareAt_22 (by decide) (by decide) (by decide) (by decide) h
  · replace h := h.2 hc
    refine e_iload_n C (x := p1) rfl dX6_shareAt_4 (pc' := 5) rfl ?_
    refine e_aload_n C (x := p0) rfl dX6_shareAt_5 (pc' := 6) rfl ?_
    refine f_getI C (ci := 6) (CN := RX6) (TT := TX6) (N := 16) 11 dX6_shareAt_6 (pc' := 9) rfl in_X6_shareAt_X6 rfl (by decide) fl_X6_shareAt_123 h (fun v1 h => ?_)
    refine e_icmp_lt C (tg := 23) dX6_shareAt_9 (by decide) (pc' := 12) rfl (fun hc => ?_) (fun hc => ?_)
    · replace h := h.1 hc
      refine e_aload_n C (x := p0) rfl dX6_shareAt_23 (pc' := 24) rfl ?_
      refine f_getR C (ci := 6) (CN := RX6) (TT := TX6) (N := 16) 10 dX6_shareAt_24 (pc' := 27) rfl in_X6_shareAt_X6 rfl (by decide) fl_X6_shareAt_44 h (fun v2 h => ?_)
      refine e_iload_n C (x := p1) rfl dX6_shareAt_27 (pc' := 28) rfl ?_
      refine f_aaloadS C dX6_shareAt_28 (pc' := 29) rfl h (fun v3 h => ?_)
      exact x_ref C F dX6_shareAt_29 (by decide) (by decide) h
    · replace h := h.2 hc
      exact x_throwSW C F (E := "java/lang/IndexOutOfBoundsException") (tx := "there is no such share") (by decide) (by decide) w_X6_shareAt_k304 w_X6_shareAt_i304 (by decide) gw_X6_shareAt_308 xb_X6_308 xo_X6_308_304 dX6_shareAt_12 dX6_shareAt_15 dX6_shareAt_16 dX6_shareAt_19 dX6_shareAt_22 (by decide) (by decide) (by decide) (by decide) h
abbrev rm_X4_isLetFrom : Room := { frames := 0, cells := 0, slots := 0, locals := 0 }
set_option maxRecDepth 20000 in
theorem in_X4_isLetFrom_X4 : ∀ w ∈ wsX40, w ∈ wsX4_isLetFrom := by decide +kernel
set_option maxRecDepth 20000 in
theorem fl_X4_isLetFrom_30 : Cond.fieldLink RX4 30 (TX4 6).1 (TX4 6).2.1 (TX4 6).2.2.1 ∈ wsX4_isLetFrom := by decide +kernel
def F_X4_isLetFrom (G : Gx) (p0 : Nat) (p1 : Int32) (ws : va_W) (Q : Int32 → va_W → Prop) : Prop := qI 4 6 p0 ws (fun v1 => ((v1 ≤ p1 → Q (0 : Int32) ws) ∧ (¬ v1 ≤ p1 → Q (1 : Int32) ws)))
set_option maxRecDepth 20000 in
set_option maxHeartbeats 4000000 in
theorem m_X4_isLetFrom {G : Gx} (hst : (gl G).stackTraces = false) {p0 : Nat} {p1 : Int32} {ws : va_W} {Q : Int32 → va_W → Prop} (h : F_X4_isLetFrom G p0 p1 ws Q) : Mt G yX4_isLetFrom wsX4_isLetFrom rm_X4_isLetFrom [.ref p0, .int p1] ws (QtI G Q) := by
  refine mk_Mt (cc := cX4_isLetFrom) (nL := 2) (own := RX4) (ret := (some .boolean)) (lv0 := [some (.ref p0), some (.int p1)]) hst (by decide) rfl rfl (Nat.le_of_ble_eq_true rfl) rfl ?_
  intro K C F
  refine e_aload_n C (x := p0) rfl dX4_isLetFrom_0 (pc' := 1) rfl ?_
  refine f_getI C (ci := 4) (CN := RX4) (TT := TX4) (N := 7) 6 dX4_isLetFrom_1 (pc' := 4) rfl in_X4_isLetFrom_X4 rfl (by decide) fl_X4_isLetFrom_30 h (fun v1 h => ?_)
  refine e_iload_n C (x := p1) rfl dX4_isLetFrom_4 (pc' := 5) rfl ?_
  refine e_icmp_le C (tg := 12) dX4_isLetFrom_5 (by decide) (pc' := 8) rfl (fun hc => ?_) (fun hc => ?_)
  · replace h := h.1 hc
    refine e_iconst C (v := (0 : Int32)) (by decide) dX4_isLetFrom_12 (pc' := 13) rfl ?_
    exact r_bool C F dX4_isLetFrom_13 (by decide) (by decide) (Or.inl rfl) h
  · replace h := h.2 hc
    refine e_iconst C (v := (1 : Int32)) (by decide) dX4_isLetFrom_8 (pc' := 9) rfl ?_
    refine e_goto C (tg := 13) dX4_isLetFrom_9 (by decide) ?_
    exact r_bool C F dX4_isLetFrom_13 (by decide) (by decide) (Or.inr rfl) h
abbrev rm_X6_unletAt : Room := { frames := 7, cells := 2, slots := 12, locals := 103 }
set_option maxRecDepth 20000 in
theorem in_X6_unletAt_X6 : ∀ w ∈ wsX60, w ∈ wsX6_unletAt := by decide +kernel
set_option maxRecDepth 20000 in
theorem fl_X6_unletAt_208 : Cond.fieldLink RX6 208 (TX6 12).1 (TX6 12).2.1 (TX6 12).2.2.1 ∈ wsX6_unletAt := by decide +kernel
set_option maxRecDepth 20000 in
theorem w_X6_unletAt_k313 : Cond.classLink RX6 313 "java/lang/IllegalStateException" ∈ wsX6_unletAt := by decide +kernel
set_option maxRecDepth 20000 in
theorem w_X6_unletAt_i313 : Cond.initialized "java/lang/IllegalStateException" ∈ wsX6_unletAt := by decide +kernel
set_option maxRecDepth 20000 in
theorem gw_X6_unletAt_317 : ∀ w ∈ (vx_atS RX6 317 "java/lang/IllegalStateException" xnms).filter goodWord, w ∈ wsX6_unletAt := by decide +kernel
def F_X6_unletAt (G : Gx) (p0 : Nat) (p1 : Int32) (ws : va_W) (Q : Nat → va_W → Prop) (X : String → va_W → Prop) : Prop := (qV 6 p0 ws ∧ F_X6_shareAt G p0 p1 ws (fun v1 ws => qI 6 12 p0 ws (fun v2 => (qV 4 v1 ws ∧ F_X4_isLetFrom G v1 v2 ws (fun v3 ws => ((v3 = 0 → Q v1 ws) ∧ (¬ v3 = 0 → X "java/lang/IllegalStateException" ws)))))) X)
set_option maxRecDepth 20000 in
set_option maxHeartbeats 4000000 in
theorem m_X6_unletAt {G : Gx} (hst : (gl G).stackTraces = false) {p0 : Nat} {p1 : Int32} {ws : va_W} {Q : Nat → va_W → Prop} {X : String → va_W → Prop} (h : F_X6_unletAt G p0 p1 ws Q X) : Xt G yX6_unletAt wsX6_unletAt rm_X6_unletAt [.ref p0, .int p1] ws (QtR G Q) X := by
  refine mk_Xt (cc := cX6_unletAt) (nL := 3) (own := RX6) (ret := (some (.object "DesertChannels$Share"))) (lv0 := [some (.ref p0), some (.int p1), none]) hst (by decide) rfl rfl (Nat.le_of_ble_eq_true rfl) rfl ?_
  intro K C F
  refine e_aload_n C (x := p0) rfl dX6_unletAt_0 (pc' := 1) rfl ?_
  refine e_iload_n C (x := p1) rfl dX6_unletAt_1 (pc' := 2) rfl ?_
  obtain ⟨hv, h⟩ := h
  refine e_xcallr (run_XV (n := 1) C (m_X6_shareAt hst h) gX6_unletAt_X6_shareAt rfl ⟨rfl, by decide, by decide, by decide +kernel⟩ ⟨by decide, by decide⟩ (ci := 6) rfl rfl hv rfl (Nat.le_of_ble_eq_true rfl) dX6_unletAt_2 ⟨by decide, by decide⟩ (As := [.int p1]) rfl) (pc' := 5) rfl (cn' := 1) (sn' := 6) rfl rfl (fun E u hx => x_out C F (by decide) (by decide) hx) (fun v1 ws h => ?_)
  refine e_astore_n C (by decide) dX6_unletAt_5 (pc' := 6) rfl (lv' := [some (.ref p0), some (.int p1), some (.ref v1)]) rfl ?_
  refine e_aload_n C (x := v1) rfl dX6_unletAt_6 (pc' := 7) rfl ?_
  refine e_aload_n C (x := p0) rfl dX6_unletAt_7 (pc' := 8) rfl ?_
  refine f_getI C (ci := 6) (CN := RX6) (TT := TX6) (N := 16) 12 dX6_unletAt_8 (pc' := 11) rfl in_X6_unletAt_X6 rfl (by decide) fl_X6_unletAt_208 h (fun v2 h => ?_)
  obtain ⟨hv, h⟩ := h
  refine e_calli (run_V (n := 1) C (m_X4_isLetFrom hst h) gX6_unletAt_X4_isLetFrom rfl ⟨rfl, by decide, by decide, by decide +kernel⟩ ⟨by decide, by decide⟩ (ci := 4) rfl rfl hv rfl (Nat.le_of_ble_eq_true rfl) dX6_unletAt_11 ⟨by decide, by decide⟩ (As := [.int v2]) rfl) (pc' := 14) rfl (cn' := 1) (sn' := 6) rfl rfl (fun v3 ws h => ?_)
  refine e_if_eq C (tg := 28) dX6_unletAt_14 (by decide) (pc' := 17) rfl (fun hc => ?_) (fun hc => ?_)
  · replace h := h.1 hc
    refine e_aload_n C (x := v1) rfl dX6_unletAt_28 (pc' := 29) rfl ?_
    exact x_ref C F dX6_unletAt_29 (by decide) (by decide) h
  · replace h := h.2 hc
    exact x_throwSW C F (E := "java/lang/IllegalStateException") (tx := "the share is let") (by decide) (by decide) w_X6_unletAt_k313 w_X6_unletAt_i313 (by decide) gw_X6_unletAt_317 xb_X6_317 xo_X6_317_313 dX6_unletAt_17 dX6_unletAt_20 dX6_unletAt_21 dX6_unletAt_24 dX6_unletAt_27 (by decide) (by decide) (by decide) (by decide) h
abbrev rm_X6_sell : Room := { frames := 8, cells := 3, slots := 18, locals := 125 }
set_option maxRecDepth 20000 in
theorem w_X6_sell_k79 : Cond.classLink RX6 79 "java/lang/IllegalArgumentException" ∈ wsX6_sell := by decide +kernel
set_option maxRecDepth 20000 in
theorem w_X6_sell_i79 : Cond.initialized "java/lang/IllegalArgumentException" ∈ wsX6_sell := by decide +kernel
set_option maxRecDepth 20000 in
theorem gw_X6_sell_83 : ∀ w ∈ (vx_atS RX6 83 "java/lang/IllegalArgumentException" xnms).filter goodWord, w ∈ wsX6_sell := by decide +kernel
set_option maxRecDepth 20000 in
theorem in_X6_sell_X4 : ∀ w ∈ wsX40, w ∈ wsX6_sell := by decide +kernel
set_option maxRecDepth 20000 in
theorem fl_X6_sell_173 : Cond.fieldLink RX6 173 (TX4 1).1 (TX4 1).2.1 (TX4 1).2.2.1 ∈ wsX6_sell := by decide +kernel
set_option maxRecDepth 20000 in
theorem fl_X6_sell_176 : Cond.fieldLink RX6 176 (TX4 2).1 (TX4 2).2.1 (TX4 2).2.2.1 ∈ wsX6_sell := by decide +kernel
set_option maxRecDepth 20000 in
theorem in_X6_sell_X6 : ∀ w ∈ wsX60, w ∈ wsX6_sell := by decide +kernel
set_option maxRecDepth 20000 in
theorem fl_X6_sell_123 : Cond.fieldLink RX6 123 (TX6 11).1 (TX6 11).2.1 (TX6 11).2.2.1 ∈ wsX6_sell := by decide +kernel
set_option maxRecDepth 20000 in
theorem fl_X6_sell_183 : Cond.fieldLink RX6 183 (TX4 0).1 (TX4 0).2.1 (TX4 0).2.2.1 ∈ wsX6_sell := by decide +kernel
set_option maxRecDepth 20000 in
theorem fl_X6_sell_186 : Cond.fieldLink RX6 186 (TX4 3).1 (TX4 3).2.1 (TX4 3).2.2.1 ∈ wsX6_sell := by decide +kernel
set_option maxRecDepth 20000 in
theorem w_X6_sell_k89 : Cond.classLink RX6 89 "java/lang/UnsupportedOperationException" ∈ wsX6_sell := by decide +kernel
set_option maxRecDepth 20000 in
theorem w_X6_sell_i89 : Cond.initialized "java/lang/UnsupportedOperationException" ∈ wsX6_sell := by decide +kernel
set_option maxRecDepth 20000 in
theorem gw_X6_sell_93 : ∀ w ∈ (vx_atS RX6 93 "java/lang/UnsupportedOperationException" xnms).filter goodWord, w ∈ wsX6_sell := by decide +kernel
def F_X6_sell (G : Gx) (p0 : Nat) (p1 : Int32) (p2 : Int32) (p3 : Int32) (p4 : Int32) (ws : va_W) (Q : va_W → Prop) (X : String → va_W → Prop) : Prop := ∀ (J62 : Nat → Int32 → va_W → Prop), ∀ (J78 : Nat → Int32 → Int32 → va_W → Prop), ∀ (J94 : Nat → Int32 → Int32 → Int32 → Int32 → va_W → Prop), ∀ (J105 : Nat → Int32 → Int32 → Int32 → Int32 → va_W → Prop), ∀ (J146 : Nat → Int32 → va_W → Prop), ∀ (J171 : Nat → va_W → Prop), (∀ (x5 : Nat) (t0 : Int32) (ws : va_W), qI 4 2 x5 ws (fun v6 => ((v6 ≤ p3 → J78 x5 t0 (0 : Int32) ws) ∧ (¬ v6 ≤ p3 → J78 x5 t0 (1 : Int32) ws))) → J62 x5 t0 ws) → (∀ (x5 : Nat) (x6 : Int32) (t0 : Int32) (ws : va_W), qI 6 11 p0 ws (fun v7 => ((x6 = 0 → J94 x5 x6 t0 (0 : Int32) v7 ws) ∧ (¬ x6 = 0 → J94 x5 x6 t0 (1 : Int32) v7 ws))) → J78 x5 x6 t0 ws) → (∀ (x5 : Nat) (x6 : Int32) (x7 : Int32) (t0 : Int32) (t1 : Int32) (ws : va_W), ((x7 = 0 → J105 x5 x6 x7 (0 : Int32) (t1 + t0) ws) ∧ (¬ x7 = 0 → J105 x5 x6 x7 (1 : Int32) (t1 + t0) ws)) → J94 x5 x6 x7 t0 t1 ws) → (∀ (x5 : Nat) (x6 : Int32) (x7 : Int32) (t0 : Int32) (t1 : Int32) (ws : va_W), (((t1 + t0) ≤ (60 : Int32) → ((x6 = 0 → J146 x5 x7 ws) ∧ (¬ x6 = 0 → qI 4 0 x5 ws (fun v8 => qI 4 1 x5 ws (fun v9 => qI 4 3 x5 ws (fun v10 => (qV 6 p0 ws ∧ F_X6_addShare G p0 v8 v9 p2 v10 ws (fun ws => J146 x5 x7 ws)))))))) ∧ (¬ (t1 + t0) ≤ (60 : Int32) → X "java/lang/UnsupportedOperationException" ws)) → J105 x5 x6 x7 t0 t1 ws) → (∀ (x5 : Nat) (x7 : Int32) (ws : va_W), ((x7 = 0 → J171 x5 ws) ∧ (¬ x7 = 0 → qI 4 0 x5 ws (fun v12 => qI 4 2 x5 ws (fun v13 => qI 4 3 x5 ws (fun v14 => (qV 6 p0 ws ∧ F_X6_addShare G p0 v12 p3 v13 v14 ws (fun ws => J171 x5 ws))))))) → J146 x5 x7 ws) → (∀ (x5 : Nat) (ws : va_W), qI 4 0 x5 ws (fun v16 => (qV 4 x5 ws ∧ F_X4_become G x5 v16 p2 p3 p4 ws (fun ws => Q ws))) → J171 x5 ws) → (qV 6 p0 ws ∧ F_X6_unletAt G p0 p1 ws (fun v1 ws => (F_X6_isOwner G p4 ws (fun v2 ws => ((v2 = 0 → X "java/lang/IllegalArgumentException" ws) ∧ (¬ v2 = 0 → qI 4 1 v1 ws (fun v3 => ((p2 < v3 → X "java/lang/IllegalArgumentException" ws) ∧ (¬ p2 < v3 → ((p3 ≤ p2 → X "java/lang/IllegalArgumentException" ws) ∧ (¬ p3 ≤ p2 → qI 4 2 v1 ws (fun v4 => ((p3 ≤ v4 → qI 4 1 v1 ws (fun v5 => ((p2 ≤ v5 → J62 v1 (0 : Int32) ws) ∧ (¬ p2 ≤ v5 → J62 v1 (1 : Int32) ws)))) ∧ (¬ p3 ≤ v4 → X "java/lang/IllegalArgumentException" ws))))))))))))) X)
set_option maxRecDepth 20000 in
set_option maxHeartbeats 4000000 in
theorem m_X6_sell {G : Gx} (hst : (gl G).stackTraces = false) {p0 : Nat} {p1 : Int32} {p2 : Int32} {p3 : Int32} {p4 : Int32} {ws : va_W} {Q : va_W → Prop} {X : String → va_W → Prop} (h : F_X6_sell G p0 p1 p2 p3 p4 ws Q X) : Xt G yX6_sell wsX6_sell rm_X6_sell [.ref p0, .int p1, .int p2, .int p3, .int p4] ws (QtV G Q) X := by
  refine mk_Xt (cc := cX6_sell) (nL := 8) (own := RX6) (ret := none) (lv0 := [some (.ref p0), some (.int p1), some (.int p2), some (.int p3), some (.int p4), none, none, none]) hst (by decide) rfl rfl (Nat.le_of_ble_eq_true rfl) rfl ?_
  intro K C F
  replace h := h (fun x5 t0 ws => Ev K G 8 2 12 62 [some (.ref p0), none, some (.int p2), some (.int p3), some (.int p4), some (.ref x5), none, none] [.int t0] ws) (fun x5 x6 t0 ws => Ev K G 8 2 12 78 [some (.ref p0), none, some (.int p2), some (.int p3), some (.int p4), some (.ref x5), some (.int x6), none] [.int t0] ws) (fun x5 x6 x7 t0 t1 ws => Ev K G 8 2 12 94 [some (.ref p0), none, some (.int p2), some (.int p3), some (.int p4), some (.ref x5), some (.int x6), some (.int x7)] [.int t0, .int t1] ws) (fun x5 x6 x7 t0 t1 ws => Ev K G 8 2 12 105 [some (.ref p0), none, some (.int p2), some (.int p3), some (.int p4), some (.ref x5), some (.int x6), some (.int x7)] [.int t0, .int t1] ws) (fun x5 x7 ws => Ev K G 8 2 12 146 [some (.ref p0), none, some (.int p2), some (.int p3), some (.int p4), some (.ref x5), none, some (.int x7)] [] ws) (fun x5 ws => Ev K G 8 2 12 171 [none, none, some (.int p2), some (.int p3), some (.int p4), some (.ref x5), none, none] [] ws)
  replace h := h (by
    intro x5 t0 ws h
    show Ev K G 8 2 12 62 [some (.ref p0), none, some (.int p2), some (.int p3), some (.int p4), some (.ref x5), none, none] [.int t0] ws
    refine e_istore C (by decide) dX6_sell_62 (pc' := 64) rfl (lv' := [some (.ref p0), none, some (.int p2), some (.int p3), some (.int p4), some (.ref x5), some (.int t0), none]) rfl ?_
    refine e_iload_n C (x := p3) rfl dX6_sell_64 (pc' := 65) rfl ?_
    refine e_aload C (x := x5) rfl dX6_sell_65 (pc' := 67) rfl ?_
    refine f_getI C (ci := 4) (CN := RX4) (TT := TX4) (N := 7) 2 dX6_sell_67 (pc' := 70) rfl in_X6_sell_X4 rfl (by decide) fl_X6_sell_176 h (fun v6 h => ?_)
    refine e_icmp_ge C (tg := 77) dX6_sell_70 (by decide) (pc' := 73) rfl (fun hc => ?_) (fun hc => ?_)
    · replace h := h.1 hc
      refine e_iconst C (v := (0 : Int32)) (by decide) dX6_sell_77 (pc' := 78) rfl ?_
      exact h
    · replace h := h.2 hc
      refine e_iconst C (v := (1 : Int32)) (by decide) dX6_sell_73 (pc' := 74) rfl ?_
      refine e_goto C (tg := 78) dX6_sell_74 (by decide) ?_
      exact h)
  replace h := h (by
    intro x5 x6 t0 ws h
    show Ev K G 8 2 12 78 [some (.ref p0), none, some (.int p2), some (.int p3), some (.int p4), some (.ref x5), some (.int x6), none] [.int t0] ws
    refine e_istore C (by decide) dX6_sell_78 (pc' := 80) rfl (lv' := [some (.ref p0), none, some (.int p2), some (.int p3), some (.int p4), some (.ref x5), some (.int x6), some (.int t0)]) rfl ?_
    refine e_aload_n C (x := p0) rfl dX6_sell_80 (pc' := 81) rfl ?_
    refine f_getI C (ci := 6) (CN := RX6) (TT := TX6) (N := 16) 11 dX6_sell_81 (pc' := 84) rfl in_X6_sell_X6 rfl (by decide) fl_X6_sell_123 h (fun v7 h => ?_)
    refine e_iload C (x := x6) rfl dX6_sell_84 (pc' := 86) rfl ?_
    refine e_if_eq C (tg := 93) dX6_sell_86 (by decide) (pc' := 89) rfl (fun hc => ?_) (fun hc => ?_)
    · replace h := h.1 hc
      refine e_iconst C (v := (0 : Int32)) (by decide) dX6_sell_93 (pc' := 94) rfl ?_
      exact h
    · replace h := h.2 hc
      refine e_iconst C (v := (1 : Int32)) (by decide) dX6_sell_89 (pc' := 90) rfl ?_
      refine e_goto C (tg := 94) dX6_sell_90 (by decide) ?_
      exact h)
  replace h := h (by
    intro x5 x6 x7 t0 t1 ws h
    show Ev K G 8 2 12 94 [some (.ref p0), none, some (.int p2), some (.int p3), some (.int p4), some (.ref x5), some (.int x6), some (.int x7)] [.int t0, .int t1] ws
    refine e_iadd C dX6_sell_94 (pc' := 95) rfl ?_
    refine e_iload C (x := x7) rfl dX6_sell_95 (pc' := 97) rfl ?_
    refine e_if_eq C (tg := 104) dX6_sell_97 (by decide) (pc' := 100) rfl (fun hc => ?_) (fun hc => ?_)
    · replace h := h.1 hc
      refine e_iconst C (v := (0 : Int32)) (by decide) dX6_sell_104 (pc' := 105) rfl ?_
      exact h
    · replace h := h.2 hc
      refine e_iconst C (v := (1 : Int32)) (by decide) dX6_sell_100 (pc' := 101) rfl ?_
      refine e_goto C (tg := 105) dX6_sell_101 (by decide) ?_
      exact h)
  replace h := h (by
    intro x5 x6 x7 t0 t1 ws h
    show Ev K G 8 2 12 105 [some (.ref p0), none, some (.int p2), some (.int p3), some (.int p4), some (.ref x5), some (.int x6), some (.int x7)] [.int t0, .int t1] ws
    refine e_iadd C dX6_sell_105 (pc' := 106) rfl ?_
    refine e_bipush C (v := (60 : Int32)) (by decide) dX6_sell_106 (pc' := 108) rfl ?_
    refine e_icmp_le C (tg := 121) dX6_sell_108 (by decide) (pc' := 111) rfl (fun hc => ?_) (fun hc => ?_)
    · replace h := h.1 hc
      refine e_iload C (x := x6) rfl dX6_sell_121 (pc' := 123) rfl ?_
      refine e_if_eq C (tg := 146) dX6_sell_123 (by decide) (pc' := 126) rfl (fun hc => ?_) (fun hc => ?_)
      · replace h := h.1 hc
        refine e_mask [true, false, true, true, true, true, false, true] (lv' := [some (.ref p0), none, some (.int p2), some (.int p3), some (.int p4), some (.ref x5), none, some (.int x7)]) rfl ?_
        exact h
      · replace h := h.2 hc
        refine e_aload_n C (x := p0) rfl dX6_sell_126 (pc' := 127) rfl ?_
        refine e_aload C (x := x5) rfl dX6_sell_127 (pc' := 129) rfl ?_
        refine f_getI C (ci := 4) (CN := RX4) (TT := TX4) (N := 7) 0 dX6_sell_129 (pc' := 132) rfl in_X6_sell_X4 rfl (by decide) fl_X6_sell_183 h (fun v8 h => ?_)
        refine e_aload C (x := x5) rfl dX6_sell_132 (pc' := 134) rfl ?_
        refine f_getI C (ci := 4) (CN := RX4) (TT := TX4) (N := 7) 1 dX6_sell_134 (pc' := 137) rfl in_X6_sell_X4 rfl (by decide) fl_X6_sell_173 h (fun v9 h => ?_)
        refine e_iload_n C (x := p2) rfl dX6_sell_137 (pc' := 138) rfl ?_
        refine e_aload C (x := x5) rfl dX6_sell_138 (pc' := 140) rfl ?_
        refine f_getI C (ci := 4) (CN := RX4) (TT := TX4) (N := 7) 3 dX6_sell_140 (pc' := 143) rfl in_X6_sell_X4 rfl (by decide) fl_X6_sell_186 h (fun v10 h => ?_)
        obtain ⟨hv, h⟩ := h
        refine e_callv (run_V (n := 4) C (m_X6_addShare hst h) gX6_sell_X6_addShare rfl ⟨rfl, by decide, by decide, by decide +kernel⟩ ⟨by decide, by decide⟩ (ci := 6) rfl rfl hv rfl (Nat.le_of_ble_eq_true rfl) dX6_sell_143 ⟨by decide, by decide⟩ (As := [.int v8, .int v9, .int p2, .int v10]) rfl) (pc' := 146) rfl (cn' := 2) (sn' := 12) rfl rfl (fun ws h => ?_)
        refine e_mask [true, false, true, true, true, true, false, true] (lv' := [some (.ref p0), none, some (.int p2), some (.int p3), some (.int p4), some (.ref x5), none, some (.int x7)]) rfl ?_
        exact h
    · replace h := h.2 hc
      exact x_throwS C F (E := "java/lang/UnsupportedOperationException") (tx := "more than 60 shares") (by decide) (by decide) w_X6_sell_k89 w_X6_sell_i89 (by decide) gw_X6_sell_93 xb_X6_93 xo_X6_93_89 dX6_sell_111 dX6_sell_114 dX6_sell_115 dX6_sell_117 dX6_sell_120 (by decide) (by decide) (by decide) (by decide) h)
  replace h := h (by
    intro x5 x7 ws h
    show Ev K G 8 2 12 146 [some (.ref p0), none, some (.int p2), some (.int p3), some (.int p4), some (.ref x5), none, some (.int x7)] [] ws
    refine e_iload C (x := x7) rfl dX6_sell_146 (pc' := 148) rfl ?_
    refine e_if_eq C (tg := 171) dX6_sell_148 (by decide) (pc' := 151) rfl (fun hc => ?_) (fun hc => ?_)
    · replace h := h.1 hc
      refine e_mask [false, false, true, true, true, true, false, false] (lv' := [none, none, some (.int p2), some (.int p3), some (.int p4), some (.ref x5), none, none]) rfl ?_
      exact h
    · replace h := h.2 hc
      refine e_aload_n C (x := p0) rfl dX6_sell_151 (pc' := 152) rfl ?_
      refine e_aload C (x := x5) rfl dX6_sell_152 (pc' := 154) rfl ?_
      refine f_getI C (ci := 4) (CN := RX4) (TT := TX4) (N := 7) 0 dX6_sell_154 (pc' := 157) rfl in_X6_sell_X4 rfl (by decide) fl_X6_sell_183 h (fun v12 h => ?_)
      refine e_iload_n C (x := p3) rfl dX6_sell_157 (pc' := 158) rfl ?_
      refine e_aload C (x := x5) rfl dX6_sell_158 (pc' := 160) rfl ?_
      refine f_getI C (ci := 4) (CN := RX4) (TT := TX4) (N := 7) 2 dX6_sell_160 (pc' := 163) rfl in_X6_sell_X4 rfl (by decide) fl_X6_sell_176 h (fun v13 h => ?_)
      refine e_aload C (x := x5) rfl dX6_sell_163 (pc' := 165) rfl ?_
      refine f_getI C (ci := 4) (CN := RX4) (TT := TX4) (N := 7) 3 dX6_sell_165 (pc' := 168) rfl in_X6_sell_X4 rfl (by decide) fl_X6_sell_186 h (fun v14 h => ?_)
      obtain ⟨hv, h⟩ := h
      refine e_callv (run_V (n := 4) C (m_X6_addShare hst h) gX6_sell_X6_addShare rfl ⟨rfl, by decide, by decide, by decide +kernel⟩ ⟨by decide, by decide⟩ (ci := 6) rfl rfl hv rfl (Nat.le_of_ble_eq_true rfl) dX6_sell_168 ⟨by decide, by decide⟩ (As := [.int v12, .int p3, .int v13, .int v14]) rfl) (pc' := 171) rfl (cn' := 2) (sn' := 12) rfl rfl (fun ws h => ?_)
      refine e_mask [false, false, true, true, true, true, false, false] (lv' := [none, none, some (.int p2), some (.int p3), some (.int p4), some (.ref x5), none, none]) rfl ?_
      exact h)
  replace h := h (by
    intro x5 ws h
    show Ev K G 8 2 12 171 [none, none, some (.int p2), some (.int p3), some (.int p4), some (.ref x5), none, none] [] ws
    refine e_aload C (x := x5) rfl dX6_sell_171 (pc' := 173) rfl ?_
    refine e_aload C (x := x5) rfl dX6_sell_173 (pc' := 175) rfl ?_
    refine f_getI C (ci := 4) (CN := RX4) (TT := TX4) (N := 7) 0 dX6_sell_175 (pc' := 178) rfl in_X6_sell_X4 rfl (by decide) fl_X6_sell_183 h (fun v16 h => ?_)
    refine e_iload_n C (x := p2) rfl dX6_sell_178 (pc' := 179) rfl ?_
    refine e_iload_n C (x := p3) rfl dX6_sell_179 (pc' := 180) rfl ?_
    refine e_iload C (x := p4) rfl dX6_sell_180 (pc' := 182) rfl ?_
    obtain ⟨hv, h⟩ := h
    refine e_callv (run_V (n := 4) C (m_X4_become hst h) gX6_sell_X4_become rfl ⟨rfl, by decide, by decide, by decide +kernel⟩ ⟨by decide, by decide⟩ (ci := 4) rfl rfl hv rfl (Nat.le_of_ble_eq_true rfl) dX6_sell_182 ⟨by decide, by decide⟩ (As := [.int v16, .int p2, .int p3, .int p4]) rfl) (pc' := 185) rfl (cn' := 2) (sn' := 12) rfl rfl (fun ws h => ?_)
    exact x_void C F dX6_sell_185 (by decide) (by decide) h)
  refine e_aload_n C (x := p0) rfl dX6_sell_0 (pc' := 1) rfl ?_
  refine e_iload_n C (x := p1) rfl dX6_sell_1 (pc' := 2) rfl ?_
  obtain ⟨hv, h⟩ := h
  refine e_xcallr (run_XV (n := 1) C (m_X6_unletAt hst h) gX6_sell_X6_unletAt rfl ⟨rfl, by decide, by decide, by decide +kernel⟩ ⟨by decide, by decide⟩ (ci := 6) rfl rfl hv rfl (Nat.le_of_ble_eq_true rfl) dX6_sell_2 ⟨by decide, by decide⟩ (As := [.int p1]) rfl) (pc' := 5) rfl (cn' := 2) (sn' := 12) rfl rfl (fun E u hx => x_out C F (by decide) (by decide) hx) (fun v1 ws h => ?_)
  refine e_astore C (by decide) dX6_sell_5 (pc' := 7) rfl (lv' := [some (.ref p0), some (.int p1), some (.int p2), some (.int p3), some (.int p4), some (.ref v1), none, none]) rfl ?_
  refine e_iload C (x := p4) rfl dX6_sell_7 (pc' := 9) rfl ?_
  refine e_calli (run_S (n := 1) C (m_X6_isOwner hst h) gX6_sell_X6_isOwner rfl ⟨rfl, by decide, by decide, by decide +kernel⟩ ⟨by decide, by decide⟩ rfl (Nat.le_of_ble_eq_true rfl) dX6_sell_9 ⟨by decide, by decide⟩ (As := [.int p4]) rfl) (pc' := 12) rfl (cn' := 2) (sn' := 12) rfl rfl (fun v2 ws h => ?_)
  refine e_if_eq C (tg := 38) dX6_sell_12 (by decide) (pc' := 15) rfl (fun hc => ?_) (fun hc => ?_)
  · replace h := h.1 hc
    exact x_throwS C F (E := "java/lang/IllegalArgumentException") (tx := "owner or part is none") (by decide) (by decide) w_X6_sell_k79 w_X6_sell_i79 (by decide) gw_X6_sell_83 xb_X6_83 xo_X6_83_79 dX6_sell_38 dX6_sell_41 dX6_sell_42 dX6_sell_44 dX6_sell_47 (by decide) (by decide) (by decide) (by decide) h
  · replace h := h.2 hc
    refine e_iload_n C (x := p2) rfl dX6_sell_15 (pc' := 16) rfl ?_
    refine e_aload C (x := v1) rfl dX6_sell_16 (pc' := 18) rfl ?_
    refine f_getI C (ci := 4) (CN := RX4) (TT := TX4) (N := 7) 1 dX6_sell_18 (pc' := 21) rfl in_X6_sell_X4 rfl (by decide) fl_X6_sell_173 h (fun v3 h => ?_)
    refine e_icmp_lt C (tg := 38) dX6_sell_21 (by decide) (pc' := 24) rfl (fun hc => ?_) (fun hc => ?_)
    · replace h := h.1 hc
      exact x_throwS C F (E := "java/lang/IllegalArgumentException") (tx := "owner or part is none") (by decide) (by decide) w_X6_sell_k79 w_X6_sell_i79 (by decide) gw_X6_sell_83 xb_X6_83 xo_X6_83_79 dX6_sell_38 dX6_sell_41 dX6_sell_42 dX6_sell_44 dX6_sell_47 (by decide) (by decide) (by decide) (by decide) h
    · replace h := h.2 hc
      refine e_iload_n C (x := p2) rfl dX6_sell_24 (pc' := 25) rfl ?_
      refine e_iload_n C (x := p3) rfl dX6_sell_25 (pc' := 26) rfl ?_
      refine e_icmp_ge C (tg := 38) dX6_sell_26 (by decide) (pc' := 29) rfl (fun hc => ?_) (fun hc => ?_)
      · replace h := h.1 hc
        exact x_throwS C F (E := "java/lang/IllegalArgumentException") (tx := "owner or part is none") (by decide) (by decide) w_X6_sell_k79 w_X6_sell_i79 (by decide) gw_X6_sell_83 xb_X6_83 xo_X6_83_79 dX6_sell_38 dX6_sell_41 dX6_sell_42 dX6_sell_44 dX6_sell_47 (by decide) (by decide) (by decide) (by decide) h
      · replace h := h.2 hc
        refine e_iload_n C (x := p3) rfl dX6_sell_29 (pc' := 30) rfl ?_
        refine e_aload C (x := v1) rfl dX6_sell_30 (pc' := 32) rfl ?_
        refine f_getI C (ci := 4) (CN := RX4) (TT := TX4) (N := 7) 2 dX6_sell_32 (pc' := 35) rfl in_X6_sell_X4 rfl (by decide) fl_X6_sell_176 h (fun v4 h => ?_)
        refine e_icmp_le C (tg := 48) dX6_sell_35 (by decide) (pc' := 38) rfl (fun hc => ?_) (fun hc => ?_)
        · replace h := h.1 hc
          refine e_iload_n C (x := p2) rfl dX6_sell_48 (pc' := 49) rfl ?_
          refine e_aload C (x := v1) rfl dX6_sell_49 (pc' := 51) rfl ?_
          refine f_getI C (ci := 4) (CN := RX4) (TT := TX4) (N := 7) 1 dX6_sell_51 (pc' := 54) rfl in_X6_sell_X4 rfl (by decide) fl_X6_sell_173 h (fun v5 h => ?_)
          refine e_icmp_le C (tg := 61) dX6_sell_54 (by decide) (pc' := 57) rfl (fun hc => ?_) (fun hc => ?_)
          · replace h := h.1 hc
            refine e_iconst C (v := (0 : Int32)) (by decide) dX6_sell_61 (pc' := 62) rfl ?_
            refine e_mask [true, false, true, true, true, true, false, false] (lv' := [some (.ref p0), none, some (.int p2), some (.int p3), some (.int p4), some (.ref v1), none, none]) rfl ?_
            exact h
          · replace h := h.2 hc
            refine e_iconst C (v := (1 : Int32)) (by decide) dX6_sell_57 (pc' := 58) rfl ?_
            refine e_goto C (tg := 62) dX6_sell_58 (by decide) ?_
            refine e_mask [true, false, true, true, true, true, false, false] (lv' := [some (.ref p0), none, some (.int p2), some (.int p3), some (.int p4), some (.ref v1), none, none]) rfl ?_
            exact h
        · replace h := h.2 hc
          exact x_throwS C F (E := "java/lang/IllegalArgumentException") (tx := "owner or part is none") (by decide) (by decide) w_X6_sell_k79 w_X6_sell_i79 (by decide) gw_X6_sell_83 xb_X6_83 xo_X6_83_79 dX6_sell_38 dX6_sell_41 dX6_sell_42 dX6_sell_44 dX6_sell_47 (by decide) (by decide) (by decide) (by decide) h
