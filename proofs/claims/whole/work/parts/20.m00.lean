abbrev rm_X5_append : Room := { frames := 0, cells := 0, slots := 0, locals := 0 }
set_option maxRecDepth 20000 in
theorem in_X5_append_X5 : ∀ w ∈ wsX50, w ∈ wsX5_append := by decide +kernel
set_option maxRecDepth 20000 in
theorem fl_X5_append_15 : Cond.fieldLink RX5 15 (TX5 1).1 (TX5 1).2.1 (TX5 1).2.2.1 ∈ wsX5_append := by decide +kernel
set_option maxRecDepth 20000 in
theorem fl_X5_append_9 : Cond.fieldLink RX5 9 (TX5 0).1 (TX5 0).2.1 (TX5 0).2.2.1 ∈ wsX5_append := by decide +kernel
def F_X5_append (G : Gx) (p0 : Nat) (p1 : Int32) (ws : va_W) (Q : va_W → Prop) : Prop := ∀ (J3 : Int32 → va_W → Prop), (∀ (x2 : Int32) (ws : va_W), ((x2 < 0 → Q ws) ∧ (¬ x2 < 0 → qI 5 1 p0 ws (fun v1 => (((400 : Int32) ≤ v1 → Q ws) ∧ (¬ (400 : Int32) ≤ v1 → qR 5 0 p0 ws (fun v2 => qI 5 1 p0 ws (fun v3 => qS (gc G 1) v2 v3 ((p1.toUInt32 >>> (x2.toUInt32 &&& Int32.toUInt32 31)).toInt32 &&& (255 : Int32)) ws (fun ws => qI 5 1 p0 ws (fun v4 => qP 5 1 p0 (.int (v4 + (1 : Int32))) ws (fun ws => J3 (x2 + (-8 : Int32)) ws)))))))))) → J3 x2 ws) → J3 (24 : Int32) ws
set_option maxRecDepth 20000 in
set_option maxHeartbeats 4000000 in
theorem m_X5_append {G : Gx} (hst : (gl G).stackTraces = false) {p0 : Nat} {p1 : Int32} {ws : va_W} {Q : va_W → Prop} (h : F_X5_append G p0 p1 ws Q) : Mt G yX5_append wsX5_append rm_X5_append [.ref p0, .int p1] ws (QtV G Q) := by
  refine mk_Mt (cc := cX5_append) (nL := 3) (own := RX5) (ret := none) (lv0 := [some (.ref p0), some (.int p1), none]) hst (by decide) rfl rfl (Nat.le_of_ble_eq_true rfl) rfl ?_
  intro K C F
  replace h := h (fun x2 ws => Ev K G 3 0 0 3 [some (.ref p0), some (.int p1), some (.int x2)] [] ws)
  replace h := h (by
    intro x2 ws h
    show Ev K G 3 0 0 3 [some (.ref p0), some (.int p1), some (.int x2)] [] ws
    refine e_iload_n C (x := x2) rfl dX5_append_3 (pc' := 4) rfl ?_
    refine e_if_lt C (tg := 49) dX5_append_4 (by decide) (pc' := 7) rfl (fun hc => ?_) (fun hc => ?_)
    · replace h := h.1 hc
      exact r_void C F dX5_append_49 (by decide) (by decide) h
    · replace h := h.2 hc
      refine e_aload_n C (x := p0) rfl dX5_append_7 (pc' := 8) rfl ?_
      refine f_getI C (ci := 5) (CN := RX5) (TT := TX5) (N := 2) 1 dX5_append_8 (pc' := 11) rfl in_X5_append_X5 rfl (by decide) fl_X5_append_15 h (fun v1 h => ?_)
      refine e_sipush C (v := (400 : Int32)) (by decide) dX5_append_11 (pc' := 14) rfl ?_
      refine e_icmp_ge C (tg := 49) dX5_append_14 (by decide) (pc' := 17) rfl (fun hc => ?_) (fun hc => ?_)
      · replace h := h.1 hc
        exact r_void C F dX5_append_49 (by decide) (by decide) h
      · replace h := h.2 hc
        refine e_aload_n C (x := p0) rfl dX5_append_17 (pc' := 18) rfl ?_
        refine f_getR C (ci := 5) (CN := RX5) (TT := TX5) (N := 2) 0 dX5_append_18 (pc' := 21) rfl in_X5_append_X5 rfl (by decide) fl_X5_append_9 h (fun v2 h => ?_)
        refine e_aload_n C (x := p0) rfl dX5_append_21 (pc' := 22) rfl ?_
        refine f_getI C (ci := 5) (CN := RX5) (TT := TX5) (N := 2) 1 dX5_append_22 (pc' := 25) rfl in_X5_append_X5 rfl (by decide) fl_X5_append_15 h (fun v3 h => ?_)
        refine e_iload_n C (x := p1) rfl dX5_append_25 (pc' := 26) rfl ?_
        refine e_iload_n C (x := x2) rfl dX5_append_26 (pc' := 27) rfl ?_
        refine e_iushr C dX5_append_27 (pc' := 28) rfl ?_
        refine e_sipush C (v := (255 : Int32)) (by decide) dX5_append_28 (pc' := 31) rfl ?_
        refine e_iand C dX5_append_31 (pc' := 32) rfl ?_
        refine f_iastore C dX5_append_32 (pc' := 33) rfl h (fun ws h => ?_)
        refine e_aload_n C (x := p0) rfl dX5_append_33 (pc' := 34) rfl ?_
        refine e_dup C rfl dX5_append_34 (pc' := 35) rfl ?_
        refine f_getI C (ci := 5) (CN := RX5) (TT := TX5) (N := 2) 1 dX5_append_35 (pc' := 38) rfl in_X5_append_X5 rfl (by decide) fl_X5_append_15 h (fun v4 h => ?_)
        refine e_iconst C (v := (1 : Int32)) (by decide) dX5_append_38 (pc' := 39) rfl ?_
        refine e_iadd C dX5_append_39 (pc' := 40) rfl ?_
        refine f_putI C (ci := 5) (CN := RX5) (TT := TX5) (N := 2) 1 tyX5 dX5_append_40 (pc' := 43) rfl in_X5_append_X5 tyX5_ok nmX5 rfl (by decide) fl_X5_append_15 rfl (by decide +kernel) h (fun ws h => ?_)
        refine e_iinc C dX5_append_43 (x := x2) (v := (x2 + (-8 : Int32))) rfl rfl (by decide) (pc' := 46) rfl (lv' := [some (.ref p0), some (.int p1), some (.int (x2 + (-8 : Int32)))]) rfl ?_
        refine e_goto C (tg := 3) dX5_append_46 (by decide) ?_
        exact h)
  refine e_bipush C (v := (24 : Int32)) (by decide) dX5_append_0 (pc' := 2) rfl ?_
  refine e_istore_n C (by decide) dX5_append_2 (pc' := 3) rfl (lv' := [some (.ref p0), some (.int p1), some (.int (24 : Int32))]) rfl ?_
  exact h
abbrev rm_X6_feed : Room := { frames := 1, cells := 0, slots := 0, locals := 22 }
set_option maxRecDepth 20000 in
theorem in_X6_feed_X6 : ∀ w ∈ wsX60, w ∈ wsX6_feed := by decide +kernel
set_option maxRecDepth 20000 in
theorem fl_X6_feed_20 : Cond.fieldLink RX6 20 (TX6 1).1 (TX6 1).2.1 (TX6 1).2.2.1 ∈ wsX6_feed := by decide +kernel
set_option maxRecDepth 20000 in
theorem in_X6_feed_X5 : ∀ w ∈ wsX50, w ∈ wsX6_feed := by decide +kernel
set_option maxRecDepth 20000 in
theorem fl_X6_feed_66 : Cond.fieldLink RX6 66 (TX5 1).1 (TX5 1).2.1 (TX5 1).2.2.1 ∈ wsX6_feed := by decide +kernel
def F_X6_feed (G : Gx) (p0 : Nat) (p1 : Int32) (p2 : Int32) (p3 : Int32) (p4 : Int32) (p5 : Int32) (ws : va_W) (Q : Int32 → va_W → Prop) : Prop := qR 6 1 p0 ws (fun v1 => qI 5 1 v1 ws (fun v2 => (((v2 + (20 : Int32)) ≤ (400 : Int32) → qR 6 1 p0 ws (fun v3 => (qV 5 v3 ws ∧ F_X5_append G v3 p1 ws (fun ws => qR 6 1 p0 ws (fun v5 => (qV 5 v5 ws ∧ F_X5_append G v5 p2 ws (fun ws => qR 6 1 p0 ws (fun v7 => (qV 5 v7 ws ∧ F_X5_append G v7 p3 ws (fun ws => qR 6 1 p0 ws (fun v9 => (qV 5 v9 ws ∧ F_X5_append G v9 p4 ws (fun ws => qR 6 1 p0 ws (fun v11 => (qV 5 v11 ws ∧ F_X5_append G v11 p5 ws (fun ws => qR 6 1 p0 ws (fun v13 => qI 5 1 v13 ws (fun v14 => Q v14 ws)))))))))))))))))) ∧ (¬ (v2 + (20 : Int32)) ≤ (400 : Int32) → Q (-1 : Int32) ws))))
set_option maxRecDepth 20000 in
set_option maxHeartbeats 4000000 in
theorem m_X6_feed {G : Gx} (hst : (gl G).stackTraces = false) {p0 : Nat} {p1 : Int32} {p2 : Int32} {p3 : Int32} {p4 : Int32} {p5 : Int32} {ws : va_W} {Q : Int32 → va_W → Prop} (h : F_X6_feed G p0 p1 p2 p3 p4 p5 ws Q) : Mt G yX6_feed wsX6_feed rm_X6_feed [.ref p0, .int p1, .int p2, .int p3, .int p4, .int p5] ws (QtI G Q) := by
  refine mk_Mt (cc := cX6_feed) (nL := 6) (own := RX6) (ret := (some .int)) (lv0 := [some (.ref p0), some (.int p1), some (.int p2), some (.int p3), some (.int p4), some (.int p5)]) hst (by decide) rfl rfl (Nat.le_of_ble_eq_true rfl) rfl ?_
  intro K C F
  refine e_aload_n C (x := p0) rfl dX6_feed_0 (pc' := 1) rfl ?_
  refine f_getR C (ci := 6) (CN := RX6) (TT := TX6) (N := 16) 1 dX6_feed_1 (pc' := 4) rfl in_X6_feed_X6 rfl (by decide) fl_X6_feed_20 h (fun v1 h => ?_)
  refine f_getI C (ci := 5) (CN := RX5) (TT := TX5) (N := 2) 1 dX6_feed_4 (pc' := 7) rfl in_X6_feed_X5 rfl (by decide) fl_X6_feed_66 h (fun v2 h => ?_)
  refine e_bipush C (v := (20 : Int32)) (by decide) dX6_feed_7 (pc' := 9) rfl ?_
  refine e_iadd C dX6_feed_9 (pc' := 10) rfl ?_
  refine e_sipush C (v := (400 : Int32)) (by decide) dX6_feed_10 (pc' := 13) rfl ?_
  refine e_icmp_le C (tg := 18) dX6_feed_13 (by decide) (pc' := 16) rfl (fun hc => ?_) (fun hc => ?_)
  · replace h := h.1 hc
    refine e_aload_n C (x := p0) rfl dX6_feed_18 (pc' := 19) rfl ?_
    refine f_getR C (ci := 6) (CN := RX6) (TT := TX6) (N := 16) 1 dX6_feed_19 (pc' := 22) rfl in_X6_feed_X6 rfl (by decide) fl_X6_feed_20 h (fun v3 h => ?_)
    refine e_iload_n C (x := p1) rfl dX6_feed_22 (pc' := 23) rfl ?_
    obtain ⟨hv, h⟩ := h
    refine e_callv (run_V (n := 1) C (m_X5_append hst h) gX6_feed_X5_append rfl ⟨rfl, by decide, by decide, by decide +kernel⟩ ⟨by decide, by decide⟩ (ci := 5) rfl rfl hv rfl (Nat.le_of_ble_eq_true rfl) dX6_feed_23 ⟨by decide, by decide⟩ (As := [.int p1]) rfl) (pc' := 26) rfl (cn' := 0) (sn' := 0) rfl rfl (fun ws h => ?_)
    refine e_aload_n C (x := p0) rfl dX6_feed_26 (pc' := 27) rfl ?_
    refine f_getR C (ci := 6) (CN := RX6) (TT := TX6) (N := 16) 1 dX6_feed_27 (pc' := 30) rfl in_X6_feed_X6 rfl (by decide) fl_X6_feed_20 h (fun v5 h => ?_)
    refine e_iload_n C (x := p2) rfl dX6_feed_30 (pc' := 31) rfl ?_
    obtain ⟨hv, h⟩ := h
    refine e_callv (run_V (n := 1) C (m_X5_append hst h) gX6_feed_X5_append rfl ⟨rfl, by decide, by decide, by decide +kernel⟩ ⟨by decide, by decide⟩ (ci := 5) rfl rfl hv rfl (Nat.le_of_ble_eq_true rfl) dX6_feed_31 ⟨by decide, by decide⟩ (As := [.int p2]) rfl) (pc' := 34) rfl (cn' := 0) (sn' := 0) rfl rfl (fun ws h => ?_)
    refine e_aload_n C (x := p0) rfl dX6_feed_34 (pc' := 35) rfl ?_
    refine f_getR C (ci := 6) (CN := RX6) (TT := TX6) (N := 16) 1 dX6_feed_35 (pc' := 38) rfl in_X6_feed_X6 rfl (by decide) fl_X6_feed_20 h (fun v7 h => ?_)
    refine e_iload_n C (x := p3) rfl dX6_feed_38 (pc' := 39) rfl ?_
    obtain ⟨hv, h⟩ := h
    refine e_callv (run_V (n := 1) C (m_X5_append hst h) gX6_feed_X5_append rfl ⟨rfl, by decide, by decide, by decide +kernel⟩ ⟨by decide, by decide⟩ (ci := 5) rfl rfl hv rfl (Nat.le_of_ble_eq_true rfl) dX6_feed_39 ⟨by decide, by decide⟩ (As := [.int p3]) rfl) (pc' := 42) rfl (cn' := 0) (sn' := 0) rfl rfl (fun ws h => ?_)
    refine e_aload_n C (x := p0) rfl dX6_feed_42 (pc' := 43) rfl ?_
    refine f_getR C (ci := 6) (CN := RX6) (TT := TX6) (N := 16) 1 dX6_feed_43 (pc' := 46) rfl in_X6_feed_X6 rfl (by decide) fl_X6_feed_20 h (fun v9 h => ?_)
    refine e_iload C (x := p4) rfl dX6_feed_46 (pc' := 48) rfl ?_
    obtain ⟨hv, h⟩ := h
    refine e_callv (run_V (n := 1) C (m_X5_append hst h) gX6_feed_X5_append rfl ⟨rfl, by decide, by decide, by decide +kernel⟩ ⟨by decide, by decide⟩ (ci := 5) rfl rfl hv rfl (Nat.le_of_ble_eq_true rfl) dX6_feed_48 ⟨by decide, by decide⟩ (As := [.int p4]) rfl) (pc' := 51) rfl (cn' := 0) (sn' := 0) rfl rfl (fun ws h => ?_)
    refine e_aload_n C (x := p0) rfl dX6_feed_51 (pc' := 52) rfl ?_
    refine f_getR C (ci := 6) (CN := RX6) (TT := TX6) (N := 16) 1 dX6_feed_52 (pc' := 55) rfl in_X6_feed_X6 rfl (by decide) fl_X6_feed_20 h (fun v11 h => ?_)
    refine e_iload C (x := p5) rfl dX6_feed_55 (pc' := 57) rfl ?_
    obtain ⟨hv, h⟩ := h
    refine e_callv (run_V (n := 1) C (m_X5_append hst h) gX6_feed_X5_append rfl ⟨rfl, by decide, by decide, by decide +kernel⟩ ⟨by decide, by decide⟩ (ci := 5) rfl rfl hv rfl (Nat.le_of_ble_eq_true rfl) dX6_feed_57 ⟨by decide, by decide⟩ (As := [.int p5]) rfl) (pc' := 60) rfl (cn' := 0) (sn' := 0) rfl rfl (fun ws h => ?_)
    refine e_aload_n C (x := p0) rfl dX6_feed_60 (pc' := 61) rfl ?_
    refine f_getR C (ci := 6) (CN := RX6) (TT := TX6) (N := 16) 1 dX6_feed_61 (pc' := 64) rfl in_X6_feed_X6 rfl (by decide) fl_X6_feed_20 h (fun v13 h => ?_)
    refine f_getI C (ci := 5) (CN := RX5) (TT := TX5) (N := 2) 1 dX6_feed_64 (pc' := 67) rfl in_X6_feed_X5 rfl (by decide) fl_X6_feed_66 h (fun v14 h => ?_)
    exact r_int C F dX6_feed_67 (by decide) (by decide) h
  · replace h := h.2 hc
    refine e_iconst C (v := (-1 : Int32)) (by decide) dX6_feed_16 (pc' := 17) rfl ?_
    exact r_int C F dX6_feed_17 (by decide) (by decide) h
abbrev rm_X6_end : Room := { frames := 0, cells := 0, slots := 0, locals := 0 }
set_option maxRecDepth 20000 in
theorem in_X6_end_X6 : ∀ w ∈ wsX60, w ∈ wsX6_end := by decide +kernel
set_option maxRecDepth 20000 in
theorem fl_X6_end_20 : Cond.fieldLink RX6 20 (TX6 1).1 (TX6 1).2.1 (TX6 1).2.2.1 ∈ wsX6_end := by decide +kernel
set_option maxRecDepth 20000 in
theorem in_X6_end_X5 : ∀ w ∈ wsX50, w ∈ wsX6_end := by decide +kernel
set_option maxRecDepth 20000 in
theorem fl_X6_end_66 : Cond.fieldLink RX6 66 (TX5 1).1 (TX5 1).2.1 (TX5 1).2.2.1 ∈ wsX6_end := by decide +kernel
def F_X6_end (G : Gx) (p0 : Nat) (p1 : Int32) (ws : va_W) (Q : Int32 → va_W → Prop) : Prop := ((p1 < 0 → Q (0 : Int32) ws) ∧ (¬ p1 < 0 → qR 6 1 p0 ws (fun v1 => qI 5 1 v1 ws (fun v2 => ((p1 ≤ v2 → qR 6 1 p0 ws (fun v3 => qP 5 1 v3 (.int p1) ws (fun ws => Q (1 : Int32) ws))) ∧ (¬ p1 ≤ v2 → Q (0 : Int32) ws))))))
set_option maxRecDepth 20000 in
set_option maxHeartbeats 4000000 in
theorem m_X6_end {G : Gx} (hst : (gl G).stackTraces = false) {p0 : Nat} {p1 : Int32} {ws : va_W} {Q : Int32 → va_W → Prop} (h : F_X6_end G p0 p1 ws Q) : Mt G yX6_end wsX6_end rm_X6_end [.ref p0, .int p1] ws (QtI G Q) := by
  refine mk_Mt (cc := cX6_end) (nL := 2) (own := RX6) (ret := (some .boolean)) (lv0 := [some (.ref p0), some (.int p1)]) hst (by decide) rfl rfl (Nat.le_of_ble_eq_true rfl) rfl ?_
  intro K C F
  refine e_iload_n C (x := p1) rfl dX6_end_0 (pc' := 1) rfl ?_
  refine e_if_lt C (tg := 15) dX6_end_1 (by decide) (pc' := 4) rfl (fun hc => ?_) (fun hc => ?_)
  · replace h := h.1 hc
    refine e_iconst C (v := (0 : Int32)) (by decide) dX6_end_15 (pc' := 16) rfl ?_
    exact r_bool C F dX6_end_16 (by decide) (by decide) (Or.inl rfl) h
  · replace h := h.2 hc
    refine e_iload_n C (x := p1) rfl dX6_end_4 (pc' := 5) rfl ?_
    refine e_aload_n C (x := p0) rfl dX6_end_5 (pc' := 6) rfl ?_
    refine f_getR C (ci := 6) (CN := RX6) (TT := TX6) (N := 16) 1 dX6_end_6 (pc' := 9) rfl in_X6_end_X6 rfl (by decide) fl_X6_end_20 h (fun v1 h => ?_)
    refine f_getI C (ci := 5) (CN := RX5) (TT := TX5) (N := 2) 1 dX6_end_9 (pc' := 12) rfl in_X6_end_X5 rfl (by decide) fl_X6_end_66 h (fun v2 h => ?_)
    refine e_icmp_le C (tg := 17) dX6_end_12 (by decide) (pc' := 15) rfl (fun hc => ?_) (fun hc => ?_)
    · replace h := h.1 hc
      refine e_aload_n C (x := p0) rfl dX6_end_17 (pc' := 18) rfl ?_
      refine f_getR C (ci := 6) (CN := RX6) (TT := TX6) (N := 16) 1 dX6_end_18 (pc' := 21) rfl in_X6_end_X6 rfl (by decide) fl_X6_end_20 h (fun v3 h => ?_)
      refine e_iload_n C (x := p1) rfl dX6_end_21 (pc' := 22) rfl ?_
      refine f_putI C (ci := 5) (CN := RX5) (TT := TX5) (N := 2) 1 tyX5 dX6_end_22 (pc' := 25) rfl in_X6_end_X5 tyX5_ok nmX5 rfl (by decide) fl_X6_end_66 rfl (by decide +kernel) h (fun ws h => ?_)
      refine e_iconst C (v := (1 : Int32)) (by decide) dX6_end_25 (pc' := 26) rfl ?_
      exact r_bool C F dX6_end_26 (by decide) (by decide) (Or.inr rfl) h
    · replace h := h.2 hc
      refine e_iconst C (v := (0 : Int32)) (by decide) dX6_end_15 (pc' := 16) rfl ?_
      exact r_bool C F dX6_end_16 (by decide) (by decide) (Or.inl rfl) h
abbrev rm_X6_isWithin : Room := { frames := 0, cells := 0, slots := 0, locals := 0 }
def F_X6_isWithin (G : Gx) (p0 : Int32) (p1 : Int32) (p2 : Int32) (ws : va_W) (Q : Int32 → va_W → Prop) : Prop := ((p0 < p1 → Q (0 : Int32) ws) ∧ (¬ p0 < p1 → ((p2 < p0 → Q (0 : Int32) ws) ∧ (¬ p2 < p0 → Q (1 : Int32) ws))))
set_option maxRecDepth 20000 in
set_option maxHeartbeats 4000000 in
theorem m_X6_isWithin {G : Gx} (hst : (gl G).stackTraces = false) {p0 : Int32} {p1 : Int32} {p2 : Int32} {ws : va_W} {Q : Int32 → va_W → Prop} (h : F_X6_isWithin G p0 p1 p2 ws Q) : Mt G yX6_isWithin wsX6_isWithin rm_X6_isWithin [.int p0, .int p1, .int p2] ws (QtI G Q) := by
  refine mk_Mt (cc := cX6_isWithin) (nL := 3) (own := RX6) (ret := (some .boolean)) (lv0 := [some (.int p0), some (.int p1), some (.int p2)]) hst (by decide) rfl rfl (Nat.le_of_ble_eq_true rfl) rfl ?_
  intro K C F
  refine e_iload_n C (x := p0) rfl dX6_isWithin_0 (pc' := 1) rfl ?_
  refine e_iload_n C (x := p1) rfl dX6_isWithin_1 (pc' := 2) rfl ?_
  refine e_icmp_lt C (tg := 14) dX6_isWithin_2 (by decide) (pc' := 5) rfl (fun hc => ?_) (fun hc => ?_)
  · replace h := h.1 hc
    refine e_iconst C (v := (0 : Int32)) (by decide) dX6_isWithin_14 (pc' := 15) rfl ?_
    exact r_bool C F dX6_isWithin_15 (by decide) (by decide) (Or.inl rfl) h
  · replace h := h.2 hc
    refine e_iload_n C (x := p0) rfl dX6_isWithin_5 (pc' := 6) rfl ?_
    refine e_iload_n C (x := p2) rfl dX6_isWithin_6 (pc' := 7) rfl ?_
    refine e_icmp_gt C (tg := 14) dX6_isWithin_7 (by decide) (pc' := 10) rfl (fun hc => ?_) (fun hc => ?_)
    · replace h := h.1 hc
      refine e_iconst C (v := (0 : Int32)) (by decide) dX6_isWithin_14 (pc' := 15) rfl ?_
      exact r_bool C F dX6_isWithin_15 (by decide) (by decide) (Or.inl rfl) h
    · replace h := h.2 hc
      refine e_iconst C (v := (1 : Int32)) (by decide) dX6_isWithin_10 (pc' := 11) rfl ?_
      refine e_goto C (tg := 15) dX6_isWithin_11 (by decide) ?_
      exact r_bool C F dX6_isWithin_15 (by decide) (by decide) (Or.inr rfl) h
abbrev rm_X6_ground : Room := { frames := 6, cells := 1, slots := 6, locals := 82 }
set_option maxRecDepth 20000 in
theorem w_X6_ground_k79 : Cond.classLink RX6 79 "java/lang/IllegalArgumentException" ∈ wsX6_ground := by decide +kernel
set_option maxRecDepth 20000 in
theorem w_X6_ground_i79 : Cond.initialized "java/lang/IllegalArgumentException" ∈ wsX6_ground := by decide +kernel
set_option maxRecDepth 20000 in
theorem gw_X6_ground_83 : ∀ w ∈ (vx_atS RX6 83 "java/lang/IllegalArgumentException" xnms).filter goodWord, w ∈ wsX6_ground := by decide +kernel
set_option maxRecDepth 20000 in
theorem in_X6_ground_X6 : ∀ w ∈ wsX60, w ∈ wsX6_ground := by decide +kernel
set_option maxRecDepth 20000 in
theorem fl_X6_ground_36 : Cond.fieldLink RX6 36 (TX6 7).1 (TX6 7).2.1 (TX6 7).2.2.1 ∈ wsX6_ground := by decide +kernel
set_option maxRecDepth 20000 in
theorem fl_X6_ground_39 : Cond.fieldLink RX6 39 (TX6 8).1 (TX6 8).2.1 (TX6 8).2.2.1 ∈ wsX6_ground := by decide +kernel
def F_X6_ground (G : Gx) (p0 : Nat) (p1 : Int32) (p2 : Int32) (ws : va_W) (Q : va_W → Prop) (X : String → va_W → Prop) : Prop := (F_X6_isWithin G p1 (0 : Int32) (2000 : Int32) ws (fun v1 ws => ((v1 = 0 → X "java/lang/IllegalArgumentException" ws) ∧ (¬ v1 = 0 → (F_X6_isWithin G p2 (0 : Int32) (20 : Int32) ws (fun v2 ws => ((¬ v2 = 0 → qP 6 7 p0 (.int p1) ws (fun ws => qP 6 8 p0 (.int p2) ws (fun ws => Q ws))) ∧ (v2 = 0 → X "java/lang/IllegalArgumentException" ws))))))))
set_option maxRecDepth 20000 in
set_option maxHeartbeats 4000000 in
theorem m_X6_ground {G : Gx} (hst : (gl G).stackTraces = false) {p0 : Nat} {p1 : Int32} {p2 : Int32} {ws : va_W} {Q : va_W → Prop} {X : String → va_W → Prop} (h : F_X6_ground G p0 p1 p2 ws Q X) : Xt G yX6_ground wsX6_ground rm_X6_ground [.ref p0, .int p1, .int p2] ws (QtV G Q) X := by
  refine mk_Xt (cc := cX6_ground) (nL := 3) (own := RX6) (ret := none) (lv0 := [some (.ref p0), some (.int p1), some (.int p2)]) hst (by decide) rfl rfl (Nat.le_of_ble_eq_true rfl) rfl ?_
  intro K C F
  refine e_iload_n C (x := p1) rfl dX6_ground_0 (pc' := 1) rfl ?_
  refine e_iconst C (v := (0 : Int32)) (by decide) dX6_ground_1 (pc' := 2) rfl ?_
  refine e_sipush C (v := (2000 : Int32)) (by decide) dX6_ground_2 (pc' := 5) rfl ?_
  refine e_calli (run_S (n := 3) C (m_X6_isWithin hst h) gX6_ground_X6_isWithin rfl ⟨rfl, by decide, by decide, by decide +kernel⟩ ⟨by decide, by decide⟩ rfl (Nat.le_of_ble_eq_true rfl) dX6_ground_5 ⟨by decide, by decide⟩ (As := [.int p1, .int (0 : Int32), .int (2000 : Int32)]) rfl) (pc' := 8) rfl (cn' := 0) (sn' := 0) rfl rfl (fun v1 ws h => ?_)
  refine e_if_eq C (tg := 21) dX6_ground_8 (by decide) (pc' := 11) rfl (fun hc => ?_) (fun hc => ?_)
  · replace h := h.1 hc
    exact x_throwS C F (E := "java/lang/IllegalArgumentException") (tx := "head or slope is none") (by decide) (by decide) w_X6_ground_k79 w_X6_ground_i79 (by decide) gw_X6_ground_83 xb_X6_83 xo_X6_83_79 dX6_ground_21 dX6_ground_24 dX6_ground_25 dX6_ground_27 dX6_ground_30 (by decide) (by decide) (by decide) (by decide) h
  · replace h := h.2 hc
    refine e_iload_n C (x := p2) rfl dX6_ground_11 (pc' := 12) rfl ?_
    refine e_iconst C (v := (0 : Int32)) (by decide) dX6_ground_12 (pc' := 13) rfl ?_
    refine e_bipush C (v := (20 : Int32)) (by decide) dX6_ground_13 (pc' := 15) rfl ?_
    refine e_calli (run_S (n := 3) C (m_X6_isWithin hst h) gX6_ground_X6_isWithin rfl ⟨rfl, by decide, by decide, by decide +kernel⟩ ⟨by decide, by decide⟩ rfl (Nat.le_of_ble_eq_true rfl) dX6_ground_15 ⟨by decide, by decide⟩ (As := [.int p2, .int (0 : Int32), .int (20 : Int32)]) rfl) (pc' := 18) rfl (cn' := 0) (sn' := 0) rfl rfl (fun v2 ws h => ?_)
    refine e_if_ne C (tg := 31) dX6_ground_18 (by decide) (pc' := 21) rfl (fun hc => ?_) (fun hc => ?_)
    · replace h := h.1 hc
      refine e_aload_n C (x := p0) rfl dX6_ground_31 (pc' := 32) rfl ?_
      refine e_iload_n C (x := p1) rfl dX6_ground_32 (pc' := 33) rfl ?_
      refine f_putI C (ci := 6) (CN := RX6) (TT := TX6) (N := 16) 7 tyX6 dX6_ground_33 (pc' := 36) rfl in_X6_ground_X6 tyX6_ok nmX6 rfl (by decide) fl_X6_ground_36 rfl (by decide +kernel) h (fun ws h => ?_)
      refine e_aload_n C (x := p0) rfl dX6_ground_36 (pc' := 37) rfl ?_
      refine e_iload_n C (x := p2) rfl dX6_ground_37 (pc' := 38) rfl ?_
      refine f_putI C (ci := 6) (CN := RX6) (TT := TX6) (N := 16) 8 tyX6 dX6_ground_38 (pc' := 41) rfl in_X6_ground_X6 tyX6_ok nmX6 rfl (by decide) fl_X6_ground_39 rfl (by decide +kernel) h (fun ws h => ?_)
      exact x_void C F dX6_ground_41 (by decide) (by decide) h
    · replace h := h.2 hc
      exact x_throwS C F (E := "java/lang/IllegalArgumentException") (tx := "head or slope is none") (by decide) (by decide) w_X6_ground_k79 w_X6_ground_i79 (by decide) gw_X6_ground_83 xb_X6_83 xo_X6_83_79 dX6_ground_21 dX6_ground_24 dX6_ground_25 dX6_ground_27 dX6_ground_30 (by decide) (by decide) (by decide) (by decide) h
abbrev rm_X6_channel : Room := { frames := 6, cells := 1, slots := 6, locals := 82 }
set_option maxRecDepth 20000 in
theorem in_X6_channel_X6 : ∀ w ∈ wsX60, w ∈ wsX6_channel := by decide +kernel
set_option maxRecDepth 20000 in
theorem fl_X6_channel_86 : Cond.fieldLink RX6 86 (TX6 5).1 (TX6 5).2.1 (TX6 5).2.2.1 ∈ wsX6_channel := by decide +kernel
set_option maxRecDepth 20000 in
theorem w_X6_channel_k89 : Cond.classLink RX6 89 "java/lang/UnsupportedOperationException" ∈ wsX6_channel := by decide +kernel
set_option maxRecDepth 20000 in
theorem w_X6_channel_i89 : Cond.initialized "java/lang/UnsupportedOperationException" ∈ wsX6_channel := by decide +kernel
set_option maxRecDepth 20000 in
theorem gw_X6_channel_93 : ∀ w ∈ (vx_atS RX6 93 "java/lang/UnsupportedOperationException" xnms).filter goodWord, w ∈ wsX6_channel := by decide +kernel
def F_X6_channel (G : Gx) (p0 : Nat) (ws : va_W) (Q : Int32 → va_W → Prop) (X : String → va_W → Prop) : Prop := qI 6 5 p0 ws (fun v1 => ((v1 < (8 : Int32) → qI 6 5 p0 ws (fun v2 => qP 6 5 p0 (.int (v2 + (1 : Int32))) ws (fun ws => qI 6 5 p0 ws (fun v3 => Q (v3 - (1 : Int32)) ws)))) ∧ (¬ v1 < (8 : Int32) → X "java/lang/UnsupportedOperationException" ws)))
set_option maxRecDepth 20000 in
set_option maxHeartbeats 4000000 in
theorem m_X6_channel {G : Gx} (hst : (gl G).stackTraces = false) {p0 : Nat} {ws : va_W} {Q : Int32 → va_W → Prop} {X : String → va_W → Prop} (h : F_X6_channel G p0 ws Q X) : Xt G yX6_channel wsX6_channel rm_X6_channel [.ref p0] ws (QtI G Q) X := by
  refine mk_Xt (cc := cX6_channel) (nL := 1) (own := RX6) (ret := (some .int)) (lv0 := [some (.ref p0)]) hst (by decide) rfl rfl (Nat.le_of_ble_eq_true rfl) rfl ?_
  intro K C F
  refine e_aload_n C (x := p0) rfl dX6_channel_0 (pc' := 1) rfl ?_
  refine f_getI C (ci := 6) (CN := RX6) (TT := TX6) (N := 16) 5 dX6_channel_1 (pc' := 4) rfl in_X6_channel_X6 rfl (by decide) fl_X6_channel_86 h (fun v1 h => ?_)
  refine e_bipush C (v := (8 : Int32)) (by decide) dX6_channel_4 (pc' := 6) rfl ?_
  refine e_icmp_lt C (tg := 19) dX6_channel_6 (by decide) (pc' := 9) rfl (fun hc => ?_) (fun hc => ?_)
  · replace h := h.1 hc
    refine e_aload_n C (x := p0) rfl dX6_channel_19 (pc' := 20) rfl ?_
    refine e_dup C rfl dX6_channel_20 (pc' := 21) rfl ?_
    refine f_getI C (ci := 6) (CN := RX6) (TT := TX6) (N := 16) 5 dX6_channel_21 (pc' := 24) rfl in_X6_channel_X6 rfl (by decide) fl_X6_channel_86 h (fun v2 h => ?_)
    refine e_iconst C (v := (1 : Int32)) (by decide) dX6_channel_24 (pc' := 25) rfl ?_
    refine e_iadd C dX6_channel_25 (pc' := 26) rfl ?_
    refine f_putI C (ci := 6) (CN := RX6) (TT := TX6) (N := 16) 5 tyX6 dX6_channel_26 (pc' := 29) rfl in_X6_channel_X6 tyX6_ok nmX6 rfl (by decide) fl_X6_channel_86 rfl (by decide +kernel) h (fun ws h => ?_)
    refine e_aload_n C (x := p0) rfl dX6_channel_29 (pc' := 30) rfl ?_
    refine f_getI C (ci := 6) (CN := RX6) (TT := TX6) (N := 16) 5 dX6_channel_30 (pc' := 33) rfl in_X6_channel_X6 rfl (by decide) fl_X6_channel_86 h (fun v3 h => ?_)
    refine e_iconst C (v := (1 : Int32)) (by decide) dX6_channel_33 (pc' := 34) rfl ?_
    refine e_isub C dX6_channel_34 (pc' := 35) rfl ?_
    exact x_int C F dX6_channel_35 (by decide) (by decide) h
  · replace h := h.2 hc
    exact x_throwS C F (E := "java/lang/UnsupportedOperationException") (tx := "there are 8 channels") (by decide) (by decide) w_X6_channel_k89 w_X6_channel_i89 (by decide) gw_X6_channel_93 xb_X6_93 xo_X6_93_89 dX6_channel_9 dX6_channel_12 dX6_channel_13 dX6_channel_15 dX6_channel_18 (by decide) (by decide) (by decide) (by decide) h
abbrev rm_X6_channelAt : Room := { frames := 6, cells := 1, slots := 6, locals := 82 }
set_option maxRecDepth 20000 in
theorem w_X6_channelAt_k304 : Cond.classLink RX6 304 "java/lang/IndexOutOfBoundsException" ∈ wsX6_channelAt := by decide +kernel
set_option maxRecDepth 20000 in
theorem w_X6_channelAt_i304 : Cond.initialized "java/lang/IndexOutOfBoundsException" ∈ wsX6_channelAt := by decide +kernel
set_option maxRecDepth 20000 in
theorem gw_X6_channelAt_308 : ∀ w ∈ (vx_atS RX6 308 "java/lang/IndexOutOfBoundsException" xnms).filter goodWord, w ∈ wsX6_channelAt := by decide +kernel
set_option maxRecDepth 20000 in
theorem in_X6_channelAt_X6 : ∀ w ∈ wsX60, w ∈ wsX6_channelAt := by decide +kernel
set_option maxRecDepth 20000 in
theorem fl_X6_channelAt_86 : Cond.fieldLink RX6 86 (TX6 5).1 (TX6 5).2.1 (TX6 5).2.2.1 ∈ wsX6_channelAt := by decide +kernel
set_option maxRecDepth 20000 in
theorem fl_X6_channelAt_31 : Cond.fieldLink RX6 31 (TX6 4).1 (TX6 4).2.1 (TX6 4).2.2.1 ∈ wsX6_channelAt := by decide +kernel
def F_X6_channelAt (G : Gx) (p0 : Nat) (p1 : Int32) (ws : va_W) (Q : Nat → va_W → Prop) (X : String → va_W → Prop) : Prop := ((p1 < 0 → X "java/lang/IndexOutOfBoundsException" ws) ∧ (¬ p1 < 0 → qI 6 5 p0 ws (fun v1 => ((p1 < v1 → qR 6 4 p0 ws (fun v2 => qQ (gc G 3) v2 p1 ws (fun v3 => Q v3 ws))) ∧ (¬ p1 < v1 → X "java/lang/IndexOutOfBoundsException" ws)))))
set_option maxRecDepth 20000 in
set_option maxHeartbeats 4000000 in
theorem m_X6_channelAt {G : Gx} (hst : (gl G).stackTraces = false) {p0 : Nat} {p1 : Int32} {ws : va_W} {Q : Nat → va_W → Prop} {X : String → va_W → Prop} (h : F_X6_channelAt G p0 p1 ws Q X) : Xt G yX6_channelAt wsX6_channelAt rm_X6_channelAt [.ref p0, .int p1] ws (QtR G Q) X := by
  refine mk_Xt (cc := cX6_channelAt) (nL := 2) (own := RX6) (ret := (some (.object "DesertChannels$Channel"))) (lv0 := [some (.ref p0), some (.int p1)]) hst (by decide) rfl rfl (Nat.le_of_ble_eq_true rfl) rfl ?_
  intro K C F
  refine e_iload_n C (x := p1) rfl dX6_channelAt_0 (pc' := 1) rfl ?_
  refine e_if_lt C (tg := 12) dX6_channelAt_1 (by decide) (pc' := 4) rfl (fun hc => ?_) (fun hc => ?_)
  · replace h := h.1 hc
    exact x_throwSW C F (E := "java/lang/IndexOutOfBoundsException") (tx := "there is no such channel") (by decide) (by decide) w_X6_channelAt_k304 w_X6_channelAt_i304 (by decide) gw_X6_channelAt_308 xb_X6_308 xo_X6_308_304 dX6_channelAt_12 dX6_channelAt_15 dX6_channelAt_16 dX6_channelAt_19 dX6_channelAt_22 (by decide) (by decide) (by decide) (by decide) h
  · replace h := h.2 hc
    refine e_iload_n C (x := p1) rfl dX6_channelAt_4 (pc' := 5) rfl ?_
    refine e_aload_n C (x := p0) rfl dX6_channelAt_5 (pc' := 6) rfl ?_
    refine f_getI C (ci := 6) (CN := RX6) (TT := TX6) (N := 16) 5 dX6_channelAt_6 (pc' := 9) rfl in_X6_channelAt_X6 rfl (by decide) fl_X6_channelAt_86 h (fun v1 h => ?_)
    refine e_icmp_lt C (tg := 23) dX6_channelAt_9 (by decide) (pc' := 12) rfl (fun hc => ?_) (fun hc => ?_)
    · replace h := h.1 hc
      refine e_aload_n C (x := p0) rfl dX6_channelAt_23 (pc' := 24) rfl ?_
      refine f_getR C (ci := 6) (CN := RX6) (TT := TX6) (N := 16) 4 dX6_channelAt_24 (pc' := 27) rfl in_X6_channelAt_X6 rfl (by decide) fl_X6_channelAt_31 h (fun v2 h => ?_)
      refine e_iload_n C (x := p1) rfl dX6_channelAt_27 (pc' := 28) rfl ?_
      refine f_aaloadC C dX6_channelAt_28 (pc' := 29) rfl h (fun v3 h => ?_)
      exact x_ref C F dX6_channelAt_29 (by decide) (by decide) h
    · replace h := h.2 hc
      exact x_throwSW C F (E := "java/lang/IndexOutOfBoundsException") (tx := "there is no such channel") (by decide) (by decide) w_X6_channelAt_k304 w_X6_channelAt_i304 (by decide) gw_X6_channelAt_308 xb_X6_308 xo_X6_308_304 dX6_channelAt_12 dX6_channelAt_15 dX6_channelAt_16 dX6_channelAt_19 dX6_channelAt_22 (by decide) (by decide) (by decide) (by decide) h
abbrev rm_X0_isDug : Room := { frames := 0, cells := 0, slots := 0, locals := 0 }
set_option maxRecDepth 20000 in
theorem in_X0_isDug_X0 : ∀ w ∈ wsX00, w ∈ wsX0_isDug := by decide +kernel
set_option maxRecDepth 20000 in
theorem fl_X0_isDug_25 : Cond.fieldLink RX0 25 (TX0 5).1 (TX0 5).2.1 (TX0 5).2.2.1 ∈ wsX0_isDug := by decide +kernel
def F_X0_isDug (G : Gx) (p0 : Nat) (ws : va_W) (Q : Int32 → va_W → Prop) : Prop := qI 0 5 p0 ws (fun v1 => ((v1 ≤ 0 → Q (0 : Int32) ws) ∧ (¬ v1 ≤ 0 → Q (1 : Int32) ws)))
set_option maxRecDepth 20000 in
set_option maxHeartbeats 4000000 in
theorem m_X0_isDug {G : Gx} (hst : (gl G).stackTraces = false) {p0 : Nat} {ws : va_W} {Q : Int32 → va_W → Prop} (h : F_X0_isDug G p0 ws Q) : Mt G yX0_isDug wsX0_isDug rm_X0_isDug [.ref p0] ws (QtI G Q) := by
  refine mk_Mt (cc := cX0_isDug) (nL := 1) (own := RX0) (ret := (some .boolean)) (lv0 := [some (.ref p0)]) hst (by decide) rfl rfl (Nat.le_of_ble_eq_true rfl) rfl ?_
  intro K C F
  refine e_aload_n C (x := p0) rfl dX0_isDug_0 (pc' := 1) rfl ?_
  refine f_getI C (ci := 0) (CN := RX0) (TT := TX0) (N := 8) 5 dX0_isDug_1 (pc' := 4) rfl in_X0_isDug_X0 rfl (by decide) fl_X0_isDug_25 h (fun v1 h => ?_)
  refine e_if_le C (tg := 11) dX0_isDug_4 (by decide) (pc' := 7) rfl (fun hc => ?_) (fun hc => ?_)
  · replace h := h.1 hc
    refine e_iconst C (v := (0 : Int32)) (by decide) dX0_isDug_11 (pc' := 12) rfl ?_
    exact r_bool C F dX0_isDug_12 (by decide) (by decide) (Or.inl rfl) h
  · replace h := h.2 hc
    refine e_iconst C (v := (1 : Int32)) (by decide) dX0_isDug_7 (pc' := 8) rfl ?_
    refine e_goto C (tg := 12) dX0_isDug_8 (by decide) ?_
    exact r_bool C F dX0_isDug_12 (by decide) (by decide) (Or.inr rfl) h
abbrev rm_X6_undugAt : Room := { frames := 7, cells := 2, slots := 12, locals := 103 }
set_option maxRecDepth 20000 in
theorem w_X6_undugAt_k313 : Cond.classLink RX6 313 "java/lang/IllegalStateException" ∈ wsX6_undugAt := by decide +kernel
set_option maxRecDepth 20000 in
theorem w_X6_undugAt_i313 : Cond.initialized "java/lang/IllegalStateException" ∈ wsX6_undugAt := by decide +kernel
set_option maxRecDepth 20000 in
theorem gw_X6_undugAt_317 : ∀ w ∈ (vx_atS RX6 317 "java/lang/IllegalStateException" xnms).filter goodWord, w ∈ wsX6_undugAt := by decide +kernel
def F_X6_undugAt (G : Gx) (p0 : Nat) (p1 : Int32) (ws : va_W) (Q : Nat → va_W → Prop) (X : String → va_W → Prop) : Prop := (qV 6 p0 ws ∧ F_X6_channelAt G p0 p1 ws (fun v1 ws => (qV 0 v1 ws ∧ F_X0_isDug G v1 ws (fun v2 ws => ((v2 = 0 → Q v1 ws) ∧ (¬ v2 = 0 → X "java/lang/IllegalStateException" ws))))) X)
set_option maxRecDepth 20000 in
set_option maxHeartbeats 4000000 in
theorem m_X6_undugAt {G : Gx} (hst : (gl G).stackTraces = false) {p0 : Nat} {p1 : Int32} {ws : va_W} {Q : Nat → va_W → Prop} {X : String → va_W → Prop} (h : F_X6_undugAt G p0 p1 ws Q X) : Xt G yX6_undugAt wsX6_undugAt rm_X6_undugAt [.ref p0, .int p1] ws (QtR G Q) X := by
  refine mk_Xt (cc := cX6_undugAt) (nL := 3) (own := RX6) (ret := (some (.object "DesertChannels$Channel"))) (lv0 := [some (.ref p0), some (.int p1), none]) hst (by decide) rfl rfl (Nat.le_of_ble_eq_true rfl) rfl ?_
  intro K C F
  refine e_aload_n C (x := p0) rfl dX6_undugAt_0 (pc' := 1) rfl ?_
  refine e_iload_n C (x := p1) rfl dX6_undugAt_1 (pc' := 2) rfl ?_
  obtain ⟨hv, h⟩ := h
  refine e_xcallr (run_XV (n := 1) C (m_X6_channelAt hst h) gX6_undugAt_X6_channelAt rfl ⟨rfl, by decide, by decide, by decide +kernel⟩ ⟨by decide, by decide⟩ (ci := 6) rfl rfl hv rfl (Nat.le_of_ble_eq_true rfl) dX6_undugAt_2 ⟨by decide, by decide⟩ (As := [.int p1]) rfl) (pc' := 5) rfl (cn' := 1) (sn' := 6) rfl rfl (fun E u hx => x_out C F (by decide) (by decide) hx) (fun v1 ws h => ?_)
  refine e_astore_n C (by decide) dX6_undugAt_5 (pc' := 6) rfl (lv' := [some (.ref p0), some (.int p1), some (.ref v1)]) rfl ?_
  refine e_aload_n C (x := v1) rfl dX6_undugAt_6 (pc' := 7) rfl ?_
  obtain ⟨hv, h⟩ := h
  refine e_calli (run_V (n := 0) C (m_X0_isDug hst h) gX6_undugAt_X0_isDug rfl ⟨rfl, by decide, by decide, by decide +kernel⟩ ⟨by decide, by decide⟩ (ci := 0) rfl rfl hv rfl (Nat.le_of_ble_eq_true rfl) dX6_undugAt_7 ⟨by decide, by decide⟩ (As := []) rfl) (pc' := 10) rfl (cn' := 1) (sn' := 6) rfl rfl (fun v2 ws h => ?_)
  refine e_if_eq C (tg := 24) dX6_undugAt_10 (by decide) (pc' := 13) rfl (fun hc => ?_) (fun hc => ?_)
  · replace h := h.1 hc
    refine e_aload_n C (x := v1) rfl dX6_undugAt_24 (pc' := 25) rfl ?_
    exact x_ref C F dX6_undugAt_25 (by decide) (by decide) h
  · replace h := h.2 hc
    exact x_throwSW C F (E := "java/lang/IllegalStateException") (tx := "the channel is dug") (by decide) (by decide) w_X6_undugAt_k313 w_X6_undugAt_i313 (by decide) gw_X6_undugAt_317 xb_X6_317 xo_X6_317_313 dX6_undugAt_13 dX6_undugAt_16 dX6_undugAt_17 dX6_undugAt_20 dX6_undugAt_23 (by decide) (by decide) (by decide) (by decide) h
abbrev rm_X0_lastFloor : Room := { frames := 0, cells := 0, slots := 0, locals := 0 }
set_option maxRecDepth 20000 in
theorem in_X0_lastFloor_X0 : ∀ w ∈ wsX00, w ∈ wsX0_lastFloor := by decide +kernel
set_option maxRecDepth 20000 in
theorem fl_X0_lastFloor_29 : Cond.fieldLink RX0 29 (TX0 4).1 (TX0 4).2.1 (TX0 4).2.2.1 ∈ wsX0_lastFloor := by decide +kernel
set_option maxRecDepth 20000 in
theorem fl_X0_lastFloor_18 : Cond.fieldLink RX0 18 (TX0 2).1 (TX0 2).2.1 (TX0 2).2.2.1 ∈ wsX0_lastFloor := by decide +kernel
def F_X0_lastFloor (G : Gx) (p0 : Nat) (ws : va_W) (Q : Int32 → va_W → Prop) : Prop := qI 0 4 p0 ws (fun v1 => ((v1 ≤ 0 → Q (0 : Int32) ws) ∧ (¬ v1 ≤ 0 → qR 0 2 p0 ws (fun v2 => qI 0 4 p0 ws (fun v3 => qA (gc G 1) v2 (v3 - (1 : Int32)) ws (fun v4 => Q v4 ws))))))
set_option maxRecDepth 20000 in
set_option maxHeartbeats 4000000 in
theorem m_X0_lastFloor {G : Gx} (hst : (gl G).stackTraces = false) {p0 : Nat} {ws : va_W} {Q : Int32 → va_W → Prop} (h : F_X0_lastFloor G p0 ws Q) : Mt G yX0_lastFloor wsX0_lastFloor rm_X0_lastFloor [.ref p0] ws (QtI G Q) := by
  refine mk_Mt (cc := cX0_lastFloor) (nL := 1) (own := RX0) (ret := (some .int)) (lv0 := [some (.ref p0)]) hst (by decide) rfl rfl (Nat.le_of_ble_eq_true rfl) rfl ?_
  intro K C F
  refine e_aload_n C (x := p0) rfl dX0_lastFloor_0 (pc' := 1) rfl ?_
  refine f_getI C (ci := 0) (CN := RX0) (TT := TX0) (N := 8) 4 dX0_lastFloor_1 (pc' := 4) rfl in_X0_lastFloor_X0 rfl (by decide) fl_X0_lastFloor_29 h (fun v1 h => ?_)
  refine e_if_le C (tg := 21) dX0_lastFloor_4 (by decide) (pc' := 7) rfl (fun hc => ?_) (fun hc => ?_)
  · replace h := h.1 hc
    refine e_iconst C (v := (0 : Int32)) (by decide) dX0_lastFloor_21 (pc' := 22) rfl ?_
    exact r_int C F dX0_lastFloor_22 (by decide) (by decide) h
  · replace h := h.2 hc
    refine e_aload_n C (x := p0) rfl dX0_lastFloor_7 (pc' := 8) rfl ?_
    refine f_getR C (ci := 0) (CN := RX0) (TT := TX0) (N := 8) 2 dX0_lastFloor_8 (pc' := 11) rfl in_X0_lastFloor_X0 rfl (by decide) fl_X0_lastFloor_18 h (fun v2 h => ?_)
    refine e_aload_n C (x := p0) rfl dX0_lastFloor_11 (pc' := 12) rfl ?_
    refine f_getI C (ci := 0) (CN := RX0) (TT := TX0) (N := 8) 4 dX0_lastFloor_12 (pc' := 15) rfl in_X0_lastFloor_X0 rfl (by decide) fl_X0_lastFloor_29 h (fun v3 h => ?_)
    refine e_iconst C (v := (1 : Int32)) (by decide) dX0_lastFloor_15 (pc' := 16) rfl ?_
    refine e_isub C dX0_lastFloor_16 (pc' := 17) rfl ?_
    refine f_iaload C dX0_lastFloor_17 (pc' := 18) rfl h (fun v4 h => ?_)
    refine e_goto C (tg := 22) dX0_lastFloor_18 (by decide) ?_
    exact r_int C F dX0_lastFloor_22 (by decide) (by decide) h
abbrev rm_X0_addWell : Room := { frames := 0, cells := 0, slots := 0, locals := 0 }
set_option maxRecDepth 20000 in
theorem in_X0_addWell_X0 : ∀ w ∈ wsX00, w ∈ wsX0_addWell := by decide +kernel
set_option maxRecDepth 20000 in
theorem fl_X0_addWell_29 : Cond.fieldLink RX0 29 (TX0 4).1 (TX0 4).2.1 (TX0 4).2.2.1 ∈ wsX0_addWell := by decide +kernel
set_option maxRecDepth 20000 in
theorem fl_X0_addWell_9 : Cond.fieldLink RX0 9 (TX0 0).1 (TX0 0).2.1 (TX0 0).2.2.1 ∈ wsX0_addWell := by decide +kernel
set_option maxRecDepth 20000 in
theorem fl_X0_addWell_15 : Cond.fieldLink RX0 15 (TX0 1).1 (TX0 1).2.1 (TX0 1).2.2.1 ∈ wsX0_addWell := by decide +kernel
set_option maxRecDepth 20000 in
theorem fl_X0_addWell_18 : Cond.fieldLink RX0 18 (TX0 2).1 (TX0 2).2.1 (TX0 2).2.2.1 ∈ wsX0_addWell := by decide +kernel
def F_X0_addWell (G : Gx) (p0 : Nat) (p1 : Int32) (p2 : Int32) (p3 : Int32) (ws : va_W) (Q : va_W → Prop) : Prop := qI 0 4 p0 ws (fun v1 => (((20 : Int32) ≤ v1 → Q ws) ∧ (¬ (20 : Int32) ≤ v1 → qR 0 0 p0 ws (fun v2 => qI 0 4 p0 ws (fun v3 => qS (gc G 1) v2 v3 p1 ws (fun ws => qR 0 1 p0 ws (fun v4 => qI 0 4 p0 ws (fun v5 => qS (gc G 1) v4 v5 p2 ws (fun ws => qR 0 2 p0 ws (fun v6 => qI 0 4 p0 ws (fun v7 => qS (gc G 1) v6 v7 p3 ws (fun ws => qI 0 4 p0 ws (fun v8 => qP 0 4 p0 (.int (v8 + (1 : Int32))) ws (fun ws => Q ws))))))))))))))
set_option maxRecDepth 20000 in
set_option maxHeartbeats 4000000 in
theorem m_X0_addWell {G : Gx} (hst : (gl G).stackTraces = false) {p0 : Nat} {p1 : Int32} {p2 : Int32} {p3 : Int32} {ws : va_W} {Q : va_W → Prop} (h : F_X0_addWell G p0 p1 p2 p3 ws Q) : Mt G yX0_addWell wsX0_addWell rm_X0_addWell [.ref p0, .int p1, .int p2, .int p3] ws (QtV G Q) := by
  refine mk_Mt (cc := cX0_addWell) (nL := 4) (own := RX0) (ret := none) (lv0 := [some (.ref p0), some (.int p1), some (.int p2), some (.int p3)]) hst (by decide) rfl rfl (Nat.le_of_ble_eq_true rfl) rfl ?_
  intro K C F
  refine e_aload_n C (x := p0) rfl dX0_addWell_0 (pc' := 1) rfl ?_
  refine f_getI C (ci := 0) (CN := RX0) (TT := TX0) (N := 8) 4 dX0_addWell_1 (pc' := 4) rfl in_X0_addWell_X0 rfl (by decide) fl_X0_addWell_29 h (fun v1 h => ?_)
  refine e_bipush C (v := (20 : Int32)) (by decide) dX0_addWell_4 (pc' := 6) rfl ?_
  refine e_icmp_ge C (tg := 49) dX0_addWell_6 (by decide) (pc' := 9) rfl (fun hc => ?_) (fun hc => ?_)
  · replace h := h.1 hc
    exact r_void C F dX0_addWell_49 (by decide) (by decide) h
  · replace h := h.2 hc
    refine e_aload_n C (x := p0) rfl dX0_addWell_9 (pc' := 10) rfl ?_
    refine f_getR C (ci := 0) (CN := RX0) (TT := TX0) (N := 8) 0 dX0_addWell_10 (pc' := 13) rfl in_X0_addWell_X0 rfl (by decide) fl_X0_addWell_9 h (fun v2 h => ?_)
    refine e_aload_n C (x := p0) rfl dX0_addWell_13 (pc' := 14) rfl ?_
    refine f_getI C (ci := 0) (CN := RX0) (TT := TX0) (N := 8) 4 dX0_addWell_14 (pc' := 17) rfl in_X0_addWell_X0 rfl (by decide) fl_X0_addWell_29 h (fun v3 h => ?_)
    refine e_iload_n C (x := p1) rfl dX0_addWell_17 (pc' := 18) rfl ?_
    refine f_iastore C dX0_addWell_18 (pc' := 19) rfl h (fun ws h => ?_)
    refine e_aload_n C (x := p0) rfl dX0_addWell_19 (pc' := 20) rfl ?_
    refine f_getR C (ci := 0) (CN := RX0) (TT := TX0) (N := 8) 1 dX0_addWell_20 (pc' := 23) rfl in_X0_addWell_X0 rfl (by decide) fl_X0_addWell_15 h (fun v4 h => ?_)
    refine e_aload_n C (x := p0) rfl dX0_addWell_23 (pc' := 24) rfl ?_
    refine f_getI C (ci := 0) (CN := RX0) (TT := TX0) (N := 8) 4 dX0_addWell_24 (pc' := 27) rfl in_X0_addWell_X0 rfl (by decide) fl_X0_addWell_29 h (fun v5 h => ?_)
    refine e_iload_n C (x := p2) rfl dX0_addWell_27 (pc' := 28) rfl ?_
    refine f_iastore C dX0_addWell_28 (pc' := 29) rfl h (fun ws h => ?_)
    refine e_aload_n C (x := p0) rfl dX0_addWell_29 (pc' := 30) rfl ?_
    refine f_getR C (ci := 0) (CN := RX0) (TT := TX0) (N := 8) 2 dX0_addWell_30 (pc' := 33) rfl in_X0_addWell_X0 rfl (by decide) fl_X0_addWell_18 h (fun v6 h => ?_)
    refine e_aload_n C (x := p0) rfl dX0_addWell_33 (pc' := 34) rfl ?_
    refine f_getI C (ci := 0) (CN := RX0) (TT := TX0) (N := 8) 4 dX0_addWell_34 (pc' := 37) rfl in_X0_addWell_X0 rfl (by decide) fl_X0_addWell_29 h (fun v7 h => ?_)
    refine e_iload_n C (x := p3) rfl dX0_addWell_37 (pc' := 38) rfl ?_
    refine f_iastore C dX0_addWell_38 (pc' := 39) rfl h (fun ws h => ?_)
    refine e_aload_n C (x := p0) rfl dX0_addWell_39 (pc' := 40) rfl ?_
    refine e_dup C rfl dX0_addWell_40 (pc' := 41) rfl ?_
    refine f_getI C (ci := 0) (CN := RX0) (TT := TX0) (N := 8) 4 dX0_addWell_41 (pc' := 44) rfl in_X0_addWell_X0 rfl (by decide) fl_X0_addWell_29 h (fun v8 h => ?_)
    refine e_iconst C (v := (1 : Int32)) (by decide) dX0_addWell_44 (pc' := 45) rfl ?_
    refine e_iadd C dX0_addWell_45 (pc' := 46) rfl ?_
    refine f_putI C (ci := 0) (CN := RX0) (TT := TX0) (N := 8) 4 tyX0 dX0_addWell_46 (pc' := 49) rfl in_X0_addWell_X0 tyX0_ok nmX0 rfl (by decide) fl_X0_addWell_29 rfl (by decide +kernel) h (fun ws h => ?_)
    exact r_void C F dX0_addWell_49 (by decide) (by decide) h
abbrev rm_X6_well : Room := { frames := 8, cells := 3, slots := 18, locals := 125 }
set_option maxRecDepth 20000 in
theorem w_X6_well_k79 : Cond.classLink RX6 79 "java/lang/IllegalArgumentException" ∈ wsX6_well := by decide +kernel
set_option maxRecDepth 20000 in
theorem w_X6_well_i79 : Cond.initialized "java/lang/IllegalArgumentException" ∈ wsX6_well := by decide +kernel
set_option maxRecDepth 20000 in
theorem gw_X6_well_83 : ∀ w ∈ (vx_atS RX6 83 "java/lang/IllegalArgumentException" xnms).filter goodWord, w ∈ wsX6_well := by decide +kernel
set_option maxRecDepth 20000 in
theorem in_X6_well_X0 : ∀ w ∈ wsX00, w ∈ wsX6_well := by decide +kernel
set_option maxRecDepth 20000 in
theorem fl_X6_well_104 : Cond.fieldLink RX6 104 (TX0 4).1 (TX0 4).2.1 (TX0 4).2.2.1 ∈ wsX6_well := by decide +kernel
set_option maxRecDepth 20000 in
theorem w_X6_well_k89 : Cond.classLink RX6 89 "java/lang/UnsupportedOperationException" ∈ wsX6_well := by decide +kernel
set_option maxRecDepth 20000 in
theorem w_X6_well_i89 : Cond.initialized "java/lang/UnsupportedOperationException" ∈ wsX6_well := by decide +kernel
set_option maxRecDepth 20000 in
theorem gw_X6_well_93 : ∀ w ∈ (vx_atS RX6 93 "java/lang/UnsupportedOperationException" xnms).filter goodWord, w ∈ wsX6_well := by decide +kernel
def F_X6_well (G : Gx) (p0 : Nat) (p1 : Int32) (p2 : Int32) (p3 : Int32) (p4 : Int32) (ws : va_W) (Q : Int32 → va_W → Prop) (X : String → va_W → Prop) : Prop := (qV 6 p0 ws ∧ F_X6_undugAt G p0 p1 ws (fun v1 ws => (F_X6_isWithin G p2 (0 : Int32) (100 : Int32) ws (fun v2 ws => ((v2 = 0 → X "java/lang/IllegalArgumentException" ws) ∧ (¬ v2 = 0 → (F_X6_isWithin G p3 (0 : Int32) (100 : Int32) ws (fun v3 ws => ((v3 = 0 → X "java/lang/IllegalArgumentException" ws) ∧ (¬ v3 = 0 → (qV 0 v1 ws ∧ F_X0_lastFloor G v1 ws (fun v4 ws => (F_X6_isWithin G p4 v4 (1000 : Int32) ws (fun v5 ws => ((¬ v5 = 0 → qI 0 4 v1 ws (fun v6 => ((v6 < (20 : Int32) → (qV 0 v1 ws ∧ F_X0_addWell G v1 p2 p3 p4 ws (fun ws => qI 0 4 v1 ws (fun v8 => Q (v8 - (1 : Int32)) ws)))) ∧ (¬ v6 < (20 : Int32) → X "java/lang/UnsupportedOperationException" ws)))) ∧ (v5 = 0 → X "java/lang/IllegalArgumentException" ws))))))))))))))) X)
set_option maxRecDepth 20000 in
set_option maxHeartbeats 4000000 in
theorem m_X6_well {G : Gx} (hst : (gl G).stackTraces = false) {p0 : Nat} {p1 : Int32} {p2 : Int32} {p3 : Int32} {p4 : Int32} {ws : va_W} {Q : Int32 → va_W → Prop} {X : String → va_W → Prop} (h : F_X6_well G p0 p1 p2 p3 p4 ws Q X) : Xt G yX6_well wsX6_well rm_X6_well [.ref p0, .int p1, .int p2, .int p3, .int p4] ws (QtI G Q) X := by
  refine mk_Xt (cc := cX6_well) (nL := 6) (own := RX6) (ret := (some .int)) (lv0 := [some (.ref p0), some (.int p1), some (.int p2), some (.int p3), some (.int p4), none]) hst (by decide) rfl rfl (Nat.le_of_ble_eq_true rfl) rfl ?_
  intro K C F
  refine e_aload_n C (x := p0) rfl dX6_well_0 (pc' := 1) rfl ?_
  refine e_iload_n C (x := p1) rfl dX6_well_1 (pc' := 2) rfl ?_
  obtain ⟨hv, h⟩ := h
  refine e_xcallr (run_XV (n := 1) C (m_X6_undugAt hst h) gX6_well_X6_undugAt rfl ⟨rfl, by decide, by decide, by decide +kernel⟩ ⟨by decide, by decide⟩ (ci := 6) rfl rfl hv rfl (Nat.le_of_ble_eq_true rfl) dX6_well_2 ⟨by decide, by decide⟩ (As := [.int p1]) rfl) (pc' := 5) rfl (cn' := 2) (sn' := 12) rfl rfl (fun E u hx => x_out C F (by decide) (by decide) hx) (fun v1 ws h => ?_)
  refine e_astore C (by decide) dX6_well_5 (pc' := 7) rfl (lv' := [some (.ref p0), some (.int p1), some (.int p2), some (.int p3), some (.int p4), some (.ref v1)]) rfl ?_
  refine e_iload_n C (x := p2) rfl dX6_well_7 (pc' := 8) rfl ?_
  refine e_iconst C (v := (0 : Int32)) (by decide) dX6_well_8 (pc' := 9) rfl ?_
  refine e_bipush C (v := (100 : Int32)) (by decide) dX6_well_9 (pc' := 11) rfl ?_
  refine e_calli (run_S (n := 3) C (m_X6_isWithin hst h) gX6_well_X6_isWithin rfl ⟨rfl, by decide, by decide, by decide +kernel⟩ ⟨by decide, by decide⟩ rfl (Nat.le_of_ble_eq_true rfl) dX6_well_11 ⟨by decide, by decide⟩ (As := [.int p2, .int (0 : Int32), .int (100 : Int32)]) rfl) (pc' := 14) rfl (cn' := 2) (sn' := 12) rfl rfl (fun v2 ws h => ?_)
  refine e_if_eq C (tg := 43) dX6_well_14 (by decide) (pc' := 17) rfl (fun hc => ?_) (fun hc => ?_)
  · replace h := h.1 hc
    exact x_throwS C F (E := "java/lang/IllegalArgumentException") (tx := "place or floor is none") (by decide) (by decide) w_X6_well_k79 w_X6_well_i79 (by decide) gw_X6_well_83 xb_X6_83 xo_X6_83_79 dX6_well_43 dX6_well_46 dX6_well_47 dX6_well_49 dX6_well_52 (by decide) (by decide) (by decide) (by decide) h
  · replace h := h.2 hc
    refine e_iload_n C (x := p3) rfl dX6_well_17 (pc' := 18) rfl ?_
    refine e_iconst C (v := (0 : Int32)) (by decide) dX6_well_18 (pc' := 19) rfl ?_
    refine e_bipush C (v := (100 : Int32)) (by decide) dX6_well_19 (pc' := 21) rfl ?_
    refine e_calli (run_S (n := 3) C (m_X6_isWithin hst h) gX6_well_X6_isWithin rfl ⟨rfl, by decide, by decide, by decide +kernel⟩ ⟨by decide, by decide⟩ rfl (Nat.le_of_ble_eq_true rfl) dX6_well_21 ⟨by decide, by decide⟩ (As := [.int p3, .int (0 : Int32), .int (100 : Int32)]) rfl) (pc' := 24) rfl (cn' := 2) (sn' := 12) rfl rfl (fun v3 ws h => ?_)
    refine e_if_eq C (tg := 43) dX6_well_24 (by decide) (pc' := 27) rfl (fun hc => ?_) (fun hc => ?_)
    · replace h := h.1 hc
      exact x_throwS C F (E := "java/lang/IllegalArgumentException") (tx := "place or floor is none") (by decide) (by decide) w_X6_well_k79 w_X6_well_i79 (by decide) gw_X6_well_83 xb_X6_83 xo_X6_83_79 dX6_well_43 dX6_well_46 dX6_well_47 dX6_well_49 dX6_well_52 (by decide) (by decide) (by decide) (by decide) h
    · replace h := h.2 hc
      refine e_iload C (x := p4) rfl dX6_well_27 (pc' := 29) rfl ?_
      refine e_aload C (x := v1) rfl dX6_well_29 (pc' := 31) rfl ?_
      obtain ⟨hv, h⟩ := h
      refine e_calli (run_V (n := 0) C (m_X0_lastFloor hst h) gX6_well_X0_lastFloor rfl ⟨rfl, by decide, by decide, by decide +kernel⟩ ⟨by decide, by decide⟩ (ci := 0) rfl rfl hv rfl (Nat.le_of_ble_eq_true rfl) dX6_well_31 ⟨by decide, by decide⟩ (As := []) rfl) (pc' := 34) rfl (cn' := 2) (sn' := 12) rfl rfl (fun v4 ws h => ?_)
      refine e_sipush C (v := (1000 : Int32)) (by decide) dX6_well_34 (pc' := 37) rfl ?_
      refine e_calli (run_S (n := 3) C (m_X6_isWithin hst h) gX6_well_X6_isWithin rfl ⟨rfl, by decide, by decide, by decide +kernel⟩ ⟨by decide, by decide⟩ rfl (Nat.le_of_ble_eq_true rfl) dX6_well_37 ⟨by decide, by decide⟩ (As := [.int p4, .int v4, .int (1000 : Int32)]) rfl) (pc' := 40) rfl (cn' := 2) (sn' := 12) rfl rfl (fun v5 ws h => ?_)
      refine e_if_ne C (tg := 53) dX6_well_40 (by decide) (pc' := 43) rfl (fun hc => ?_) (fun hc => ?_)
      · replace h := h.1 hc
        refine e_aload C (x := v1) rfl dX6_well_53 (pc' := 55) rfl ?_
        refine f_getI C (ci := 0) (CN := RX0) (TT := TX0) (N := 8) 4 dX6_well_55 (pc' := 58) rfl in_X6_well_X0 rfl (by decide) fl_X6_well_104 h (fun v6 h => ?_)
        refine e_bipush C (v := (20 : Int32)) (by decide) dX6_well_58 (pc' := 60) rfl ?_
        refine e_icmp_lt C (tg := 73) dX6_well_60 (by decide) (pc' := 63) rfl (fun hc => ?_) (fun hc => ?_)
        · replace h := h.1 hc
          refine e_aload C (x := v1) rfl dX6_well_73 (pc' := 75) rfl ?_
          refine e_iload_n C (x := p2) rfl dX6_well_75 (pc' := 76) rfl ?_
          refine e_iload_n C (x := p3) rfl dX6_well_76 (pc' := 77) rfl ?_
          refine e_iload C (x := p4) rfl dX6_well_77 (pc' := 79) rfl ?_
          obtain ⟨hv, h⟩ := h
          refine e_callv (run_V (n := 3) C (m_X0_addWell hst h) gX6_well_X0_addWell rfl ⟨rfl, by decide, by decide, by decide +kernel⟩ ⟨by decide, by decide⟩ (ci := 0) rfl rfl hv rfl (Nat.le_of_ble_eq_true rfl) dX6_well_79 ⟨by decide, by decide⟩ (As := [.int p2, .int p3, .int p4]) rfl) (pc' := 82) rfl (cn' := 2) (sn' := 12) rfl rfl (fun ws h => ?_)
          refine e_aload C (x := v1) rfl dX6_well_82 (pc' := 84) rfl ?_
          refine f_getI C (ci := 0) (CN := RX0) (TT := TX0) (N := 8) 4 dX6_well_84 (pc' := 87) rfl in_X6_well_X0 rfl (by decide) fl_X6_well_104 h (fun v8 h => ?_)
          refine e_iconst C (v := (1 : Int32)) (by decide) dX6_well_87 (pc' := 88) rfl ?_
          refine e_isub C dX6_well_88 (pc' := 89) rfl ?_
          exact x_int C F dX6_well_89 (by decide) (by decide) h
        · replace h := h.2 hc
          exact x_throwS C F (E := "java/lang/UnsupportedOperationException") (tx := "the channel has 20 wells") (by decide) (by decide) w_X6_well_k89 w_X6_well_i89 (by decide) gw_X6_well_93 xb_X6_93 xo_X6_93_89 dX6_well_63 dX6_well_66 dX6_well_67 dX6_well_69 dX6_well_72 (by decide) (by decide) (by decide) (by decide) h
      · replace h := h.2 hc
        exact x_throwS C F (E := "java/lang/IllegalArgumentException") (tx := "place or floor is none") (by decide) (by decide) w_X6_well_k79 w_X6_well_i79 (by decide) gw_X6_well_83 xb_X6_83 xo_X6_83_79 dX6_well_43 dX6_well_46 dX6_well_47 dX6_well_49 dX6_well_52 (by decide) (by decide) (by decide) (by decide) h
abbrev rm_X6_kingSteps : Room := { frames := 1, cells := 0, slots := 0, locals := 14 }
set_option maxRecDepth 20000 in
theorem w_X6_kingSteps_ml296 : Cond.methodLink RX6 296 Lib.Math.abs.name ∈ wsX6_kingSteps := by decide +kernel
set_option maxRecDepth 20000 in
theorem w_X6_kingSteps_ms_abs : Cond.static Lib.Math.abs.name ∈ wsX6_kingSteps := by decide +kernel
set_option maxRecDepth 20000 in
theorem w_X6_kingSteps_mi : Cond.initialized "java/lang/Math" ∈ wsX6_kingSteps := by decide +kernel
set_option maxRecDepth 20000 in
theorem w_X6_kingSteps_mc_abs : Cond.code Lib.Math.abs.name Lib.Math.abs.code 1 (some .int) ∈ wsX6_kingSteps := by decide +kernel
set_option maxRecDepth 20000 in
theorem w_X6_kingSteps_ml301 : Cond.methodLink RX6 301 Lib.Math.max.name ∈ wsX6_kingSteps := by decide +kernel
set_option maxRecDepth 20000 in
theorem w_X6_kingSteps_ms_max : Cond.static Lib.Math.max.name ∈ wsX6_kingSteps := by decide +kernel
set_option maxRecDepth 20000 in
theorem w_X6_kingSteps_mc_max : Cond.code Lib.Math.max.name Lib.Math.max.code 2 (some .int) ∈ wsX6_kingSteps := by decide +kernel
def F_X6_kingSteps (G : Gx) (p0 : Int32) (p1 : Int32) (p2 : Int32) (p3 : Int32) (ws : va_W) (Q : Int32 → va_W → Prop) : Prop := Q (if (if 0 ≤ (p0 - p2) then (p0 - p2) else 0 - (p0 - p2)) < (if 0 ≤ (p1 - p3) then (p1 - p3) else 0 - (p1 - p3)) then (if 0 ≤ (p1 - p3) then (p1 - p3) else 0 - (p1 - p3)) else (if 0 ≤ (p0 - p2) then (p0 - p2) else 0 - (p0 - p2))) ws
set_option maxRecDepth 20000 in
set_option maxHeartbeats 4000000 in
theorem m_X6_kingSteps {G : Gx} (hst : (gl G).stackTraces = false) {p0 : Int32} {p1 : Int32} {p2 : Int32} {p3 : Int32} {ws : va_W} {Q : Int32 → va_W → Prop} (h : F_X6_kingSteps G p0 p1 p2 p3 ws Q) : Mt G yX6_kingSteps wsX6_kingSteps rm_X6_kingSteps [.int p0, .int p1, .int p2, .int p3] ws (QtI G Q) := by
  refine mk_Mt (cc := cX6_kingSteps) (nL := 4) (own := RX6) (ret := (some .int)) (lv0 := [some (.int p0), some (.int p1), some (.int p2), some (.int p3)]) hst (by decide) rfl rfl (Nat.le_of_ble_eq_true rfl) rfl ?_
  intro K C F
  refine e_iload_n C (x := p0) rfl dX6_kingSteps_0 (pc' := 1) rfl ?_
  refine e_iload_n C (x := p2) rfl dX6_kingSteps_1 (pc' := 2) rfl ?_
  refine e_isub C dX6_kingSteps_2 (pc' := 3) rfl ?_
  refine e_mabs C dX6_kingSteps_3 (pc' := 6) rfl w_X6_kingSteps_ml296 w_X6_kingSteps_ms_abs w_X6_kingSteps_mi w_X6_kingSteps_mc_abs (by decide) (Nat.le_of_ble_eq_true rfl) (by decide) (by decide) ?_
  refine e_iload_n C (x := p1) rfl dX6_kingSteps_6 (pc' := 7) rfl ?_
  refine e_iload_n C (x := p3) rfl dX6_kingSteps_7 (pc' := 8) rfl ?_
  refine e_isub C dX6_kingSteps_8 (pc' := 9) rfl ?_
  refine e_mabs C dX6_kingSteps_9 (pc' := 12) rfl w_X6_kingSteps_ml296 w_X6_kingSteps_ms_abs w_X6_kingSteps_mi w_X6_kingSteps_mc_abs (by decide) (Nat.le_of_ble_eq_true rfl) (by decide) (by decide) ?_
  refine e_mmax C dX6_kingSteps_12 (pc' := 15) rfl w_X6_kingSteps_ml301 w_X6_kingSteps_ms_max w_X6_kingSteps_mi w_X6_kingSteps_mc_max (by decide) (Nat.le_of_ble_eq_true rfl) (by decide) (by decide) ?_
  exact r_int C F dX6_kingSteps_15 (by decide) (by decide) h
abbrev rm_X6_isClearOf : Room := { frames := 2, cells := 0, slots := 0, locals := 37 }
set_option maxRecDepth 20000 in
theorem in_X6_isClearOf_X0 : ∀ w ∈ wsX00, w ∈ wsX6_isClearOf := by decide +kernel
set_option maxRecDepth 20000 in
theorem fl_X6_isClearOf_104 : Cond.fieldLink RX6 104 (TX0 4).1 (TX0 4).2.1 (TX0 4).2.2.1 ∈ wsX6_isClearOf := by decide +kernel
set_option maxRecDepth 20000 in
theorem fl_X6_isClearOf_330 : Cond.fieldLink RX6 330 (TX0 0).1 (TX0 0).2.1 (TX0 0).2.2.1 ∈ wsX6_isClearOf := by decide +kernel
set_option maxRecDepth 20000 in
theorem fl_X6_isClearOf_333 : Cond.fieldLink RX6 333 (TX0 1).1 (TX0 1).2.1 (TX0 1).2.2.1 ∈ wsX6_isClearOf := by decide +kernel
set_option maxRecDepth 20000 in
theorem in_X6_isClearOf_X6 : ∀ w ∈ wsX60, w ∈ wsX6_isClearOf := by decide +kernel
set_option maxRecDepth 20000 in
theorem fl_X6_isClearOf_21 : Cond.fieldLink RX6 21 (TX6 2).1 (TX6 2).2.1 (TX6 2).2.2.1 ∈ wsX6_isClearOf := by decide +kernel
set_option maxRecDepth 20000 in
theorem fl_X6_isClearOf_340 : Cond.fieldLink RX6 340 (TX0 2).1 (TX0 2).2.1 (TX0 2).2.2.1 ∈ wsX6_isClearOf := by decide +kernel
def F_X6_isClearOf (G : Gx) (p0 : Nat) (p1 : Nat) (p2 : Nat) (ws : va_W) (Q : Int32 → va_W → Prop) : Prop := ∀ (J2 : Int32 → va_W → Prop), ∀ (J13 : Int32 → Int32 → va_W → Prop), ∀ (J89 : Int32 → Int32 → va_W → Prop), (∀ (x3 : Int32) (ws : va_W), qI 0 4 p1 ws (fun v1 => ((v1 ≤ x3 → Q (1 : Int32) ws) ∧ (¬ v1 ≤ x3 → J13 x3 (0 : Int32) ws))) → J2 x3 ws) → (∀ (x3 : Int32) (x4 : Int32) (ws : va_W), qI 0 4 p2 ws (fun v2 => ((v2 ≤ x4 → J2 (x3 + (1 : Int32)) ws) ∧ (¬ v2 ≤ x4 → qR 0 0 p1 ws (fun v3 => qA (gc G 1) v3 x3 ws (fun v4 => qR 0 1 p1 ws (fun v5 => qA (gc G 1) v5 x3 ws (fun v6 => qR 0 0 p2 ws (fun v7 => qA (gc G 1) v7 x4 ws (fun v8 => qR 0 1 p2 ws (fun v9 => qA (gc G 1) v9 x4 ws (fun v10 => (F_X6_kingSteps G v4 v6 v8 v10 ws (fun v11 ws => qR 6 2 p0 ws (fun v12 => qA (gc G 1) v12 (0 : Int32) ws (fun v13 => ((v13 ≤ v11 → J89 x3 x4 ws) ∧ (¬ v13 ≤ v11 → qR 0 2 p1 ws (fun v14 => qA (gc G 1) v14 x3 ws (fun v15 => qR 0 2 p2 ws (fun v16 => qA (gc G 1) v16 x4 ws (fun v17 => qR 6 2 p0 ws (fun v18 => qA (gc G 1) v18 (1 : Int32) ws (fun v19 => ((v19 ≤ (v15 - v17) → J89 x3 x4 ws) ∧ (¬ v19 ≤ (v15 - v17) → Q (0 : Int32) ws))))))))))))))))))))))))) → J13 x3 x4 ws) → (∀ (x3 : Int32) (x4 : Int32) (ws : va_W), J13 x3 (x4 + (1 : Int32)) ws → J89 x3 x4 ws) → J2 (0 : Int32) ws
set_option maxRecDepth 20000 in
set_option maxHeartbeats 4000000 in
theorem m_X6_isClearOf {G : Gx} (hst : (gl G).stackTraces = false) {p0 : Nat} {p1 : Nat} {p2 : Nat} {ws : va_W} {Q : Int32 → va_W → Prop} (h : F_X6_isClearOf G p0 p1 p2 ws Q) : Mt G yX6_isClearOf wsX6_isClearOf rm_X6_isClearOf [.ref p0, .ref p1, .ref p2] ws (QtI G Q) := by
  refine mk_Mt (cc := cX6_isClearOf) (nL := 6) (own := RX6) (ret := (some .boolean)) (lv0 := [some (.ref p0), some (.ref p1), some (.ref p2), none, none, none]) hst (by decide) rfl rfl (Nat.le_of_ble_eq_true rfl) rfl ?_
  intro K C F
  replace h := h (fun x3 ws => Ev K G 6 0 0 2 [some (.ref p0), some (.ref p1), some (.ref p2), some (.int x3), none, none] [] ws) (fun x3 x4 ws => Ev K G 6 0 0 13 [some (.ref p0), some (.ref p1), some (.ref p2), some (.int x3), some (.int x4), none] [] ws) (fun x3 x4 ws => Ev K G 6 0 0 89 [some (.ref p0), some (.ref p1), some (.ref p2), some (.int x3), some (.int x4), none] [] ws)
  replace h := h (by
    intro x3 ws h
    show Ev K G 6 0 0 2 [some (.ref p0), some (.ref p1), some (.ref p2), some (.int x3), none, none] [] ws
    refine e_iload_n C (x := x3) rfl dX6_isClearOf_2 (pc' := 3) rfl ?_
    refine e_aload_n C (x := p1) rfl dX6_isClearOf_3 (pc' := 4) rfl ?_
    refine f_getI C (ci := 0) (CN := RX0) (TT := TX0) (N := 8) 4 dX6_isClearOf_4 (pc' := 7) rfl in_X6_isClearOf_X0 rfl (by decide) fl_X6_isClearOf_104 h (fun v1 h => ?_)
    refine e_icmp_ge C (tg := 101) dX6_isClearOf_7 (by decide) (pc' := 10) rfl (fun hc => ?_) (fun hc => ?_)
    · replace h := h.1 hc
      refine e_iconst C (v := (1 : Int32)) (by decide) dX6_isClearOf_101 (pc' := 102) rfl ?_
      exact r_bool C F dX6_isClearOf_102 (by decide) (by decide) (Or.inr rfl) h
    · replace h := h.2 hc
      refine e_iconst C (v := (0 : Int32)) (by decide) dX6_isClearOf_10 (pc' := 11) rfl ?_
      refine e_istore C (by decide) dX6_isClearOf_11 (pc' := 13) rfl (lv' := [some (.ref p0), some (.ref p1), some (.ref p2), some (.int x3), some (.int (0 : Int32)), none]) rfl ?_
      exact h)
  replace h := h (by
    intro x3 x4 ws h
    show Ev K G 6 0 0 13 [some (.ref p0), some (.ref p1), some (.ref p2), some (.int x3), some (.int x4), none] [] ws
    refine e_iload C (x := x4) rfl dX6_isClearOf_13 (pc' := 15) rfl ?_
    refine e_aload_n C (x := p2) rfl dX6_isClearOf_15 (pc' := 16) rfl ?_
    refine f_getI C (ci := 0) (CN := RX0) (TT := TX0) (N := 8) 4 dX6_isClearOf_16 (pc' := 19) rfl in_X6_isClearOf_X0 rfl (by decide) fl_X6_isClearOf_104 h (fun v2 h => ?_)
    refine e_icmp_ge C (tg := 95) dX6_isClearOf_19 (by decide) (pc' := 22) rfl (fun hc => ?_) (fun hc => ?_)
    · replace h := h.1 hc
      refine e_iinc C dX6_isClearOf_95 (x := x3) (v := (x3 + (1 : Int32))) rfl rfl (by decide) (pc' := 98) rfl (lv' := [some (.ref p0), some (.ref p1), some (.ref p2), some (.int (x3 + (1 : Int32))), some (.int x4), none]) rfl ?_
      refine e_goto C (tg := 2) dX6_isClearOf_98 (by decide) ?_
      refine e_mask [true, true, true, true, false, false] (lv' := [some (.ref p0), some (.ref p1), some (.ref p2), some (.int (x3 + (1 : Int32))), none, none]) rfl ?_
      exact h
    · replace h := h.2 hc
      refine e_aload_n C (x := p1) rfl dX6_isClearOf_22 (pc' := 23) rfl ?_
      refine f_getR C (ci := 0) (CN := RX0) (TT := TX0) (N := 8) 0 dX6_isClearOf_23 (pc' := 26) rfl in_X6_isClearOf_X0 rfl (by decide) fl_X6_isClearOf_330 h (fun v3 h => ?_)
      refine e_iload_n C (x := x3) rfl dX6_isClearOf_26 (pc' := 27) rfl ?_
      refine f_iaload C dX6_isClearOf_27 (pc' := 28) rfl h (fun v4 h => ?_)
      refine e_aload_n C (x := p1) rfl dX6_isClearOf_28 (pc' := 29) rfl ?_
      refine f_getR C (ci := 0) (CN := RX0) (TT := TX0) (N := 8) 1 dX6_isClearOf_29 (pc' := 32) rfl in_X6_isClearOf_X0 rfl (by decide) fl_X6_isClearOf_333 h (fun v5 h => ?_)
      refine e_iload_n C (x := x3) rfl dX6_isClearOf_32 (pc' := 33) rfl ?_
      refine f_iaload C dX6_isClearOf_33 (pc' := 34) rfl h (fun v6 h => ?_)
      refine e_aload_n C (x := p2) rfl dX6_isClearOf_34 (pc' := 35) rfl ?_
      refine f_getR C (ci := 0) (CN := RX0) (TT := TX0) (N := 8) 0 dX6_isClearOf_35 (pc' := 38) rfl in_X6_isClearOf_X0 rfl (by decide) fl_X6_isClearOf_330 h (fun v7 h => ?_)
      refine e_iload C (x := x4) rfl dX6_isClearOf_38 (pc' := 40) rfl ?_
      refine f_iaload C dX6_isClearOf_40 (pc' := 41) rfl h (fun v8 h => ?_)
      refine e_aload_n C (x := p2) rfl dX6_isClearOf_41 (pc' := 42) rfl ?_
      refine f_getR C (ci := 0) (CN := RX0) (TT := TX0) (N := 8) 1 dX6_isClearOf_42 (pc' := 45) rfl in_X6_isClearOf_X0 rfl (by decide) fl_X6_isClearOf_333 h (fun v9 h => ?_)
      refine e_iload C (x := x4) rfl dX6_isClearOf_45 (pc' := 47) rfl ?_
      refine f_iaload C dX6_isClearOf_47 (pc' := 48) rfl h (fun v10 h => ?_)
      refine e_calli (run_S (n := 4) C (m_X6_kingSteps hst h) gX6_isClearOf_X6_kingSteps rfl ⟨rfl, by decide, by decide, by decide +kernel⟩ ⟨by decide, by decide⟩ rfl (Nat.le_of_ble_eq_true rfl) dX6_isClearOf_48 ⟨by decide, by decide⟩ (As := [.int v4, .int v6, .int v8, .int v10]) rfl) (pc' := 51) rfl (cn' := 0) (sn' := 0) rfl rfl (fun v11 ws h => ?_)
      refine e_istore C (by decide) dX6_isClearOf_51 (pc' := 53) rfl (lv' := [some (.ref p0), some (.ref p1), some (.ref p2), some (.int x3), some (.int x4), some (.int v11)]) rfl ?_
      refine e_iload C (x := v11) rfl dX6_isClearOf_53 (pc' := 55) rfl ?_
      refine e_aload_n C (x := p0) rfl dX6_isClearOf_55 (pc' := 56) rfl ?_
      refine f_getR C (ci := 6) (CN := RX6) (TT := TX6) (N := 16) 2 dX6_isClearOf_56 (pc' := 59) rfl in_X6_isClearOf_X6 rfl (by decide) fl_X6_isClearOf_21 h (fun v12 h => ?_)
      refine e_iconst C (v := (0 : Int32)) (by decide) dX6_isClearOf_59 (pc' := 60) rfl ?_
      refine f_iaload C dX6_isClearOf_60 (pc' := 61) rfl h (fun v13 h => ?_)
      refine e_icmp_ge C (tg := 89) dX6_isClearOf_61 (by decide) (pc' := 64) rfl (fun hc => ?_) (fun hc => ?_)
      · replace h := h.1 hc
        refine e_mask [true, true, true, true, true, false] (lv' := [some (.ref p0), some (.ref p1), some (.ref p2), some (.int x3), some (.int x4), none]) rfl ?_
        exact h
      · replace h := h.2 hc
        refine e_aload_n C (x := p1) rfl dX6_isClearOf_64 (pc' := 65) rfl ?_
        refine f_getR C (ci := 0) (CN := RX0) (TT := TX0) (N := 8) 2 dX6_isClearOf_65 (pc' := 68) rfl in_X6_isClearOf_X0 rfl (by decide) fl_X6_isClearOf_340 h (fun v14 h => ?_)
        refine e_iload_n C (x := x3) rfl dX6_isClearOf_68 (pc' := 69) rfl ?_
        refine f_iaload C dX6_isClearOf_69 (pc' := 70) rfl h (fun v15 h => ?_)
        refine e_aload_n C (x := p2) rfl dX6_isClearOf_70 (pc' := 71) rfl ?_
        refine f_getR C (ci := 0) (CN := RX0) (TT := TX0) (N := 8) 2 dX6_isClearOf_71 (pc' := 74) rfl in_X6_isClearOf_X0 rfl (by decide) fl_X6_isClearOf_340 h (fun v16 h => ?_)
        refine e_iload C (x := x4) rfl dX6_isClearOf_74 (pc' := 76) rfl ?_
        refine f_iaload C dX6_isClearOf_76 (pc' := 77) rfl h (fun v17 h => ?_)
        refine e_isub C dX6_isClearOf_77 (pc' := 78) rfl ?_
        refine e_aload_n C (x := p0) rfl dX6_isClearOf_78 (pc' := 79) rfl ?_
        refine f_getR C (ci := 6) (CN := RX6) (TT := TX6) (N := 16) 2 dX6_isClearOf_79 (pc' := 82) rfl in_X6_isClearOf_X6 rfl (by decide) fl_X6_isClearOf_21 h (fun v18 h => ?_)
        refine e_iconst C (v := (1 : Int32)) (by decide) dX6_isClearOf_82 (pc' := 83) rfl ?_
        refine f_iaload C dX6_isClearOf_83 (pc' := 84) rfl h (fun v19 h => ?_)
        refine e_icmp_ge C (tg := 89) dX6_isClearOf_84 (by decide) (pc' := 87) rfl (fun hc => ?_) (fun hc => ?_)
        · replace h := h.1 hc
          refine e_mask [true, true, true, true, true, false] (lv' := [some (.ref p0), some (.ref p1), some (.ref p2), some (.int x3), some (.int x4), none]) rfl ?_
          exact h
        · replace h := h.2 hc
          refine e_iconst C (v := (0 : Int32)) (by decide) dX6_isClearOf_87 (pc' := 88) rfl ?_
          exact r_bool C F dX6_isClearOf_88 (by decide) (by decide) (Or.inl rfl) h)
  replace h := h (by
    intro x3 x4 ws h
    show Ev K G 6 0 0 89 [some (.ref p0), some (.ref p1), some (.ref p2), some (.int x3), some (.int x4), none] [] ws
    refine e_iinc C dX6_isClearOf_89 (x := x4) (v := (x4 + (1 : Int32))) rfl rfl (by decide) (pc' := 92) rfl (lv' := [some (.ref p0), some (.ref p1), some (.ref p2), some (.int x3), some (.int (x4 + (1 : Int32))), none]) rfl ?_
    refine e_goto C (tg := 13) dX6_isClearOf_92 (by decide) ?_
    exact h)
  refine e_iconst C (v := (0 : Int32)) (by decide) dX6_isClearOf_0 (pc' := 1) rfl ?_
  refine e_istore_n C (by decide) dX6_isClearOf_1 (pc' := 2) rfl (lv' := [some (.ref p0), some (.ref p1), some (.ref p2), some (.int (0 : Int32)), none, none]) rfl ?_
  exact h
abbrev rm_X6_isAllowed : Room := { frames := 3, cells := 0, slots := 0, locals := 62 }
set_option maxRecDepth 20000 in
theorem in_X6_isAllowed_X0 : ∀ w ∈ wsX00, w ∈ wsX6_isAllowed := by decide +kernel
set_option maxRecDepth 20000 in
theorem fl_X6_isAllowed_104 : Cond.fieldLink RX6 104 (TX0 4).1 (TX0 4).2.1 (TX0 4).2.2.1 ∈ wsX6_isAllowed := by decide +kernel
set_option maxRecDepth 20000 in
theorem in_X6_isAllowed_X6 : ∀ w ∈ wsX60, w ∈ wsX6_isAllowed := by decide +kernel
set_option maxRecDepth 20000 in
theorem fl_X6_isAllowed_86 : Cond.fieldLink RX6 86 (TX6 5).1 (TX6 5).2.1 (TX6 5).2.2.1 ∈ wsX6_isAllowed := by decide +kernel
set_option maxRecDepth 20000 in
theorem fl_X6_isAllowed_31 : Cond.fieldLink RX6 31 (TX6 4).1 (TX6 4).2.1 (TX6 4).2.2.1 ∈ wsX6_isAllowed := by decide +kernel
def F_X6_isAllowed (G : Gx) (p0 : Nat) (p1 : Nat) (ws : va_W) (Q : Int32 → va_W → Prop) : Prop := ∀ (J12 : Int32 → va_W → Prop), ∀ (J45 : Int32 → va_W → Prop), (∀ (x2 : Int32) (ws : va_W), qI 6 5 p0 ws (fun v2 => ((v2 ≤ x2 → Q (1 : Int32) ws) ∧ (¬ v2 ≤ x2 → qR 6 4 p0 ws (fun v3 => qQ (gc G 3) v3 x2 ws (fun v4 => (qV 0 v4 ws ∧ F_X0_isDug G v4 ws (fun v5 ws => ((v5 = 0 → J45 x2 ws) ∧ (¬ v5 = 0 → (qV 6 p0 ws ∧ F_X6_isClearOf G p0 p1 v4 ws (fun v6 ws => ((¬ v6 = 0 → J45 x2 ws) ∧ (v6 = 0 → Q (0 : Int32) ws))))))))))))) → J12 x2 ws) → (∀ (x2 : Int32) (ws : va_W), J12 (x2 + (1 : Int32)) ws → J45 x2 ws) → qI 0 4 p1 ws (fun v1 => (((2 : Int32) ≤ v1 → J12 (0 : Int32) ws) ∧ (¬ (2 : Int32) ≤ v1 → Q (0 : Int32) ws)))
set_option maxRecDepth 20000 in
set_option maxHeartbeats 4000000 in
theorem m_X6_isAllowed {G : Gx} (hst : (gl G).stackTraces = false) {p0 : Nat} {p1 : Nat} {ws : va_W} {Q : Int32 → va_W → Prop} (h : F_X6_isAllowed G p0 p1 ws Q) : Mt G yX6_isAllowed wsX6_isAllowed rm_X6_isAllowed [.ref p0, .ref p1] ws (QtI G Q) := by
  refine mk_Mt (cc := cX6_isAllowed) (nL := 4) (own := RX6) (ret := (some .boolean)) (lv0 := [some (.ref p0), some (.ref p1), none, none]) hst (by decide) rfl rfl (Nat.le_of_ble_eq_true rfl) rfl ?_
  intro K C F
  replace h := h (fun x2 ws => Ev K G 4 0 0 12 [some (.ref p0), some (.ref p1), some (.int x2), none] [] ws) (fun x2 ws => Ev K G 4 0 0 45 [some (.ref p0), some (.ref p1), some (.int x2), none] [] ws)
  replace h := h (by
    intro x2 ws h
    show Ev K G 4 0 0 12 [some (.ref p0), some (.ref p1), some (.int x2), none] [] ws
    refine e_iload_n C (x := x2) rfl dX6_isAllowed_12 (pc' := 13) rfl ?_
    refine e_aload_n C (x := p0) rfl dX6_isAllowed_13 (pc' := 14) rfl ?_
    refine f_getI C (ci := 6) (CN := RX6) (TT := TX6) (N := 16) 5 dX6_isAllowed_14 (pc' := 17) rfl in_X6_isAllowed_X6 rfl (by decide) fl_X6_isAllowed_86 h (fun v2 h => ?_)
    refine e_icmp_ge C (tg := 51) dX6_isAllowed_17 (by decide) (pc' := 20) rfl (fun hc => ?_) (fun hc => ?_)
    · replace h := h.1 hc
      refine e_iconst C (v := (1 : Int32)) (by decide) dX6_isAllowed_51 (pc' := 52) rfl ?_
      exact r_bool C F dX6_isAllowed_52 (by decide) (by decide) (Or.inr rfl) h
    · replace h := h.2 hc
      refine e_aload_n C (x := p0) rfl dX6_isAllowed_20 (pc' := 21) rfl ?_
      refine f_getR C (ci := 6) (CN := RX6) (TT := TX6) (N := 16) 4 dX6_isAllowed_21 (pc' := 24) rfl in_X6_isAllowed_X6 rfl (by decide) fl_X6_isAllowed_31 h (fun v3 h => ?_)
      refine e_iload_n C (x := x2) rfl dX6_isAllowed_24 (pc' := 25) rfl ?_
      refine f_aaloadC C dX6_isAllowed_25 (pc' := 26) rfl h (fun v4 h => ?_)
      refine e_astore_n C (by decide) dX6_isAllowed_26 (pc' := 27) rfl (lv' := [some (.ref p0), some (.ref p1), some (.int x2), some (.ref v4)]) rfl ?_
      refine e_aload_n C (x := v4) rfl dX6_isAllowed_27 (pc' := 28) rfl ?_
      obtain ⟨hv, h⟩ := h
      refine e_calli (run_V (n := 0) C (m_X0_isDug hst h) gX6_isAllowed_X0_isDug rfl ⟨rfl, by decide, by decide, by decide +kernel⟩ ⟨by decide, by decide⟩ (ci := 0) rfl rfl hv rfl (Nat.le_of_ble_eq_true rfl) dX6_isAllowed_28 ⟨by decide, by decide⟩ (As := []) rfl) (pc' := 31) rfl (cn' := 0) (sn' := 0) rfl rfl (fun v5 ws h => ?_)
      refine e_if_eq C (tg := 45) dX6_isAllowed_31 (by decide) (pc' := 34) rfl (fun hc => ?_) (fun hc => ?_)
      · replace h := h.1 hc
        refine e_mask [true, true, true, false] (lv' := [some (.ref p0), some (.ref p1), some (.int x2), none]) rfl ?_
        exact h
      · replace h := h.2 hc
        refine e_aload_n C (x := p0) rfl dX6_isAllowed_34 (pc' := 35) rfl ?_
        refine e_aload_n C (x := p1) rfl dX6_isAllowed_35 (pc' := 36) rfl ?_
        refine e_aload_n C (x := v4) rfl dX6_isAllowed_36 (pc' := 37) rfl ?_
        obtain ⟨hv, h⟩ := h
        refine e_calli (run_V (n := 2) C (m_X6_isClearOf hst h) gX6_isAllowed_X6_isClearOf rfl ⟨rfl, by decide, by decide, by decide +kernel⟩ ⟨by decide, by decide⟩ (ci := 6) rfl rfl hv rfl (Nat.le_of_ble_eq_true rfl) dX6_isAllowed_37 ⟨by decide, by decide⟩ (As := [.ref p1, .ref v4]) rfl) (pc' := 40) rfl (cn' := 0) (sn' := 0) rfl rfl (fun v6 ws h => ?_)
        refine e_if_ne C (tg := 45) dX6_isAllowed_40 (by decide) (pc' := 43) rfl (fun hc => ?_) (fun hc => ?_)
        · replace h := h.1 hc
          refine e_mask [true, true, true, false] (lv' := [some (.ref p0), some (.ref p1), some (.int x2), none]) rfl ?_
          exact h
        · replace h := h.2 hc
          refine e_iconst C (v := (0 : Int32)) (by decide) dX6_isAllowed_43 (pc' := 44) rfl ?_
          exact r_bool C F dX6_isAllowed_44 (by decide) (by decide) (Or.inl rfl) h)
  replace h := h (by
    intro x2 ws h
    show Ev K G 4 0 0 45 [some (.ref p0), some (.ref p1), some (.int x2), none] [] ws
    refine e_iinc C dX6_isAllowed_45 (x := x2) (v := (x2 + (1 : Int32))) rfl rfl (by decide) (pc' := 48) rfl (lv' := [some (.ref p0), some (.ref p1), some (.int (x2 + (1 : Int32))), none]) rfl ?_
    refine e_goto C (tg := 12) dX6_isAllowed_48 (by decide) ?_
    exact h)
  refine e_aload_n C (x := p1) rfl dX6_isAllowed_0 (pc' := 1) rfl ?_
  refine f_getI C (ci := 0) (CN := RX0) (TT := TX0) (N := 8) 4 dX6_isAllowed_1 (pc' := 4) rfl in_X6_isAllowed_X0 rfl (by decide) fl_X6_isAllowed_104 h (fun v1 h => ?_)
  refine e_iconst C (v := (2 : Int32)) (by decide) dX6_isAllowed_4 (pc' := 5) rfl ?_
  refine e_icmp_ge C (tg := 10) dX6_isAllowed_5 (by decide) (pc' := 8) rfl (fun hc => ?_) (fun hc => ?_)
  · replace h := h.1 hc
    refine e_iconst C (v := (0 : Int32)) (by decide) dX6_isAllowed_10 (pc' := 11) rfl ?_
    refine e_istore_n C (by decide) dX6_isAllowed_11 (pc' := 12) rfl (lv' := [some (.ref p0), some (.ref p1), some (.int (0 : Int32)), none]) rfl ?_
    exact h
  · replace h := h.2 hc
    refine e_iconst C (v := (0 : Int32)) (by decide) dX6_isAllowed_8 (pc' := 9) rfl ?_
    exact r_bool C F dX6_isAllowed_9 (by decide) (by decide) (Or.inl rfl) h
abbrev rm_X6_may : Room := { frames := 8, cells := 2, slots := 12, locals := 125 }
def F_X6_may (G : Gx) (p0 : Nat) (p1 : Int32) (ws : va_W) (Q : Int32 → va_W → Prop) (X : String → va_W → Prop) : Prop := (qV 6 p0 ws ∧ F_X6_undugAt G p0 p1 ws (fun v1 ws => (qV 6 p0 ws ∧ F_X6_isAllowed G p0 v1 ws (fun v2 ws => ((v2 = 0 ∨ v2 = 1) ∧ Q v2 ws)))) X)
set_option maxRecDepth 20000 in
set_option maxHeartbeats 4000000 in
theorem m_X6_may {G : Gx} (hst : (gl G).stackTraces = false) {p0 : Nat} {p1 : Int32} {ws : va_W} {Q : Int32 → va_W → Prop} {X : String → va_W → Prop} (h : F_X6_may G p0 p1 ws Q X) : Xt G yX6_may wsX6_may rm_X6_may [.ref p0, .int p1] ws (QtI G Q) X := by
  refine mk_Xt (cc := cX6_may) (nL := 2) (own := RX6) (ret := (some .boolean)) (lv0 := [some (.ref p0), some (.int p1)]) hst (by decide) rfl rfl (Nat.le_of_ble_eq_true rfl) rfl ?_
  intro K C F
  refine e_aload_n C (x := p0) rfl dX6_may_0 (pc' := 1) rfl ?_
  refine e_aload_n C (x := p0) rfl dX6_may_1 (pc' := 2) rfl ?_
  refine e_iload_n C (x := p1) rfl dX6_may_2 (pc' := 3) rfl ?_
  obtain ⟨hv, h⟩ := h
  refine e_xcallr (run_XV (n := 1) C (m_X6_undugAt hst h) gX6_may_X6_undugAt rfl ⟨rfl, by decide, by decide, by decide +kernel⟩ ⟨by decide, by decide⟩ (ci := 6) rfl rfl hv rfl (Nat.le_of_ble_eq_true rfl) dX6_may_3 ⟨by decide, by decide⟩ (As := [.int p1]) rfl) (pc' := 6) rfl (cn' := 2) (sn' := 12) rfl rfl (fun E u hx => x_out C F (by decide) (by decide) hx) (fun v1 ws h => ?_)
  obtain ⟨hv, h⟩ := h
  refine e_calli (run_V (n := 1) C (m_X6_isAllowed hst h) gX6_may_X6_isAllowed rfl ⟨rfl, by decide, by decide, by decide +kernel⟩ ⟨by decide, by decide⟩ (ci := 6) rfl rfl hv rfl (Nat.le_of_ble_eq_true rfl) dX6_may_6 ⟨by decide, by decide⟩ (As := [.ref v1]) rfl) (pc' := 9) rfl (cn' := 2) (sn' := 12) rfl rfl (fun v2 ws h => ?_)
  exact x_bool C F dX6_may_9 (by decide) (by decide) h.1 h.2
abbrev rm_X6_isOwner : Room := { frames := 1, cells := 0, slots := 0, locals := 22 }
def F_X6_isOwner (G : Gx) (p0 : Int32) (ws : va_W) (Q : Int32 → va_W → Prop) : Prop := (F_X6_isWithin G p0 (0 : Int32) (30 : Int32) ws (fun v1 ws => ((v1 = 0 ∨ v1 = 1) ∧ Q v1 ws)))
set_option maxRecDepth 20000 in
set_option maxHeartbeats 4000000 in
theorem m_X6_isOwner {G : Gx} (hst : (gl G).stackTraces = false) {p0 : Int32} {ws : va_W} {Q : Int32 → va_W → Prop} (h : F_X6_isOwner G p0 ws Q) : Mt G yX6_isOwner wsX6_isOwner rm_X6_isOwner [.int p0] ws (QtI G Q) := by
  refine mk_Mt (cc := cX6_isOwner) (nL := 1) (own := RX6) (ret := (some .boolean)) (lv0 := [some (.int p0)]) hst (by decide) rfl rfl (Nat.le_of_ble_eq_true rfl) rfl ?_
  intro K C F
  refine e_iload_n C (x := p0) rfl dX6_isOwner_0 (pc' := 1) rfl ?_
  refine e_iconst C (v := (0 : Int32)) (by decide) dX6_isOwner_1 (pc' := 2) rfl ?_
  refine e_bipush C (v := (30 : Int32)) (by decide) dX6_isOwner_2 (pc' := 4) rfl ?_
  refine e_calli (run_S (n := 3) C (m_X6_isWithin hst h) gX6_isOwner_X6_isWithin rfl ⟨rfl, by decide, by decide, by decide +kernel⟩ ⟨by decide, by decide⟩ rfl (Nat.le_of_ble_eq_true rfl) dX6_isOwner_4 ⟨by decide, by decide⟩ (As := [.int p0, .int (0 : Int32), .int (30 : Int32)]) rfl) (pc' := 7) rfl (cn' := 0) (sn' := 0) rfl rfl (fun v1 ws h => ?_)
  exact r_bool C F dX6_isOwner_7 (by decide) (by decide) h.1 h.2
abbrev rm_X4_become : Room := { frames := 0, cells := 0, slots := 0, locals := 0 }
set_option maxRecDepth 20000 in
theorem in_X4_become_X4 : ∀ w ∈ wsX40, w ∈ wsX4_become := by decide +kernel
set_option maxRecDepth 20000 in
theorem fl_X4_become_9 : Cond.fieldLink RX4 9 (TX4 0).1 (TX4 0).2.1 (TX4 0).2.2.1 ∈ wsX4_become := by decide +kernel
set_option maxRecDepth 20000 in
theorem fl_X4_become_15 : Cond.fieldLink RX4 15 (TX4 1).1 (TX4 1).2.1 (TX4 1).2.2.1 ∈ wsX4_become := by decide +kernel
set_option maxRecDepth 20000 in
theorem fl_X4_become_18 : Cond.fieldLink RX4 18 (TX4 2).1 (TX4 2).2.1 (TX4 2).2.2.1 ∈ wsX4_become := by decide +kernel
set_option maxRecDepth 20000 in
theorem fl_X4_become_21 : Cond.fieldLink RX4 21 (TX4 3).1 (TX4 3).2.1 (TX4 3).2.2.1 ∈ wsX4_become := by decide +kernel
set_option maxRecDepth 20000 in
theorem fl_X4_become_24 : Cond.fieldLink RX4 24 (TX4 4).1 (TX4 4).2.1 (TX4 4).2.2.1 ∈ wsX4_become := by decide +kernel
set_option maxRecDepth 20000 in
theorem fl_X4_become_27 : Cond.fieldLink RX4 27 (TX4 5).1 (TX4 5).2.1 (TX4 5).2.2.1 ∈ wsX4_become := by decide +kernel
set_option maxRecDepth 20000 in
theorem fl_X4_become_30 : Cond.fieldLink RX4 30 (TX4 6).1 (TX4 6).2.1 (TX4 6).2.2.1 ∈ wsX4_become := by decide +kernel
def F_X4_become (G : Gx) (p0 : Nat) (p1 : Int32) (p2 : Int32) (p3 : Int32) (p4 : Int32) (ws : va_W) (Q : va_W → Prop) : Prop := qP 4 0 p0 (.int p1) ws (fun ws => qP 4 1 p0 (.int p2) ws (fun ws => qP 4 2 p0 (.int p3) ws (fun ws => qP 4 3 p0 (.int p4) ws (fun ws => qP 4 4 p0 (.int (-1 : Int32)) ws (fun ws => qP 4 5 p0 (.int (0 : Int32)) ws (fun ws => qP 4 6 p0 (.int (0 : Int32)) ws (fun ws => Q ws)))))))
set_option maxRecDepth 20000 in
set_option maxHeartbeats 4000000 in
theorem m_X4_become {G : Gx} (hst : (gl G).stackTraces = false) {p0 : Nat} {p1 : Int32} {p2 : Int32} {p3 : Int32} {p4 : Int32} {ws : va_W} {Q : va_W → Prop} (h : F_X4_become G p0 p1 p2 p3 p4 ws Q) : Mt G yX4_become wsX4_become rm_X4_become [.ref p0, .int p1, .int p2, .int p3, .int p4] ws (QtV G Q) := by
  refine mk_Mt (cc := cX4_become) (nL := 5) (own := RX4) (ret := none) (lv0 := [some (.ref p0), some (.int p1), some (.int p2), some (.int p3), some (.int p4)]) hst (by decide) rfl rfl (Nat.le_of_ble_eq_true rfl) rfl ?_
  intro K C F
  refine e_aload_n C (x := p0) rfl dX4_become_0 (pc' := 1) rfl ?_
  refine e_iload_n C (x := p1) rfl dX4_become_1 (pc' := 2) rfl ?_
  refine f_putI C (ci := 4) (CN := RX4) (TT := TX4) (N := 7) 0 tyX4 dX4_become_2 (pc' := 5) rfl in_X4_become_X4 tyX4_ok nmX4 rfl (by decide) fl_X4_become_9 rfl (by decide +kernel) h (fun ws h => ?_)
  refine e_aload_n C (x := p0) rfl dX4_become_5 (pc' := 6) rfl ?_
  refine e_iload_n C (x := p2) rfl dX4_become_6 (pc' := 7) rfl ?_
  refine f_putI C (ci := 4) (CN := RX4) (TT := TX4) (N := 7) 1 tyX4 dX4_become_7 (pc' := 10) rfl in_X4_become_X4 tyX4_ok nmX4 rfl (by decide) fl_X4_become_15 rfl (by decide +kernel) h (fun ws h => ?_)
  refine e_aload_n C (x := p0) rfl dX4_become_10 (pc' := 11) rfl ?_
  refine e_iload_n C (x := p3) rfl dX4_become_11 (pc' := 12) rfl ?_
  refine f_putI C (ci := 4) (CN := RX4) (TT := TX4) (N := 7) 2 tyX4 dX4_become_12 (pc' := 15) rfl in_X4_become_X4 tyX4_ok nmX4 rfl (by decide) fl_X4_become_18 rfl (by decide +kernel) h (fun ws h => ?_)
  refine e_aload_n C (x := p0) rfl dX4_become_15 (pc' := 16) rfl ?_
  refine e_iload C (x := p4) rfl dX4_become_16 (pc' := 18) rfl ?_
  refine f_putI C (ci := 4) (CN := RX4) (TT := TX4) (N := 7) 3 tyX4 dX4_become_18 (pc' := 21) rfl in_X4_become_X4 tyX4_ok nmX4 rfl (by decide) fl_X4_become_21 rfl (by decide +kernel) h (fun ws h => ?_)
  refine e_aload_n C (x := p0) rfl dX4_become_21 (pc' := 22) rfl ?_
  refine e_iconst C (v := (-1 : Int32)) (by decide) dX4_become_22 (pc' := 23) rfl ?_
  refine f_putI C (ci := 4) (CN := RX4) (TT := TX4) (N := 7) 4 tyX4 dX4_become_23 (pc' := 26) rfl in_X4_become_X4 tyX4_ok nmX4 rfl (by decide) fl_X4_become_24 rfl (by decide +kernel) h (fun ws h => ?_)
  refine e_aload_n C (x := p0) rfl dX4_become_26 (pc' := 27) rfl ?_
  refine e_iconst C (v := (0 : Int32)) (by decide) dX4_become_27 (pc' := 28) rfl ?_
  refine f_putI C (ci := 4) (CN := RX4) (TT := TX4) (N := 7) 5 tyX4 dX4_become_28 (pc' := 31) rfl in_X4_become_X4 tyX4_ok nmX4 rfl (by decide) fl_X4_become_27 rfl (by decide +kernel) h (fun ws h => ?_)
  refine e_aload_n C (x := p0) rfl dX4_become_31 (pc' := 32) rfl ?_
  refine e_iconst C (v := (0 : Int32)) (by decide) dX4_become_32 (pc' := 33) rfl ?_
  refine f_putI C (ci := 4) (CN := RX4) (TT := TX4) (N := 7) 6 tyX4 dX4_become_33 (pc' := 36) rfl in_X4_become_X4 tyX4_ok nmX4 rfl (by decide) fl_X4_become_30 rfl (by decide +kernel) h (fun ws h => ?_)
  exact r_void C F dX4_become_36 (by decide) (by decide) h
abbrev rm_X6_addShare : Room := { frames := 1, cells := 0, slots := 0, locals := 24 }
set_option maxRecDepth 20000 in
theorem in_X6_addShare_X6 : ∀ w ∈ wsX60, w ∈ wsX6_addShare := by decide +kernel
set_option maxRecDepth 20000 in
theorem fl_X6_addShare_123 : Cond.fieldLink RX6 123 (TX6 11).1 (TX6 11).2.1 (TX6 11).2.2.1 ∈ wsX6_addShare := by decide +kernel
set_option maxRecDepth 20000 in
theorem fl_X6_addShare_44 : Cond.fieldLink RX6 44 (TX6 10).1 (TX6 10).2.1 (TX6 10).2.2.1 ∈ wsX6_addShare := by decide +kernel
def F_X6_addShare (G : Gx) (p0 : Nat) (p1 : Int32) (p2 : Int32) (p3 : Int32) (p4 : Int32) (ws : va_W) (Q : va_W → Prop) : Prop := qI 6 11 p0 ws (fun v1 => (((60 : Int32) ≤ v1 → Q ws) ∧ (¬ (60 : Int32) ≤ v1 → qR 6 10 p0 ws (fun v2 => qI 6 11 p0 ws (fun v3 => qQ (gc G 4) v2 v3 ws (fun v4 => (qV 4 v4 ws ∧ F_X4_become G v4 p1 p2 p3 p4 ws (fun ws => qI 6 11 p0 ws (fun v6 => qP 6 11 p0 (.int (v6 + (1 : Int32))) ws (fun ws => Q ws))))))))))
set_option maxRecDepth 20000 in
set_option maxHeartbeats 4000000 in
theorem m_X6_addShare {G : Gx} (hst : (gl G).stackTraces = false) {p0 : Nat} {p1 : Int32} {p2 : Int32} {p3 : Int32} {p4 : Int32} {ws : va_W} {Q : va_W → Prop} (h : F_X6_addShare G p0 p1 p2 p3 p4 ws Q) : Mt G yX6_addShare wsX6_addShare rm_X6_addShare [.ref p0, .int p1, .int p2, .int p3, .int p4] ws (QtV G Q) := by
  refine mk_Mt (cc := cX6_addShare) (nL := 5) (own := RX6) (ret := none) (lv0 := [some (.ref p0), some (.int p1), some (.int p2), some (.int p3), some (.int p4)]) hst (by decide) rfl rfl (Nat.le_of_ble_eq_true rfl) rfl ?_
  intro K C F
  refine e_aload_n C (x := p0) rfl dX6_addShare_0 (pc' := 1) rfl ?_
  refine f_getI C (ci := 6) (CN := RX6) (TT := TX6) (N := 16) 11 dX6_addShare_1 (pc' := 4) rfl in_X6_addShare_X6 rfl (by decide) fl_X6_addShare_123 h (fun v1 h => ?_)
  refine e_bipush C (v := (60 : Int32)) (by decide) dX6_addShare_4 (pc' := 6) rfl ?_
  refine e_icmp_ge C (tg := 36) dX6_addShare_6 (by decide) (pc' := 9) rfl (fun hc => ?_) (fun hc => ?_)
  · replace h := h.1 hc
    exact r_void C F dX6_addShare_36 (by decide) (by decide) h
  · replace h := h.2 hc
    refine e_aload_n C (x := p0) rfl dX6_addShare_9 (pc' := 10) rfl ?_
    refine f_getR C (ci := 6) (CN := RX6) (TT := TX6) (N := 16) 10 dX6_addShare_10 (pc' := 13) rfl in_X6_addShare_X6 rfl (by decide) fl_X6_addShare_44 h (fun v2 h => ?_)
    refine e_aload_n C (x := p0) rfl dX6_addShare_13 (pc' := 14) rfl ?_
    refine f_getI C (ci := 6) (CN := RX6) (TT := TX6) (N := 16) 11 dX6_addShare_14 (pc' := 17) rfl in_X6_addShare_X6 rfl (by decide) fl_X6_addShare_123 h (fun v3 h => ?_)
    refine f_aaloadS C dX6_addShare_17 (pc' := 18) rfl h (fun v4 h => ?_)
    refine e_iload_n C (x := p1) rfl dX6_addShare_18 (pc' := 19) rfl ?_
    refine e_iload_n C (x := p2) rfl dX6_addShare_19 (pc' := 20) rfl ?_
    refine e_iload_n C (x := p3) rfl dX6_addShare_20 (pc' := 21) rfl ?_
    refine e_iload C (x := p4) rfl dX6_addShare_21 (pc' := 23) rfl ?_
    obtain ⟨hv, h⟩ := h
    refine e_callv (run_V (n := 4) C (m_X4_become hst h) gX6_addShare_X4_become rfl ⟨rfl, by decide, by decide, by decide +kernel⟩ ⟨by decide, by decide⟩ (ci := 4) rfl rfl hv rfl (Nat.le_of_ble_eq_true rfl) dX6_addShare_23 ⟨by decide, by decide⟩ (As := [.int p1, .int p2, .int p3, .int p4]) rfl) (pc' := 26) rfl (cn' := 0) (sn' := 0) rfl rfl (fun ws h => ?_)
    refine e_aload_n C (x := p0) rfl dX6_addShare_26 (pc' := 27) rfl ?_
    refine e_dup C rfl dX6_addShare_27 (pc' := 28) rfl ?_
    refine f_getI C (ci := 6) (CN := RX6) (TT := TX6) (N := 16) 11 dX6_addShare_28 (pc' := 31) rfl in_X6_addShare_X6 rfl (by decide) fl_X6_addShare_123 h (fun v6 h => ?_)
    refine e_iconst C (v := (1 : Int32)) (by decide) dX6_addShare_31 (pc' := 32) rfl ?_
    refine e_iadd C dX6_addShare_32 (pc' := 33) rfl ?_
    refine f_putI C (ci := 6) (CN := RX6) (TT := TX6) (N := 16) 11 tyX6 dX6_addShare_33 (pc' := 36) rfl in_X6_addShare_X6 tyX6_ok nmX6 rfl (by decide) fl_X6_addShare_123 rfl (by decide +kernel) h (fun ws h => ?_)
    exact r_void C F dX6_addShare_36 (by decide) (by decide) h
abbrev rm_X6_dig : Room := { frames := 8, cells := 3, slots := 18, locals := 125 }
set_option maxRecDepth 20000 in
theorem w_X6_dig_k79 : Cond.classLink RX6 79 "java/lang/IllegalArgumentException" ∈ wsX6_dig := by decide +kernel
set_option maxRecDepth 20000 in
theorem w_X6_dig_i79 : Cond.initialized "java/lang/IllegalArgumentException" ∈ wsX6_dig := by decide +kernel
set_option maxRecDepth 20000 in
theorem gw_X6_dig_83 : ∀ w ∈ (vx_atS RX6 83 "java/lang/IllegalArgumentException" xnms).filter goodWord, w ∈ wsX6_dig := by decide +kernel
set_option maxRecDepth 20000 in
theorem in_X6_dig_X6 : ∀ w ∈ wsX60, w ∈ wsX6_dig := by decide +kernel
set_option maxRecDepth 20000 in
theorem fl_X6_dig_123 : Cond.fieldLink RX6 123 (TX6 11).1 (TX6 11).2.1 (TX6 11).2.2.1 ∈ wsX6_dig := by decide +kernel
set_option maxRecDepth 20000 in
theorem in_X6_dig_X0 : ∀ w ∈ wsX00, w ∈ wsX6_dig := by decide +kernel
set_option maxRecDepth 20000 in
theorem fl_X6_dig_126 : Cond.fieldLink RX6 126 (TX0 5).1 (TX0 5).2.1 (TX0 5).2.2.1 ∈ wsX6_dig := by decide +kernel
set_option maxRecDepth 20000 in
theorem fl_X6_dig_129 : Cond.fieldLink RX6 129 (TX6 9).1 (TX6 9).2.1 (TX6 9).2.2.1 ∈ wsX6_dig := by decide +kernel
set_option maxRecDepth 20000 in
theorem fl_X6_dig_132 : Cond.fieldLink RX6 132 (TX0 6).1 (TX0 6).2.1 (TX0 6).2.2.1 ∈ wsX6_dig := by decide +kernel
set_option maxRecDepth 20000 in
theorem fl_X6_dig_135 : Cond.fieldLink RX6 135 (TX6 6).1 (TX6 6).2.1 (TX6 6).2.2.1 ∈ wsX6_dig := by decide +kernel
set_option maxRecDepth 20000 in
theorem fl_X6_dig_138 : Cond.fieldLink RX6 138 (TX0 7).1 (TX0 7).2.1 (TX0 7).2.2.1 ∈ wsX6_dig := by decide +kernel
def F_X6_dig (G : Gx) (p0 : Nat) (p1 : Int32) (p2 : Int32) (p3 : Int32) (ws : va_W) (Q : Int32 → va_W → Prop) (X : String → va_W → Prop) : Prop := (qV 6 p0 ws ∧ F_X6_undugAt G p0 p1 ws (fun v1 ws => (F_X6_isOwner G p2 ws (fun v2 ws => ((v2 = 0 → X "java/lang/IllegalArgumentException" ws) ∧ (¬ v2 = 0 → (F_X6_isWithin G p3 (1 : Int32) (15 : Int32) ws (fun v3 ws => ((¬ v3 = 0 → qI 6 11 p0 ws (fun v4 => (((60 : Int32) ≤ v4 → Q (-1 : Int32) ws) ∧ (¬ (60 : Int32) ≤ v4 → (qV 6 p0 ws ∧ F_X6_isAllowed G p0 v1 ws (fun v5 ws => ((¬ v5 = 0 → qP 0 5 v1 (.int (p3 * (1440 : Int32))) ws (fun ws => qI 6 9 p0 ws (fun v6 => qP 0 6 v1 (.int v6) ws (fun ws => qI 6 6 p0 ws (fun v7 => qP 0 7 v1 (.int v7) ws (fun ws => qI 6 6 p0 ws (fun v8 => qP 6 6 p0 (.int (v8 + (1 : Int32))) ws (fun ws => qI 0 5 v1 ws (fun v9 => (qV 6 p0 ws ∧ F_X6_addShare G p0 p1 (0 : Int32) v9 p2 ws (fun ws => qI 6 11 p0 ws (fun v11 => Q (v11 - (1 : Int32)) ws)))))))))))) ∧ (v5 = 0 → Q (-1 : Int32) ws)))))))) ∧ (v3 = 0 → X "java/lang/IllegalArgumentException" ws))))))))) X)
set_option maxRecDepth 20000 in
set_option maxHeartbeats 4000000 in
theorem m_X6_dig {G : Gx} (hst : (gl G).stackTraces = false) {p0 : Nat} {p1 : Int32} {p2 : Int32} {p3 : Int32} {ws : va_W} {Q : Int32 → va_W → Prop} {X : String → va_W → Prop} (h : F_X6_dig G p0 p1 p2 p3 ws Q X) : Xt G yX6_dig wsX6_dig rm_X6_dig [.ref p0, .int p1, .int p2, .int p3] ws (QtI G Q) X := by
  refine mk_Xt (cc := cX6_dig) (nL := 5) (own := RX6) (ret := (some .int)) (lv0 := [some (.ref p0), some (.int p1), some (.int p2), some (.int p3), none]) hst (by decide) rfl rfl (Nat.le_of_ble_eq_true rfl) rfl ?_
  intro K C F
  refine e_aload_n C (x := p0) rfl dX6_dig_0 (pc' := 1) rfl ?_
  refine e_iload_n C (x := p1) rfl dX6_dig_1 (pc' := 2) rfl ?_
  obtain ⟨hv, h⟩ := h
  refine e_xcallr (run_XV (n := 1) C (m_X6_undugAt hst h) gX6_dig_X6_undugAt rfl ⟨rfl, by decide, by decide, by decide +kernel⟩ ⟨by decide, by decide⟩ (ci := 6) rfl rfl hv rfl (Nat.le_of_ble_eq_true rfl) dX6_dig_2 ⟨by decide, by decide⟩ (As := [.int p1]) rfl) (pc' := 5) rfl (cn' := 2) (sn' := 12) rfl rfl (fun E u hx => x_out C F (by decide) (by decide) hx) (fun v1 ws h => ?_)
  refine e_astore C (by decide) dX6_dig_5 (pc' := 7) rfl (lv' := [some (.ref p0), some (.int p1), some (.int p2), some (.int p3), some (.ref v1)]) rfl ?_
  refine e_iload_n C (x := p2) rfl dX6_dig_7 (pc' := 8) rfl ?_
  refine e_calli (run_S (n := 1) C (m_X6_isOwner hst h) gX6_dig_X6_isOwner rfl ⟨rfl, by decide, by decide, by decide +kernel⟩ ⟨by decide, by decide⟩ rfl (Nat.le_of_ble_eq_true rfl) dX6_dig_8 ⟨by decide, by decide⟩ (As := [.int p2]) rfl) (pc' := 11) rfl (cn' := 2) (sn' := 12) rfl rfl (fun v2 ws h => ?_)
  refine e_if_eq C (tg := 24) dX6_dig_11 (by decide) (pc' := 14) rfl (fun hc => ?_) (fun hc => ?_)
  · replace h := h.1 hc
    exact x_throwS C F (E := "java/lang/IllegalArgumentException") (tx := "owner or days are none") (by decide) (by decide) w_X6_dig_k79 w_X6_dig_i79 (by decide) gw_X6_dig_83 xb_X6_83 xo_X6_83_79 dX6_dig_24 dX6_dig_27 dX6_dig_28 dX6_dig_30 dX6_dig_33 (by decide) (by decide) (by decide) (by decide) h
  · replace h := h.2 hc
    refine e_iload_n C (x := p3) rfl dX6_dig_14 (pc' := 15) rfl ?_
    refine e_iconst C (v := (1 : Int32)) (by decide) dX6_dig_15 (pc' := 16) rfl ?_
    refine e_bipush C (v := (15 : Int32)) (by decide) dX6_dig_16 (pc' := 18) rfl ?_
    refine e_calli (run_S (n := 3) C (m_X6_isWithin hst h) gX6_dig_X6_isWithin rfl ⟨rfl, by decide, by decide, by decide +kernel⟩ ⟨by decide, by decide⟩ rfl (Nat.le_of_ble_eq_true rfl) dX6_dig_18 ⟨by decide, by decide⟩ (As := [.int p3, .int (1 : Int32), .int (15 : Int32)]) rfl) (pc' := 21) rfl (cn' := 2) (sn' := 12) rfl rfl (fun v3 ws h => ?_)
    refine e_if_ne C (tg := 34) dX6_dig_21 (by decide) (pc' := 24) rfl (fun hc => ?_) (fun hc => ?_)
    · replace h := h.1 hc
      refine e_aload_n C (x := p0) rfl dX6_dig_34 (pc' := 35) rfl ?_
      refine f_getI C (ci := 6) (CN := RX6) (TT := TX6) (N := 16) 11 dX6_dig_35 (pc' := 38) rfl in_X6_dig_X6 rfl (by decide) fl_X6_dig_123 h (fun v4 h => ?_)
      refine e_bipush C (v := (60 : Int32)) (by decide) dX6_dig_38 (pc' := 40) rfl ?_
      refine e_icmp_ge C (tg := 52) dX6_dig_40 (by decide) (pc' := 43) rfl (fun hc => ?_) (fun hc => ?_)
      · replace h := h.1 hc
        refine e_iconst C (v := (-1 : Int32)) (by decide) dX6_dig_52 (pc' := 53) rfl ?_
        exact x_int C F dX6_dig_53 (by decide) (by decide) h
      · replace h := h.2 hc
        refine e_aload_n C (x := p0) rfl dX6_dig_43 (pc' := 44) rfl ?_
        refine e_aload C (x := v1) rfl dX6_dig_44 (pc' := 46) rfl ?_
        obtain ⟨hv, h⟩ := h
        refine e_calli (run_V (n := 1) C (m_X6_isAllowed hst h) gX6_dig_X6_isAllowed rfl ⟨rfl, by decide, by decide, by decide +kernel⟩ ⟨by decide, by decide⟩ (ci := 6) rfl rfl hv rfl (Nat.le_of_ble_eq_true rfl) dX6_dig_46 ⟨by decide, by decide⟩ (As := [.ref v1]) rfl) (pc' := 49) rfl (cn' := 2) (sn' := 12) rfl rfl (fun v5 ws h => ?_)
        refine e_if_ne C (tg := 54) dX6_dig_49 (by decide) (pc' := 52) rfl (fun hc => ?_) (fun hc => ?_)
        · replace h := h.1 hc
          refine e_aload C (x := v1) rfl dX6_dig_54 (pc' := 56) rfl ?_
          refine e_iload_n C (x := p3) rfl dX6_dig_56 (pc' := 57) rfl ?_
          refine e_sipush C (v := (1440 : Int32)) (by decide) dX6_dig_57 (pc' := 60) rfl ?_
          refine e_imul C dX6_dig_60 (pc' := 61) rfl ?_
          refine f_putI C (ci := 0) (CN := RX0) (TT := TX0) (N := 8) 5 tyX0 dX6_dig_61 (pc' := 64) rfl in_X6_dig_X0 tyX0_ok nmX0 rfl (by decide) fl_X6_dig_126 rfl (by decide +kernel) h (fun ws h => ?_)
          refine e_aload C (x := v1) rfl dX6_dig_64 (pc' := 66) rfl ?_
          refine e_aload_n C (x := p0) rfl dX6_dig_66 (pc' := 67) rfl ?_
          refine f_getI C (ci := 6) (CN := RX6) (TT := TX6) (N := 16) 9 dX6_dig_67 (pc' := 70) rfl in_X6_dig_X6 rfl (by decide) fl_X6_dig_129 h (fun v6 h => ?_)
          refine f_putI C (ci := 0) (CN := RX0) (TT := TX0) (N := 8) 6 tyX0 dX6_dig_70 (pc' := 73) rfl in_X6_dig_X0 tyX0_ok nmX0 rfl (by decide) fl_X6_dig_132 rfl (by decide +kernel) h (fun ws h => ?_)
          refine e_aload C (x := v1) rfl dX6_dig_73 (pc' := 75) rfl ?_
          refine e_aload_n C (x := p0) rfl dX6_dig_75 (pc' := 76) rfl ?_
          refine f_getI C (ci := 6) (CN := RX6) (TT := TX6) (N := 16) 6 dX6_dig_76 (pc' := 79) rfl in_X6_dig_X6 rfl (by decide) fl_X6_dig_135 h (fun v7 h => ?_)
          refine f_putI C (ci := 0) (CN := RX0) (TT := TX0) (N := 8) 7 tyX0 dX6_dig_79 (pc' := 82) rfl in_X6_dig_X0 tyX0_ok nmX0 rfl (by decide) fl_X6_dig_138 rfl (by decide +kernel) h (fun ws h => ?_)
          refine e_aload_n C (x := p0) rfl dX6_dig_82 (pc' := 83) rfl ?_
          refine e_dup C rfl dX6_dig_83 (pc' := 84) rfl ?_
          refine f_getI C (ci := 6) (CN := RX6) (TT := TX6) (N := 16) 6 dX6_dig_84 (pc' := 87) rfl in_X6_dig_X6 rfl (by decide) fl_X6_dig_135 h (fun v8 h => ?_)
          refine e_iconst C (v := (1 : Int32)) (by decide) dX6_dig_87 (pc' := 88) rfl ?_
          refine e_iadd C dX6_dig_88 (pc' := 89) rfl ?_
          refine f_putI C (ci := 6) (CN := RX6) (TT := TX6) (N := 16) 6 tyX6 dX6_dig_89 (pc' := 92) rfl in_X6_dig_X6 tyX6_ok nmX6 rfl (by decide) fl_X6_dig_135 rfl (by decide +kernel) h (fun ws h => ?_)
          refine e_aload_n C (x := p0) rfl dX6_dig_92 (pc' := 93) rfl ?_
          refine e_iload_n C (x := p1) rfl dX6_dig_93 (pc' := 94) rfl ?_
          refine e_iconst C (v := (0 : Int32)) (by decide) dX6_dig_94 (pc' := 95) rfl ?_
          refine e_aload C (x := v1) rfl dX6_dig_95 (pc' := 97) rfl ?_
          refine f_getI C (ci := 0) (CN := RX0) (TT := TX0) (N := 8) 5 dX6_dig_97 (pc' := 100) rfl in_X6_dig_X0 rfl (by decide) fl_X6_dig_126 h (fun v9 h => ?_)
          refine e_iload_n C (x := p2) rfl dX6_dig_100 (pc' := 101) rfl ?_
          obtain ⟨hv, h⟩ := h
          refine e_callv (run_V (n := 4) C (m_X6_addShare hst h) gX6_dig_X6_addShare rfl ⟨rfl, by decide, by decide, by decide +kernel⟩ ⟨by decide, by decide⟩ (ci := 6) rfl rfl hv rfl (Nat.le_of_ble_eq_true rfl) dX6_dig_101 ⟨by decide, by decide⟩ (As := [.int p1, .int (0 : Int32), .int v9, .int p2]) rfl) (pc' := 104) rfl (cn' := 2) (sn' := 12) rfl rfl (fun ws h => ?_)
          refine e_aload_n C (x := p0) rfl dX6_dig_104 (pc' := 105) rfl ?_
          refine f_getI C (ci := 6) (CN := RX6) (TT := TX6) (N := 16) 11 dX6_dig_105 (pc' := 108) rfl in_X6_dig_X6 rfl (by decide) fl_X6_dig_123 h (fun v11 h => ?_)
          refine e_iconst C (v := (1 : Int32)) (by decide) dX6_dig_108 (pc' := 109) rfl ?_
          refine e_isub C dX6_dig_109 (pc' := 110) rfl ?_
          exact x_int C F dX6_dig_110 (by decide) (by decide) h
        · replace h := h.2 hc
          refine e_iconst C (v := (-1 : Int32)) (by decide) dX6_dig_52 (pc' := 53) rfl ?_
          exact x_int C F dX6_dig_53 (by decide) (by decide) h
    · replace h := h.2 hc
      exact x_throwS C F (E := "java/lang/IllegalArgumentException") (tx := "owner or days are none") (by decide) (by decide) w_X6_dig_k79 w_X6_dig_i79 (by decide) gw_X6_dig_83 xb_X6_83 xo_X6_83_79 dX6_dig_24 dX6_dig_27 dX6_dig_28 dX6_dig_30 dX6_dig_33 (by decide) (by decide) (by decide) (by decide) h
