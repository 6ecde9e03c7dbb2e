abbrev rm_X7_word : Room := { frames := 2, cells := 0, slots := 0, locals := 42 }
set_option maxRecDepth 20000 in
theorem in_X7_word_X7 : ∀ w ∈ wsX70, w ∈ wsX7_word := by decide +kernel
set_option maxRecDepth 20000 in
theorem fl_X7_word_176 : Cond.fieldLink RX7 176 (TX7 25).1 (TX7 25).2.1 (TX7 25).2.2.1 ∈ wsX7_word := by decide +kernel
def F_X7_word (G : Gx) (p0 : Nat) (ws : va_W) (Q : va_W → Prop) : Prop := ∀ (J4 : va_W → Prop), (∀ (ws : va_W), (qV 7 p0 ws ∧ F_X7_isAt G p0 (97 : Int32) (122 : Int32) ws (fun v2 ws => ((v2 = 0 → Q ws) ∧ (¬ v2 = 0 → qI 7 25 p0 ws (fun v3 => qP 7 25 p0 (.int (v3 + (1 : Int32))) ws (fun ws => J4 ws)))))) → J4 ws) → (qV 7 p0 ws ∧ F_X7_blanks G p0 ws (fun ws => J4 ws))
set_option maxRecDepth 20000 in
set_option maxHeartbeats 4000000 in
theorem m_X7_word {G : Gx} (hst : (gl G).stackTraces = false) {p0 : Nat} {ws : va_W} {Q : va_W → Prop} (h : F_X7_word G p0 ws Q) : Mt G yX7_word wsX7_word rm_X7_word [.ref p0] ws (QtV G Q) := by
  refine mk_Mt (cc := cX7_word) (nL := 1) (own := RX7) (ret := none) (lv0 := [some (.ref p0)]) hst (by decide) rfl rfl (Nat.le_of_ble_eq_true rfl) rfl ?_
  intro K C F
  replace h := h (fun ws => Ev K G 1 0 0 4 [some (.ref p0)] [] ws)
  replace h := h (by
    intro ws h
    show Ev K G 1 0 0 4 [some (.ref p0)] [] ws
    refine e_aload_n C (x := p0) rfl dX7_word_4 (pc' := 5) rfl ?_
    refine e_bipush C (v := (97 : Int32)) (by decide) dX7_word_5 (pc' := 7) rfl ?_
    refine e_bipush C (v := (122 : Int32)) (by decide) dX7_word_7 (pc' := 9) rfl ?_
    obtain ⟨hv, h⟩ := h
    refine e_calli (run_V (n := 2) C (m_X7_isAt hst h) gX7_word_X7_isAt rfl ⟨rfl, by decide, by decide, by decide +kernel⟩ ⟨by decide, by decide⟩ (ci := 7) rfl rfl hv rfl (Nat.le_of_ble_eq_true rfl) dX7_word_9 ⟨by decide, by decide⟩ (As := [.int (97 : Int32), .int (122 : Int32)]) rfl) (pc' := 12) rfl (cn' := 0) (sn' := 0) rfl rfl (fun v2 ws h => ?_)
    refine e_if_eq C (tg := 28) dX7_word_12 (by decide) (pc' := 15) rfl (fun hc => ?_) (fun hc => ?_)
    · replace h := h.1 hc
      exact r_void C F dX7_word_28 (by decide) (by decide) h
    · replace h := h.2 hc
      refine e_aload_n C (x := p0) rfl dX7_word_15 (pc' := 16) rfl ?_
      refine e_dup C rfl dX7_word_16 (pc' := 17) rfl ?_
      refine f_getI C (ci := 7) (CN := RX7) (TT := TX7) (N := 36) 25 dX7_word_17 (pc' := 20) rfl in_X7_word_X7 rfl (by decide) fl_X7_word_176 h (fun v3 h => ?_)
      refine e_iconst C (v := (1 : Int32)) (by decide) dX7_word_20 (pc' := 21) rfl ?_
      refine e_iadd C dX7_word_21 (pc' := 22) rfl ?_
      refine f_putI C (ci := 7) (CN := RX7) (TT := TX7) (N := 36) 25 tyX7 dX7_word_22 (pc' := 25) rfl in_X7_word_X7 tyX7_ok nmX7 rfl (by decide) fl_X7_word_176 rfl (by decide +kernel) h (fun ws h => ?_)
      refine e_goto C (tg := 4) dX7_word_25 (by decide) ?_
      exact h)
  refine e_aload_n C (x := p0) rfl dX7_word_0 (pc' := 1) rfl ?_
  obtain ⟨hv, h⟩ := h
  refine e_callv (run_V (n := 0) C (m_X7_blanks hst h) gX7_word_X7_blanks rfl ⟨rfl, by decide, by decide, by decide +kernel⟩ ⟨by decide, by decide⟩ (ci := 7) rfl rfl hv rfl (Nat.le_of_ble_eq_true rfl) dX7_word_1 ⟨by decide, by decide⟩ (As := []) rfl) (pc' := 4) rfl (cn' := 0) (sn' := 0) rfl rfl (fun ws h => ?_)
  exact h
abbrev rm_X7_number : Room := { frames := 2, cells := 0, slots := 0, locals := 42 }
set_option maxRecDepth 20000 in
theorem in_X7_number_X7 : ∀ w ∈ wsX70, w ∈ wsX7_number := by decide +kernel
set_option maxRecDepth 20000 in
theorem fl_X7_number_60 : Cond.fieldLink RX7 60 (TX7 22).1 (TX7 22).2.1 (TX7 22).2.2.1 ∈ wsX7_number := by decide +kernel
set_option maxRecDepth 20000 in
theorem fl_X7_number_176 : Cond.fieldLink RX7 176 (TX7 25).1 (TX7 25).2.1 (TX7 25).2.2.1 ∈ wsX7_number := by decide +kernel
set_option maxRecDepth 20000 in
theorem fl_X7_number_185 : Cond.fieldLink RX7 185 (TX7 27).1 (TX7 27).2.1 (TX7 27).2.2.1 ∈ wsX7_number := by decide +kernel
set_option maxRecDepth 20000 in
theorem fl_X7_number_63 : Cond.fieldLink RX7 63 (TX7 23).1 (TX7 23).2.1 (TX7 23).2.2.1 ∈ wsX7_number := by decide +kernel
def F_X7_number (G : Gx) (p0 : Nat) (p1 : Int32) (p2 : Int32) (ws : va_W) (Q : Int32 → va_W → Prop) : Prop := ∀ (J6 : Int32 → va_W → Prop), ∀ (J51 : Int32 → va_W → Prop), (∀ (x3 : Int32) (ws : va_W), (qV 7 p0 ws ∧ F_X7_isAt G p0 (48 : Int32) (57 : Int32) ws (fun v2 ws => ((v2 = 0 → qR 7 22 p0 ws (fun v3 => qS (gc G 1) v3 p1 x3 ws (fun ws => qI 7 25 p0 ws (fun v4 => qI 7 27 p0 ws (fun v5 => ((v4 ≤ v5 → Q (0 : Int32) ws) ∧ (¬ v4 ≤ v5 → qI 7 25 p0 ws (fun v6 => qI 7 27 p0 ws (fun v7 => (((5 : Int32) ≤ (v6 - v7) → Q (0 : Int32) ws) ∧ (¬ (5 : Int32) ≤ (v6 - v7) → ((p2 < x3 → Q (0 : Int32) ws) ∧ (¬ p2 < x3 → Q (1 : Int32) ws))))))))))))) ∧ (¬ v2 = 0 → qI 7 25 p0 ws (fun v8 => qI 7 27 p0 ws (fun v9 => (((4 : Int32) ≤ (v8 - v9) → J51 x3 ws) ∧ (¬ (4 : Int32) ≤ (v8 - v9) → qR 7 23 p0 ws (fun v10 => qI 7 25 p0 ws (fun v11 => qA (gc G 0) v10 v11 ws (fun v12 => J51 ((((10 : Int32) * x3) + v12) - (48 : Int32)) ws))))))))))) → J6 x3 ws) → (∀ (t0 : Int32) (ws : va_W), qI 7 25 p0 ws (fun v13 => qP 7 25 p0 (.int (v13 + (1 : Int32))) ws (fun ws => J6 t0 ws)) → J51 t0 ws) → (qV 7 p0 ws ∧ F_X7_blanks G p0 ws (fun ws => J6 (0 : Int32) ws))
set_option maxRecDepth 20000 in
set_option maxHeartbeats 4000000 in
theorem m_X7_number {G : Gx} (hst : (gl G).stackTraces = false) {p0 : Nat} {p1 : Int32} {p2 : Int32} {ws : va_W} {Q : Int32 → va_W → Prop} (h : F_X7_number G p0 p1 p2 ws Q) : Mt G yX7_number wsX7_number rm_X7_number [.ref p0, .int p1, .int p2] ws (QtI G Q) := by
  refine mk_Mt (cc := cX7_number) (nL := 4) (own := RX7) (ret := (some .boolean)) (lv0 := [some (.ref p0), some (.int p1), some (.int p2), none]) hst (by decide) rfl rfl (Nat.le_of_ble_eq_true rfl) rfl ?_
  intro K C F
  replace h := h (fun x3 ws => Ev K G 4 0 0 6 [some (.ref p0), some (.int p1), some (.int p2), some (.int x3)] [] ws) (fun t0 ws => Ev K G 4 0 0 51 [some (.ref p0), some (.int p1), some (.int p2), none] [.int t0] ws)
  replace h := h (by
    intro x3 ws h
    show Ev K G 4 0 0 6 [some (.ref p0), some (.int p1), some (.int p2), some (.int x3)] [] ws
    refine e_aload_n C (x := p0) rfl dX7_number_6 (pc' := 7) rfl ?_
    refine e_bipush C (v := (48 : Int32)) (by decide) dX7_number_7 (pc' := 9) rfl ?_
    refine e_bipush C (v := (57 : Int32)) (by decide) dX7_number_9 (pc' := 11) rfl ?_
    obtain ⟨hv, h⟩ := h
    refine e_calli (run_V (n := 2) C (m_X7_isAt hst h) gX7_number_X7_isAt rfl ⟨rfl, by decide, by decide, by decide +kernel⟩ ⟨by decide, by decide⟩ (ci := 7) rfl rfl hv rfl (Nat.le_of_ble_eq_true rfl) dX7_number_11 ⟨by decide, by decide⟩ (As := [.int (48 : Int32), .int (57 : Int32)]) rfl) (pc' := 14) rfl (cn' := 0) (sn' := 0) rfl rfl (fun v2 ws h => ?_)
    refine e_if_eq C (tg := 65) dX7_number_14 (by decide) (pc' := 17) rfl (fun hc => ?_) (fun hc => ?_)
    · replace h := h.1 hc
      refine e_aload_n C (x := p0) rfl dX7_number_65 (pc' := 66) rfl ?_
      refine f_getR C (ci := 7) (CN := RX7) (TT := TX7) (N := 36) 22 dX7_number_66 (pc' := 69) rfl in_X7_number_X7 rfl (by decide) fl_X7_number_60 h (fun v3 h => ?_)
      refine e_iload_n C (x := p1) rfl dX7_number_69 (pc' := 70) rfl ?_
      refine e_iload_n C (x := x3) rfl dX7_number_70 (pc' := 71) rfl ?_
      refine f_iastore C dX7_number_71 (pc' := 72) rfl h (fun ws h => ?_)
      refine e_aload_n C (x := p0) rfl dX7_number_72 (pc' := 73) rfl ?_
      refine f_getI C (ci := 7) (CN := RX7) (TT := TX7) (N := 36) 25 dX7_number_73 (pc' := 76) rfl in_X7_number_X7 rfl (by decide) fl_X7_number_176 h (fun v4 h => ?_)
      refine e_aload_n C (x := p0) rfl dX7_number_76 (pc' := 77) rfl ?_
      refine f_getI C (ci := 7) (CN := RX7) (TT := TX7) (N := 36) 27 dX7_number_77 (pc' := 80) rfl in_X7_number_X7 rfl (by decide) fl_X7_number_185 h (fun v5 h => ?_)
      refine e_icmp_le C (tg := 105) dX7_number_80 (by decide) (pc' := 83) rfl (fun hc => ?_) (fun hc => ?_)
      · replace h := h.1 hc
        refine e_iconst C (v := (0 : Int32)) (by decide) dX7_number_105 (pc' := 106) rfl ?_
        exact r_bool C F dX7_number_106 (by decide) (by decide) (Or.inl rfl) h
      · replace h := h.2 hc
        refine e_aload_n C (x := p0) rfl dX7_number_83 (pc' := 84) rfl ?_
        refine f_getI C (ci := 7) (CN := RX7) (TT := TX7) (N := 36) 25 dX7_number_84 (pc' := 87) rfl in_X7_number_X7 rfl (by decide) fl_X7_number_176 h (fun v6 h => ?_)
        refine e_aload_n C (x := p0) rfl dX7_number_87 (pc' := 88) rfl ?_
        refine f_getI C (ci := 7) (CN := RX7) (TT := TX7) (N := 36) 27 dX7_number_88 (pc' := 91) rfl in_X7_number_X7 rfl (by decide) fl_X7_number_185 h (fun v7 h => ?_)
        refine e_isub C dX7_number_91 (pc' := 92) rfl ?_
        refine e_iconst C (v := (5 : Int32)) (by decide) dX7_number_92 (pc' := 93) rfl ?_
        refine e_icmp_ge C (tg := 105) dX7_number_93 (by decide) (pc' := 96) rfl (fun hc => ?_) (fun hc => ?_)
        · replace h := h.1 hc
          refine e_iconst C (v := (0 : Int32)) (by decide) dX7_number_105 (pc' := 106) rfl ?_
          exact r_bool C F dX7_number_106 (by decide) (by decide) (Or.inl rfl) h
        · replace h := h.2 hc
          refine e_iload_n C (x := x3) rfl dX7_number_96 (pc' := 97) rfl ?_
          refine e_iload_n C (x := p2) rfl dX7_number_97 (pc' := 98) rfl ?_
          refine e_icmp_gt C (tg := 105) dX7_number_98 (by decide) (pc' := 101) rfl (fun hc => ?_) (fun hc => ?_)
          · replace h := h.1 hc
            refine e_iconst C (v := (0 : Int32)) (by decide) dX7_number_105 (pc' := 106) rfl ?_
            exact r_bool C F dX7_number_106 (by decide) (by decide) (Or.inl rfl) h
          · replace h := h.2 hc
            refine e_iconst C (v := (1 : Int32)) (by decide) dX7_number_101 (pc' := 102) rfl ?_
            refine e_goto C (tg := 106) dX7_number_102 (by decide) ?_
            exact r_bool C F dX7_number_106 (by decide) (by decide) (Or.inr rfl) h
    · replace h := h.2 hc
      refine e_aload_n C (x := p0) rfl dX7_number_17 (pc' := 18) rfl ?_
      refine f_getI C (ci := 7) (CN := RX7) (TT := TX7) (N := 36) 25 dX7_number_18 (pc' := 21) rfl in_X7_number_X7 rfl (by decide) fl_X7_number_176 h (fun v8 h => ?_)
      refine e_aload_n C (x := p0) rfl dX7_number_21 (pc' := 22) rfl ?_
      refine f_getI C (ci := 7) (CN := RX7) (TT := TX7) (N := 36) 27 dX7_number_22 (pc' := 25) rfl in_X7_number_X7 rfl (by decide) fl_X7_number_185 h (fun v9 h => ?_)
      refine e_isub C dX7_number_25 (pc' := 26) rfl ?_
      refine e_iconst C (v := (4 : Int32)) (by decide) dX7_number_26 (pc' := 27) rfl ?_
      refine e_icmp_ge C (tg := 50) dX7_number_27 (by decide) (pc' := 30) rfl (fun hc => ?_) (fun hc => ?_)
      · replace h := h.1 hc
        refine e_iload_n C (x := x3) rfl dX7_number_50 (pc' := 51) rfl ?_
        refine e_mask [true, true, true, false] (lv' := [some (.ref p0), some (.int p1), some (.int p2), none]) rfl ?_
        exact h
      · replace h := h.2 hc
        refine e_bipush C (v := (10 : Int32)) (by decide) dX7_number_30 (pc' := 32) rfl ?_
        refine e_iload_n C (x := x3) rfl dX7_number_32 (pc' := 33) rfl ?_
        refine e_imul C dX7_number_33 (pc' := 34) rfl ?_
        refine e_aload_n C (x := p0) rfl dX7_number_34 (pc' := 35) rfl ?_
        refine f_getR C (ci := 7) (CN := RX7) (TT := TX7) (N := 36) 23 dX7_number_35 (pc' := 38) rfl in_X7_number_X7 rfl (by decide) fl_X7_number_63 h (fun v10 h => ?_)
        refine e_aload_n C (x := p0) rfl dX7_number_38 (pc' := 39) rfl ?_
        refine f_getI C (ci := 7) (CN := RX7) (TT := TX7) (N := 36) 25 dX7_number_39 (pc' := 42) rfl in_X7_number_X7 rfl (by decide) fl_X7_number_176 h (fun v11 h => ?_)
        refine f_baload C dX7_number_42 (pc' := 43) rfl h (fun v12 h => ?_)
        refine e_iadd C dX7_number_43 (pc' := 44) rfl ?_
        refine e_bipush C (v := (48 : Int32)) (by decide) dX7_number_44 (pc' := 46) rfl ?_
        refine e_isub C dX7_number_46 (pc' := 47) rfl ?_
        refine e_goto C (tg := 51) dX7_number_47 (by decide) ?_
        refine e_mask [true, true, true, false] (lv' := [some (.ref p0), some (.int p1), some (.int p2), none]) rfl ?_
        exact h)
  replace h := h (by
    intro t0 ws h
    show Ev K G 4 0 0 51 [some (.ref p0), some (.int p1), some (.int p2), none] [.int t0] ws
    refine e_istore_n C (by decide) dX7_number_51 (pc' := 52) rfl (lv' := [some (.ref p0), some (.int p1), some (.int p2), some (.int t0)]) rfl ?_
    refine e_aload_n C (x := p0) rfl dX7_number_52 (pc' := 53) rfl ?_
    refine e_dup C rfl dX7_number_53 (pc' := 54) rfl ?_
    refine f_getI C (ci := 7) (CN := RX7) (TT := TX7) (N := 36) 25 dX7_number_54 (pc' := 57) rfl in_X7_number_X7 rfl (by decide) fl_X7_number_176 h (fun v13 h => ?_)
    refine e_iconst C (v := (1 : Int32)) (by decide) dX7_number_57 (pc' := 58) rfl ?_
    refine e_iadd C dX7_number_58 (pc' := 59) rfl ?_
    refine f_putI C (ci := 7) (CN := RX7) (TT := TX7) (N := 36) 25 tyX7 dX7_number_59 (pc' := 62) rfl in_X7_number_X7 tyX7_ok nmX7 rfl (by decide) fl_X7_number_176 rfl (by decide +kernel) h (fun ws h => ?_)
    refine e_goto C (tg := 6) dX7_number_62 (by decide) ?_
    exact h)
  refine e_aload_n C (x := p0) rfl dX7_number_0 (pc' := 1) rfl ?_
  obtain ⟨hv, h⟩ := h
  refine e_callv (run_V (n := 0) C (m_X7_blanks hst h) gX7_number_X7_blanks rfl ⟨rfl, by decide, by decide, by decide +kernel⟩ ⟨by decide, by decide⟩ (ci := 7) rfl rfl hv rfl (Nat.le_of_ble_eq_true rfl) dX7_number_1 ⟨by decide, by decide⟩ (As := []) rfl) (pc' := 4) rfl (cn' := 0) (sn' := 0) rfl rfl (fun ws h => ?_)
  refine e_iconst C (v := (0 : Int32)) (by decide) dX7_number_4 (pc' := 5) rfl ?_
  refine e_istore_n C (by decide) dX7_number_5 (pc' := 6) rfl (lv' := [some (.ref p0), some (.int p1), some (.int p2), some (.int (0 : Int32))]) rfl ?_
  exact h
abbrev rm_X7_readTerm : Room := { frames := 5, cells := 0, slots := 0, locals := 108 }
set_option maxRecDepth 20000 in
theorem in_X7_readTerm_X7 : ∀ w ∈ wsX70, w ∈ wsX7_readTerm := by decide +kernel
set_option maxRecDepth 20000 in
theorem fl_X7_readTerm_60 : Cond.fieldLink RX7 60 (TX7 22).1 (TX7 22).2.1 (TX7 22).2.2.1 ∈ wsX7_readTerm := by decide +kernel
def F_X7_readTerm (G : Gx) (p0 : Nat) (ws : va_W) (Q : Int32 → va_W → Prop) : Prop := ∀ (J90 : Int32 → Int32 → Nat → va_W → Prop), (∀ (t0 : Int32) (t1 : Int32) (t2 : Nat) (ws : va_W), qS (gc G 1) t2 t1 t0 ws (fun ws => qR 7 22 p0 ws (fun v12 => qA (gc G 1) v12 (2 : Int32) ws (fun v13 => ((v13 = (1 : Int32) → Q (1 : Int32) ws) ∧ (¬ v13 = (1 : Int32) → (qV 7 p0 ws ∧ F_X7_isWord G p0 (gk G 5) ws (fun v14 ws => ((v14 = 0 → Q (0 : Int32) ws) ∧ (¬ v14 = 0 → Q (1 : Int32) ws))))))))) → J90 t0 t1 t2 ws) → (qV 7 p0 ws ∧ F_X7_word G p0 ws (fun ws => (qV 7 p0 ws ∧ F_X7_isWord G p0 (gk G 0) ws (fun v2 ws => ((v2 = 0 → (qV 7 p0 ws ∧ F_X7_isWord G p0 (gk G 1) ws (fun v3 ws => ((v3 = 0 → (qV 7 p0 ws ∧ F_X7_isWord G p0 (gk G 2) ws (fun v4 ws => ((v4 = 0 → (qV 7 p0 ws ∧ F_X7_isWord G p0 (gk G 3) ws (fun v5 ws => ((¬ v5 = 0 → (qV 7 p0 ws ∧ F_X7_word G p0 ws (fun ws => qR 7 22 p0 ws (fun v7 => (qV 7 p0 ws ∧ F_X7_isWord G p0 (gk G 4) ws (fun v8 ws => ((v8 = 0 → J90 (0 : Int32) (2 : Int32) v7 ws) ∧ (¬ v8 = 0 → J90 (1 : Int32) (2 : Int32) v7 ws)))))))) ∧ (v5 = 0 → Q (0 : Int32) ws))))) ∧ (¬ v4 = 0 → (qV 7 p0 ws ∧ F_X7_number G p0 (3 : Int32) (100 : Int32) ws (fun v9 ws => ((v9 = 0 ∨ v9 = 1) ∧ Q v9 ws)))))))) ∧ (¬ v3 = 0 → (qV 7 p0 ws ∧ F_X7_number G p0 (1 : Int32) (1000 : Int32) ws (fun v10 ws => ((v10 = 0 ∨ v10 = 1) ∧ Q v10 ws)))))))) ∧ (¬ v2 = 0 → (qV 7 p0 ws ∧ F_X7_number G p0 (0 : Int32) (100 : Int32) ws (fun v11 ws => ((v11 = 0 ∨ v11 = 1) ∧ Q v11 ws)))))))))
set_option maxRecDepth 20000 in
set_option maxHeartbeats 4000000 in
theorem m_X7_readTerm {G : Gx} (hst : (gl G).stackTraces = false) {p0 : Nat} {ws : va_W} {Q : Int32 → va_W → Prop} (h : F_X7_readTerm G p0 ws Q) : Mt G yX7_readTerm wsX7_readTerm rm_X7_readTerm [.ref p0] ws (QtI G Q) := by
  refine mk_Mt (cc := cX7_readTerm) (nL := 1) (own := RX7) (ret := (some .boolean)) (lv0 := [some (.ref p0)]) hst (by decide) rfl rfl (Nat.le_of_ble_eq_true rfl) rfl ?_
  intro K C F
  replace h := h (fun t0 t1 t2 ws => Ev K G 1 0 0 90 [some (.ref p0)] [.int t0, .int t1, .ref t2] ws)
  replace h := h (by
    intro t0 t1 t2 ws h
    show Ev K G 1 0 0 90 [some (.ref p0)] [.int t0, .int t1, .ref t2] ws
    refine f_iastore C dX7_readTerm_90 (pc' := 91) rfl h (fun ws h => ?_)
    refine e_aload_n C (x := p0) rfl dX7_readTerm_91 (pc' := 92) rfl ?_
    refine f_getR C (ci := 7) (CN := RX7) (TT := TX7) (N := 36) 22 dX7_readTerm_92 (pc' := 95) rfl in_X7_readTerm_X7 rfl (by decide) fl_X7_readTerm_60 h (fun v12 h => ?_)
    refine e_iconst C (v := (2 : Int32)) (by decide) dX7_readTerm_95 (pc' := 96) rfl ?_
    refine f_iaload C dX7_readTerm_96 (pc' := 97) rfl h (fun v13 h => ?_)
    refine e_iconst C (v := (1 : Int32)) (by decide) dX7_readTerm_97 (pc' := 98) rfl ?_
    refine e_icmp_eq C (tg := 110) dX7_readTerm_98 (by decide) (pc' := 101) rfl (fun hc => ?_) (fun hc => ?_)
    · replace h := h.1 hc
      refine e_iconst C (v := (1 : Int32)) (by decide) dX7_readTerm_110 (pc' := 111) rfl ?_
      refine e_goto C (tg := 115) dX7_readTerm_111 (by decide) ?_
      exact r_bool C F dX7_readTerm_115 (by decide) (by decide) (Or.inr rfl) h
    · replace h := h.2 hc
      refine e_aload_n C (x := p0) rfl dX7_readTerm_101 (pc' := 102) rfl ?_
      refine e_ldcS7 C 5 (by decide) dX7_readTerm_102 (pc' := 104) rfl ?_
      obtain ⟨hv, h⟩ := h
      refine e_calli (run_V (n := 1) C (m_X7_isWord hst h) gX7_readTerm_X7_isWord rfl ⟨rfl, by decide, by decide, by decide +kernel⟩ ⟨by decide, by decide⟩ (ci := 7) rfl rfl hv rfl (Nat.le_of_ble_eq_true rfl) dX7_readTerm_104 ⟨by decide, by decide⟩ (As := [.ref (gk G 5)]) rfl) (pc' := 107) rfl (cn' := 0) (sn' := 0) rfl rfl (fun v14 ws h => ?_)
      refine e_if_eq C (tg := 114) dX7_readTerm_107 (by decide) (pc' := 110) rfl (fun hc => ?_) (fun hc => ?_)
      · replace h := h.1 hc
        refine e_iconst C (v := (0 : Int32)) (by decide) dX7_readTerm_114 (pc' := 115) rfl ?_
        exact r_bool C F dX7_readTerm_115 (by decide) (by decide) (Or.inl rfl) h
      · replace h := h.2 hc
        refine e_iconst C (v := (1 : Int32)) (by decide) dX7_readTerm_110 (pc' := 111) rfl ?_
        refine e_goto C (tg := 115) dX7_readTerm_111 (by decide) ?_
        exact r_bool C F dX7_readTerm_115 (by decide) (by decide) (Or.inr rfl) h)
  refine e_aload_n C (x := p0) rfl dX7_readTerm_0 (pc' := 1) rfl ?_
  obtain ⟨hv, h⟩ := h
  refine e_callv (run_V (n := 0) C (m_X7_word hst h) gX7_readTerm_X7_word rfl ⟨rfl, by decide, by decide, by decide +kernel⟩ ⟨by decide, by decide⟩ (ci := 7) rfl rfl hv rfl (Nat.le_of_ble_eq_true rfl) dX7_readTerm_1 ⟨by decide, by decide⟩ (As := []) rfl) (pc' := 4) rfl (cn' := 0) (sn' := 0) rfl rfl (fun ws h => ?_)
  refine e_aload_n C (x := p0) rfl dX7_readTerm_4 (pc' := 5) rfl ?_
  refine e_ldcS7 C 0 (by decide) dX7_readTerm_5 (pc' := 7) rfl ?_
  obtain ⟨hv, h⟩ := h
  refine e_calli (run_V (n := 1) C (m_X7_isWord hst h) gX7_readTerm_X7_isWord rfl ⟨rfl, by decide, by decide, by decide +kernel⟩ ⟨by decide, by decide⟩ (ci := 7) rfl rfl hv rfl (Nat.le_of_ble_eq_true rfl) dX7_readTerm_7 ⟨by decide, by decide⟩ (As := [.ref (gk G 0)]) rfl) (pc' := 10) rfl (cn' := 0) (sn' := 0) rfl rfl (fun v2 ws h => ?_)
  refine e_if_eq C (tg := 21) dX7_readTerm_10 (by decide) (pc' := 13) rfl (fun hc => ?_) (fun hc => ?_)
  · replace h := h.1 hc
    refine e_aload_n C (x := p0) rfl dX7_readTerm_21 (pc' := 22) rfl ?_
    refine e_ldcS7 C 1 (by decide) dX7_readTerm_22 (pc' := 24) rfl ?_
    obtain ⟨hv, h⟩ := h
    refine e_calli (run_V (n := 1) C (m_X7_isWord hst h) gX7_readTerm_X7_isWord rfl ⟨rfl, by decide, by decide, by decide +kernel⟩ ⟨by decide, by decide⟩ (ci := 7) rfl rfl hv rfl (Nat.le_of_ble_eq_true rfl) dX7_readTerm_24 ⟨by decide, by decide⟩ (As := [.ref (gk G 1)]) rfl) (pc' := 27) rfl (cn' := 0) (sn' := 0) rfl rfl (fun v3 ws h => ?_)
    refine e_if_eq C (tg := 39) dX7_readTerm_27 (by decide) (pc' := 30) rfl (fun hc => ?_) (fun hc => ?_)
    · replace h := h.1 hc
      refine e_aload_n C (x := p0) rfl dX7_readTerm_39 (pc' := 40) rfl ?_
      refine e_ldcS7 C 2 (by decide) dX7_readTerm_40 (pc' := 42) rfl ?_
      obtain ⟨hv, h⟩ := h
      refine e_calli (run_V (n := 1) C (m_X7_isWord hst h) gX7_readTerm_X7_isWord rfl ⟨rfl, by decide, by decide, by decide +kernel⟩ ⟨by decide, by decide⟩ (ci := 7) rfl rfl hv rfl (Nat.le_of_ble_eq_true rfl) dX7_readTerm_42 ⟨by decide, by decide⟩ (As := [.ref (gk G 2)]) rfl) (pc' := 45) rfl (cn' := 0) (sn' := 0) rfl rfl (fun v4 ws h => ?_)
      refine e_if_eq C (tg := 56) dX7_readTerm_45 (by decide) (pc' := 48) rfl (fun hc => ?_) (fun hc => ?_)
      · replace h := h.1 hc
        refine e_aload_n C (x := p0) rfl dX7_readTerm_56 (pc' := 57) rfl ?_
        refine e_ldcS7 C 3 (by decide) dX7_readTerm_57 (pc' := 59) rfl ?_
        obtain ⟨hv, h⟩ := h
        refine e_calli (run_V (n := 1) C (m_X7_isWord hst h) gX7_readTerm_X7_isWord rfl ⟨rfl, by decide, by decide, by decide +kernel⟩ ⟨by decide, by decide⟩ (ci := 7) rfl rfl hv rfl (Nat.le_of_ble_eq_true rfl) dX7_readTerm_59 ⟨by decide, by decide⟩ (As := [.ref (gk G 3)]) rfl) (pc' := 62) rfl (cn' := 0) (sn' := 0) rfl rfl (fun v5 ws h => ?_)
        refine e_if_ne C (tg := 67) dX7_readTerm_62 (by decide) (pc' := 65) rfl (fun hc => ?_) (fun hc => ?_)
        · replace h := h.1 hc
          refine e_aload_n C (x := p0) rfl dX7_readTerm_67 (pc' := 68) rfl ?_
          obtain ⟨hv, h⟩ := h
          refine e_callv (run_V (n := 0) C (m_X7_word hst h) gX7_readTerm_X7_word rfl ⟨rfl, by decide, by decide, by decide +kernel⟩ ⟨by decide, by decide⟩ (ci := 7) rfl rfl hv rfl (Nat.le_of_ble_eq_true rfl) dX7_readTerm_68 ⟨by decide, by decide⟩ (As := []) rfl) (pc' := 71) rfl (cn' := 0) (sn' := 0) rfl rfl (fun ws h => ?_)
          refine e_aload_n C (x := p0) rfl dX7_readTerm_71 (pc' := 72) rfl ?_
          refine f_getR C (ci := 7) (CN := RX7) (TT := TX7) (N := 36) 22 dX7_readTerm_72 (pc' := 75) rfl in_X7_readTerm_X7 rfl (by decide) fl_X7_readTerm_60 h (fun v7 h => ?_)
          refine e_iconst C (v := (2 : Int32)) (by decide) dX7_readTerm_75 (pc' := 76) rfl ?_
          refine e_aload_n C (x := p0) rfl dX7_readTerm_76 (pc' := 77) rfl ?_
          refine e_ldcS7 C 4 (by decide) dX7_readTerm_77 (pc' := 79) rfl ?_
          obtain ⟨hv, h⟩ := h
          refine e_calli (run_V (n := 1) C (m_X7_isWord hst h) gX7_readTerm_X7_isWord rfl ⟨rfl, by decide, by decide, by decide +kernel⟩ ⟨by decide, by decide⟩ (ci := 7) rfl rfl hv rfl (Nat.le_of_ble_eq_true rfl) dX7_readTerm_79 ⟨by decide, by decide⟩ (As := [.ref (gk G 4)]) rfl) (pc' := 82) rfl (cn' := 0) (sn' := 0) rfl rfl (fun v8 ws h => ?_)
          refine e_if_eq C (tg := 89) dX7_readTerm_82 (by decide) (pc' := 85) rfl (fun hc => ?_) (fun hc => ?_)
          · replace h := h.1 hc
            refine e_iconst C (v := (0 : Int32)) (by decide) dX7_readTerm_89 (pc' := 90) rfl ?_
            exact h
          · replace h := h.2 hc
            refine e_iconst C (v := (1 : Int32)) (by decide) dX7_readTerm_85 (pc' := 86) rfl ?_
            refine e_goto C (tg := 90) dX7_readTerm_86 (by decide) ?_
            exact h
        · replace h := h.2 hc
          refine e_iconst C (v := (0 : Int32)) (by decide) dX7_readTerm_65 (pc' := 66) rfl ?_
          exact r_bool C F dX7_readTerm_66 (by decide) (by decide) (Or.inl rfl) h
      · replace h := h.2 hc
        refine e_aload_n C (x := p0) rfl dX7_readTerm_48 (pc' := 49) rfl ?_
        refine e_iconst C (v := (3 : Int32)) (by decide) dX7_readTerm_49 (pc' := 50) rfl ?_
        refine e_bipush C (v := (100 : Int32)) (by decide) dX7_readTerm_50 (pc' := 52) rfl ?_
        obtain ⟨hv, h⟩ := h
        refine e_calli (run_V (n := 2) C (m_X7_number hst h) gX7_readTerm_X7_number rfl ⟨rfl, by decide, by decide, by decide +kernel⟩ ⟨by decide, by decide⟩ (ci := 7) rfl rfl hv rfl (Nat.le_of_ble_eq_true rfl) dX7_readTerm_52 ⟨by decide, by decide⟩ (As := [.int (3 : Int32), .int (100 : Int32)]) rfl) (pc' := 55) rfl (cn' := 0) (sn' := 0) rfl rfl (fun v9 ws h => ?_)
        exact r_bool C F dX7_readTerm_55 (by decide) (by decide) h.1 h.2
    · replace h := h.2 hc
      refine e_aload_n C (x := p0) rfl dX7_readTerm_30 (pc' := 31) rfl ?_
      refine e_iconst C (v := (1 : Int32)) (by decide) dX7_readTerm_31 (pc' := 32) rfl ?_
      refine e_sipush C (v := (1000 : Int32)) (by decide) dX7_readTerm_32 (pc' := 35) rfl ?_
      obtain ⟨hv, h⟩ := h
      refine e_calli (run_V (n := 2) C (m_X7_number hst h) gX7_readTerm_X7_number rfl ⟨rfl, by decide, by decide, by decide +kernel⟩ ⟨by decide, by decide⟩ (ci := 7) rfl rfl hv rfl (Nat.le_of_ble_eq_true rfl) dX7_readTerm_35 ⟨by decide, by decide⟩ (As := [.int (1 : Int32), .int (1000 : Int32)]) rfl) (pc' := 38) rfl (cn' := 0) (sn' := 0) rfl rfl (fun v10 ws h => ?_)
      exact r_bool C F dX7_readTerm_38 (by decide) (by decide) h.1 h.2
  · replace h := h.2 hc
    refine e_aload_n C (x := p0) rfl dX7_readTerm_13 (pc' := 14) rfl ?_
    refine e_iconst C (v := (0 : Int32)) (by decide) dX7_readTerm_14 (pc' := 15) rfl ?_
    refine e_bipush C (v := (100 : Int32)) (by decide) dX7_readTerm_15 (pc' := 17) rfl ?_
    obtain ⟨hv, h⟩ := h
    refine e_calli (run_V (n := 2) C (m_X7_number hst h) gX7_readTerm_X7_number rfl ⟨rfl, by decide, by decide, by decide +kernel⟩ ⟨by decide, by decide⟩ (ci := 7) rfl rfl hv rfl (Nat.le_of_ble_eq_true rfl) dX7_readTerm_17 ⟨by decide, by decide⟩ (As := [.int (0 : Int32), .int (100 : Int32)]) rfl) (pc' := 20) rfl (cn' := 0) (sn' := 0) rfl rfl (fun v11 ws h => ?_)
    exact r_bool C F dX7_readTerm_20 (by decide) (by decide) h.1 h.2
abbrev rm_X7_law : Room := { frames := 6, cells := 0, slots := 0, locals := 128 }
set_option maxRecDepth 20000 in
theorem in_X7_law_X7 : ∀ w ∈ wsX70, w ∈ wsX7_law := by decide +kernel
set_option maxRecDepth 20000 in
theorem fl_X7_law_88 : Cond.fieldLink RX7 88 (TX7 0).1 (TX7 0).2.1 (TX7 0).2.2.1 ∈ wsX7_law := by decide +kernel
set_option maxRecDepth 20000 in
theorem fl_X7_law_173 : Cond.fieldLink RX7 173 (TX7 24).1 (TX7 24).2.1 (TX7 24).2.2.1 ∈ wsX7_law := by decide +kernel
set_option maxRecDepth 20000 in
theorem fl_X7_law_179 : Cond.fieldLink RX7 179 (TX7 26).1 (TX7 26).2.1 (TX7 26).2.2.1 ∈ wsX7_law := by decide +kernel
set_option maxRecDepth 20000 in
theorem fl_X7_law_176 : Cond.fieldLink RX7 176 (TX7 25).1 (TX7 25).2.1 (TX7 25).2.2.1 ∈ wsX7_law := by decide +kernel
set_option maxRecDepth 20000 in
theorem fl_X7_law_60 : Cond.fieldLink RX7 60 (TX7 22).1 (TX7 22).2.1 (TX7 22).2.2.1 ∈ wsX7_law := by decide +kernel
set_option maxRecDepth 20000 in
theorem fl_X7_law_57 : Cond.fieldLink RX7 57 (TX7 21).1 (TX7 21).2.1 (TX7 21).2.2.1 ∈ wsX7_law := by decide +kernel
set_option maxRecDepth 20000 in
theorem fl_X7_law_185 : Cond.fieldLink RX7 185 (TX7 27).1 (TX7 27).2.1 (TX7 27).2.2.1 ∈ wsX7_law := by decide +kernel
set_option maxRecDepth 20000 in
theorem fl_X7_law_67 : Cond.fieldLink RX7 67 (TX7 28).1 (TX7 28).2.1 (TX7 28).2.2.1 ∈ wsX7_law := by decide +kernel
def F_X7_law (G : Gx) (p0 : Nat) (ws : va_W) (Q : Int32 → va_W → Prop) : Prop := ∀ (J25 : Int32 → va_W → Prop), ∀ (J55 : Int32 → Int32 → va_W → Prop), ∀ (J114 : Int32 → Int32 → va_W → Prop), ∀ (J127 : Int32 → Int32 → Int32 → Nat → va_W → Prop), ∀ (J140 : Int32 → Int32 → Nat → va_W → Prop), ∀ (J151 : Int32 → Int32 → va_W → Prop), (∀ (x1 : Int32) (ws : va_W), (((4 : Int32) ≤ x1 → (qV 7 p0 ws ∧ F_X7_readTerm G p0 ws (fun v2 ws => J55 (0 : Int32) v2 ws))) ∧ (¬ (4 : Int32) ≤ x1 → qR 7 22 p0 ws (fun v3 => qR 7 21 p0 ws (fun v4 => qA (gc G 1) v4 x1 ws (fun v5 => qS (gc G 1) v3 x1 v5 ws (fun ws => J25 (x1 + (1 : Int32)) ws)))))) → J25 x1 ws) → (∀ (x1 : Int32) (x2 : Int32) (ws : va_W), ((x2 = 0 → J114 x1 x2 ws) ∧ (¬ x2 = 0 → (qV 7 p0 ws ∧ F_X7_blanks G p0 ws (fun ws => qI 7 25 p0 ws (fun v7 => qI 7 26 p0 ws (fun v8 => ((¬ v7 = v8 → (qV 7 p0 ws ∧ F_X7_isAt G p0 (59 : Int32) (59 : Int32) ws (fun v9 ws => ((¬ v9 = 0 → qI 7 25 p0 ws (fun v10 => qP 7 25 p0 (.int (v10 + (1 : Int32))) ws (fun ws => (qV 7 p0 ws ∧ F_X7_readTerm G p0 ws (fun v11 ws => J55 (x1 + (1 : Int32)) v11 ws))))) ∧ (v9 = 0 → J114 (x1 + (1 : Int32)) v9 ws))))) ∧ (v7 = v8 → J114 (x1 + (1 : Int32)) x2 ws)))))))) → J55 x1 x2 ws) → (∀ (x1 : Int32) (x2 : Int32) (ws : va_W), ((x2 = 0 → qI 7 27 p0 ws (fun v12 => J127 x1 x2 v12 p0 ws)) ∧ (¬ x2 = 0 → J127 x1 x2 (-1 : Int32) p0 ws)) → J114 x1 x2 ws) → (∀ (x1 : Int32) (x2 : Int32) (t0 : Int32) (t1 : Nat) (ws : va_W), qP 7 28 t1 (.int t0) ws (fun ws => ((¬ x2 = 0 → J140 x1 (0 : Int32) p0 ws) ∧ (x2 = 0 → J140 x1 (1 : Int32) p0 ws))) → J127 x1 x2 t0 t1 ws) → (∀ (x1 : Int32) (t0 : Int32) (t1 : Nat) (ws : va_W), (qV 7 t1 ws ∧ F_X7_throwsIf G t1 t0 (1 : Int32) ws (fun v13 ws => ((v13 = 0 → J151 x1 (0 : Int32) ws) ∧ (¬ v13 = 0 → Q (0 : Int32) ws)))) → J140 x1 t0 t1 ws) → (∀ (x1 : Int32) (x3 : Int32) (ws : va_W), (((4 : Int32) ≤ x3 → Q x1 ws) ∧ (¬ (4 : Int32) ≤ x3 → qR 7 21 p0 ws (fun v14 => qR 7 22 p0 ws (fun v15 => qA (gc G 1) v15 x3 ws (fun v16 => qS (gc G 1) v14 x3 v16 ws (fun ws => J151 x1 (x3 + (1 : Int32)) ws)))))) → J151 x1 x3 ws) → qP 7 0 p0 (.int (0 : Int32)) ws (fun ws => qI 7 24 p0 ws (fun v1 => qP 7 26 p0 (.int v1) ws (fun ws => qP 7 24 p0 (.int (0 : Int32)) ws (fun ws => qP 7 25 p0 (.int (0 : Int32)) ws (fun ws => J25 (0 : Int32) ws)))))
set_option maxRecDepth 20000 in
set_option maxHeartbeats 4000000 in
theorem m_X7_law {G : Gx} (hst : (gl G).stackTraces = false) {p0 : Nat} {ws : va_W} {Q : Int32 → va_W → Prop} (h : F_X7_law G p0 ws Q) : Mt G yX7_law wsX7_law rm_X7_law [.ref p0] ws (QtI G Q) := by
  refine mk_Mt (cc := cX7_law) (nL := 4) (own := RX7) (ret := (some .int)) (lv0 := [some (.ref p0), none, none, none]) hst (by decide) rfl rfl (Nat.le_of_ble_eq_true rfl) rfl ?_
  intro K C F
  replace h := h (fun x1 ws => Ev K G 4 0 0 25 [some (.ref p0), some (.int x1), none, none] [] ws) (fun x1 x2 ws => Ev K G 4 0 0 55 [some (.ref p0), some (.int x1), some (.int x2), none] [] ws) (fun x1 x2 ws => Ev K G 4 0 0 114 [some (.ref p0), some (.int x1), some (.int x2), none] [] ws) (fun x1 x2 t0 t1 ws => Ev K G 4 0 0 127 [some (.ref p0), some (.int x1), some (.int x2), none] [.int t0, .ref t1] ws) (fun x1 t0 t1 ws => Ev K G 4 0 0 140 [some (.ref p0), some (.int x1), none, none] [.int t0, .ref t1] ws) (fun x1 x3 ws => Ev K G 4 0 0 151 [some (.ref p0), some (.int x1), none, some (.int x3)] [] ws)
  replace h := h (by
    intro x1 ws h
    show Ev K G 4 0 0 25 [some (.ref p0), some (.int x1), none, none] [] ws
    refine e_iload_n C (x := x1) rfl dX7_law_25 (pc' := 26) rfl ?_
    refine e_iconst C (v := (4 : Int32)) (by decide) dX7_law_26 (pc' := 27) rfl ?_
    refine e_icmp_ge C (tg := 48) dX7_law_27 (by decide) (pc' := 30) rfl (fun hc => ?_) (fun hc => ?_)
    · replace h := h.1 hc
      refine e_iconst C (v := (0 : Int32)) (by decide) dX7_law_48 (pc' := 49) rfl ?_
      refine e_istore_n C (by decide) dX7_law_49 (pc' := 50) rfl (lv' := [some (.ref p0), some (.int (0 : Int32)), none, none]) rfl ?_
      refine e_aload_n C (x := p0) rfl dX7_law_50 (pc' := 51) rfl ?_
      obtain ⟨hv, h⟩ := h
      refine e_calli (run_V (n := 0) C (m_X7_readTerm hst h) gX7_law_X7_readTerm rfl ⟨rfl, by decide, by decide, by decide +kernel⟩ ⟨by decide, by decide⟩ (ci := 7) rfl rfl hv rfl (Nat.le_of_ble_eq_true rfl) dX7_law_51 ⟨by decide, by decide⟩ (As := []) rfl) (pc' := 54) rfl (cn' := 0) (sn' := 0) rfl rfl (fun v2 ws h => ?_)
      refine e_istore_n C (by decide) dX7_law_54 (pc' := 55) rfl (lv' := [some (.ref p0), some (.int (0 : Int32)), some (.int v2), none]) rfl ?_
      exact h
    · replace h := h.2 hc
      refine e_aload_n C (x := p0) rfl dX7_law_30 (pc' := 31) rfl ?_
      refine f_getR C (ci := 7) (CN := RX7) (TT := TX7) (N := 36) 22 dX7_law_31 (pc' := 34) rfl in_X7_law_X7 rfl (by decide) fl_X7_law_60 h (fun v3 h => ?_)
      refine e_iload_n C (x := x1) rfl dX7_law_34 (pc' := 35) rfl ?_
      refine e_aload_n C (x := p0) rfl dX7_law_35 (pc' := 36) rfl ?_
      refine f_getR C (ci := 7) (CN := RX7) (TT := TX7) (N := 36) 21 dX7_law_36 (pc' := 39) rfl in_X7_law_X7 rfl (by decide) fl_X7_law_57 h (fun v4 h => ?_)
      refine e_iload_n C (x := x1) rfl dX7_law_39 (pc' := 40) rfl ?_
      refine f_iaload C dX7_law_40 (pc' := 41) rfl h (fun v5 h => ?_)
      refine f_iastore C dX7_law_41 (pc' := 42) rfl h (fun ws h => ?_)
      refine e_iinc C dX7_law_42 (x := x1) (v := (x1 + (1 : Int32))) rfl rfl (by decide) (pc' := 45) rfl (lv' := [some (.ref p0), some (.int (x1 + (1 : Int32))), none, none]) rfl ?_
      refine e_goto C (tg := 25) dX7_law_45 (by decide) ?_
      exact h)
  replace h := h (by
    intro x1 x2 ws h
    show Ev K G 4 0 0 55 [some (.ref p0), some (.int x1), some (.int x2), none] [] ws
    refine e_iload_n C (x := x2) rfl dX7_law_55 (pc' := 56) rfl ?_
    refine e_if_eq C (tg := 114) dX7_law_56 (by decide) (pc' := 59) rfl (fun hc => ?_) (fun hc => ?_)
    · replace h := h.1 hc
      exact h
    · replace h := h.2 hc
      refine e_iinc C dX7_law_59 (x := x1) (v := (x1 + (1 : Int32))) rfl rfl (by decide) (pc' := 62) rfl (lv' := [some (.ref p0), some (.int (x1 + (1 : Int32))), some (.int x2), none]) rfl ?_
      refine e_aload_n C (x := p0) rfl dX7_law_62 (pc' := 63) rfl ?_
      obtain ⟨hv, h⟩ := h
      refine e_callv (run_V (n := 0) C (m_X7_blanks hst h) gX7_law_X7_blanks rfl ⟨rfl, by decide, by decide, by decide +kernel⟩ ⟨by decide, by decide⟩ (ci := 7) rfl rfl hv rfl (Nat.le_of_ble_eq_true rfl) dX7_law_63 ⟨by decide, by decide⟩ (As := []) rfl) (pc' := 66) rfl (cn' := 0) (sn' := 0) rfl rfl (fun ws h => ?_)
      refine e_aload_n C (x := p0) rfl dX7_law_66 (pc' := 67) rfl ?_
      refine f_getI C (ci := 7) (CN := RX7) (TT := TX7) (N := 36) 25 dX7_law_67 (pc' := 70) rfl in_X7_law_X7 rfl (by decide) fl_X7_law_176 h (fun v7 h => ?_)
      refine e_aload_n C (x := p0) rfl dX7_law_70 (pc' := 71) rfl ?_
      refine f_getI C (ci := 7) (CN := RX7) (TT := TX7) (N := 36) 26 dX7_law_71 (pc' := 74) rfl in_X7_law_X7 rfl (by decide) fl_X7_law_179 h (fun v8 h => ?_)
      refine e_icmp_ne C (tg := 80) dX7_law_74 (by decide) (pc' := 77) rfl (fun hc => ?_) (fun hc => ?_)
      · replace h := h.1 hc
        refine e_aload_n C (x := p0) rfl dX7_law_80 (pc' := 81) rfl ?_
        refine e_bipush C (v := (59 : Int32)) (by decide) dX7_law_81 (pc' := 83) rfl ?_
        refine e_bipush C (v := (59 : Int32)) (by decide) dX7_law_83 (pc' := 85) rfl ?_
        obtain ⟨hv, h⟩ := h
        refine e_calli (run_V (n := 2) C (m_X7_isAt hst h) gX7_law_X7_isAt rfl ⟨rfl, by decide, by decide, by decide +kernel⟩ ⟨by decide, by decide⟩ (ci := 7) rfl rfl hv rfl (Nat.le_of_ble_eq_true rfl) dX7_law_85 ⟨by decide, by decide⟩ (As := [.int (59 : Int32), .int (59 : Int32)]) rfl) (pc' := 88) rfl (cn' := 0) (sn' := 0) rfl rfl (fun v9 ws h => ?_)
        refine e_istore_n C (by decide) dX7_law_88 (pc' := 89) rfl (lv' := [some (.ref p0), some (.int (x1 + (1 : Int32))), some (.int v9), none]) rfl ?_
        refine e_iload_n C (x := v9) rfl dX7_law_89 (pc' := 90) rfl ?_
        refine e_if_ne C (tg := 96) dX7_law_90 (by decide) (pc' := 93) rfl (fun hc => ?_) (fun hc => ?_)
        · replace h := h.1 hc
          refine e_aload_n C (x := p0) rfl dX7_law_96 (pc' := 97) rfl ?_
          refine e_dup C rfl dX7_law_97 (pc' := 98) rfl ?_
          refine f_getI C (ci := 7) (CN := RX7) (TT := TX7) (N := 36) 25 dX7_law_98 (pc' := 101) rfl in_X7_law_X7 rfl (by decide) fl_X7_law_176 h (fun v10 h => ?_)
          refine e_iconst C (v := (1 : Int32)) (by decide) dX7_law_101 (pc' := 102) rfl ?_
          refine e_iadd C dX7_law_102 (pc' := 103) rfl ?_
          refine f_putI C (ci := 7) (CN := RX7) (TT := TX7) (N := 36) 25 tyX7 dX7_law_103 (pc' := 106) rfl in_X7_law_X7 tyX7_ok nmX7 rfl (by decide) fl_X7_law_176 rfl (by decide +kernel) h (fun ws h => ?_)
          refine e_aload_n C (x := p0) rfl dX7_law_106 (pc' := 107) rfl ?_
          obtain ⟨hv, h⟩ := h
          refine e_calli (run_V (n := 0) C (m_X7_readTerm hst h) gX7_law_X7_readTerm rfl ⟨rfl, by decide, by decide, by decide +kernel⟩ ⟨by decide, by decide⟩ (ci := 7) rfl rfl hv rfl (Nat.le_of_ble_eq_true rfl) dX7_law_107 ⟨by decide, by decide⟩ (As := []) rfl) (pc' := 110) rfl (cn' := 0) (sn' := 0) rfl rfl (fun v11 ws h => ?_)
          refine e_istore_n C (by decide) dX7_law_110 (pc' := 111) rfl (lv' := [some (.ref p0), some (.int (x1 + (1 : Int32))), some (.int v11), none]) rfl ?_
          refine e_goto C (tg := 55) dX7_law_111 (by decide) ?_
          exact h
        · replace h := h.2 hc
          refine e_goto C (tg := 114) dX7_law_93 (by decide) ?_
          exact h
      · replace h := h.2 hc
        refine e_goto C (tg := 114) dX7_law_77 (by decide) ?_
        exact h)
  replace h := h (by
    intro x1 x2 ws h
    show Ev K G 4 0 0 114 [some (.ref p0), some (.int x1), some (.int x2), none] [] ws
    refine e_aload_n C (x := p0) rfl dX7_law_114 (pc' := 115) rfl ?_
    refine e_iload_n C (x := x2) rfl dX7_law_115 (pc' := 116) rfl ?_
    refine e_if_eq C (tg := 123) dX7_law_116 (by decide) (pc' := 119) rfl (fun hc => ?_) (fun hc => ?_)
    · replace h := h.1 hc
      refine e_aload_n C (x := p0) rfl dX7_law_123 (pc' := 124) rfl ?_
      refine f_getI C (ci := 7) (CN := RX7) (TT := TX7) (N := 36) 27 dX7_law_124 (pc' := 127) rfl in_X7_law_X7 rfl (by decide) fl_X7_law_185 h (fun v12 h => ?_)
      exact h
    · replace h := h.2 hc
      refine e_iconst C (v := (-1 : Int32)) (by decide) dX7_law_119 (pc' := 120) rfl ?_
      refine e_goto C (tg := 127) dX7_law_120 (by decide) ?_
      exact h)
  replace h := h (by
    intro x1 x2 t0 t1 ws h
    show Ev K G 4 0 0 127 [some (.ref p0), some (.int x1), some (.int x2), none] [.int t0, .ref t1] ws
    refine f_putI C (ci := 7) (CN := RX7) (TT := TX7) (N := 36) 28 tyX7 dX7_law_127 (pc' := 130) rfl in_X7_law_X7 tyX7_ok nmX7 rfl (by decide) fl_X7_law_67 rfl (by decide +kernel) h (fun ws h => ?_)
    refine e_aload_n C (x := p0) rfl dX7_law_130 (pc' := 131) rfl ?_
    refine e_iload_n C (x := x2) rfl dX7_law_131 (pc' := 132) rfl ?_
    refine e_if_ne C (tg := 139) dX7_law_132 (by decide) (pc' := 135) rfl (fun hc => ?_) (fun hc => ?_)
    · replace h := h.1 hc
      refine e_iconst C (v := (0 : Int32)) (by decide) dX7_law_139 (pc' := 140) rfl ?_
      refine e_mask [true, true, false, false] (lv' := [some (.ref p0), some (.int x1), none, none]) rfl ?_
      exact h
    · replace h := h.2 hc
      refine e_iconst C (v := (1 : Int32)) (by decide) dX7_law_135 (pc' := 136) rfl ?_
      refine e_goto C (tg := 140) dX7_law_136 (by decide) ?_
      refine e_mask [true, true, false, false] (lv' := [some (.ref p0), some (.int x1), none, none]) rfl ?_
      exact h)
  replace h := h (by
    intro x1 t0 t1 ws h
    show Ev K G 4 0 0 140 [some (.ref p0), some (.int x1), none, none] [.int t0, .ref t1] ws
    refine e_iconst C (v := (1 : Int32)) (by decide) dX7_law_140 (pc' := 141) rfl ?_
    obtain ⟨hv, h⟩ := h
    refine e_calli (run_V (n := 2) C (m_X7_throwsIf hst h) gX7_law_X7_throwsIf rfl ⟨rfl, by decide, by decide, by decide +kernel⟩ ⟨by decide, by decide⟩ (ci := 7) rfl rfl hv rfl (Nat.le_of_ble_eq_true rfl) dX7_law_141 ⟨by decide, by decide⟩ (As := [.int t0, .int (1 : Int32)]) rfl) (pc' := 144) rfl (cn' := 0) (sn' := 0) rfl rfl (fun v13 ws h => ?_)
    refine e_if_eq C (tg := 149) dX7_law_144 (by decide) (pc' := 147) rfl (fun hc => ?_) (fun hc => ?_)
    · replace h := h.1 hc
      refine e_iconst C (v := (0 : Int32)) (by decide) dX7_law_149 (pc' := 150) rfl ?_
      refine e_istore_n C (by decide) dX7_law_150 (pc' := 151) rfl (lv' := [some (.ref p0), some (.int x1), none, some (.int (0 : Int32))]) rfl ?_
      exact h
    · replace h := h.2 hc
      refine e_iconst C (v := (0 : Int32)) (by decide) dX7_law_147 (pc' := 148) rfl ?_
      exact r_int C F dX7_law_148 (by decide) (by decide) h)
  replace h := h (by
    intro x1 x3 ws h
    show Ev K G 4 0 0 151 [some (.ref p0), some (.int x1), none, some (.int x3)] [] ws
    refine e_iload_n C (x := x3) rfl dX7_law_151 (pc' := 152) rfl ?_
    refine e_iconst C (v := (4 : Int32)) (by decide) dX7_law_152 (pc' := 153) rfl ?_
    refine e_icmp_ge C (tg := 174) dX7_law_153 (by decide) (pc' := 156) rfl (fun hc => ?_) (fun hc => ?_)
    · replace h := h.1 hc
      refine e_iload_n C (x := x1) rfl dX7_law_174 (pc' := 175) rfl ?_
      exact r_int C F dX7_law_175 (by decide) (by decide) h
    · replace h := h.2 hc
      refine e_aload_n C (x := p0) rfl dX7_law_156 (pc' := 157) rfl ?_
      refine f_getR C (ci := 7) (CN := RX7) (TT := TX7) (N := 36) 21 dX7_law_157 (pc' := 160) rfl in_X7_law_X7 rfl (by decide) fl_X7_law_57 h (fun v14 h => ?_)
      refine e_iload_n C (x := x3) rfl dX7_law_160 (pc' := 161) rfl ?_
      refine e_aload_n C (x := p0) rfl dX7_law_161 (pc' := 162) rfl ?_
      refine f_getR C (ci := 7) (CN := RX7) (TT := TX7) (N := 36) 22 dX7_law_162 (pc' := 165) rfl in_X7_law_X7 rfl (by decide) fl_X7_law_60 h (fun v15 h => ?_)
      refine e_iload_n C (x := x3) rfl dX7_law_165 (pc' := 166) rfl ?_
      refine f_iaload C dX7_law_166 (pc' := 167) rfl h (fun v16 h => ?_)
      refine f_iastore C dX7_law_167 (pc' := 168) rfl h (fun ws h => ?_)
      refine e_iinc C dX7_law_168 (x := x3) (v := (x3 + (1 : Int32))) rfl rfl (by decide) (pc' := 171) rfl (lv' := [some (.ref p0), some (.int x1), none, some (.int (x3 + (1 : Int32)))]) rfl ?_
      refine e_goto C (tg := 151) dX7_law_171 (by decide) ?_
      exact h)
  refine e_aload_n C (x := p0) rfl dX7_law_0 (pc' := 1) rfl ?_
  refine e_iconst C (v := (0 : Int32)) (by decide) dX7_law_1 (pc' := 2) rfl ?_
  refine f_putI C (ci := 7) (CN := RX7) (TT := TX7) (N := 36) 0 tyX7 dX7_law_2 (pc' := 5) rfl in_X7_law_X7 tyX7_ok nmX7 rfl (by decide) fl_X7_law_88 rfl (by decide +kernel) h (fun ws h => ?_)
  refine e_aload_n C (x := p0) rfl dX7_law_5 (pc' := 6) rfl ?_
  refine e_aload_n C (x := p0) rfl dX7_law_6 (pc' := 7) rfl ?_
  refine f_getI C (ci := 7) (CN := RX7) (TT := TX7) (N := 36) 24 dX7_law_7 (pc' := 10) rfl in_X7_law_X7 rfl (by decide) fl_X7_law_173 h (fun v1 h => ?_)
  refine f_putI C (ci := 7) (CN := RX7) (TT := TX7) (N := 36) 26 tyX7 dX7_law_10 (pc' := 13) rfl in_X7_law_X7 tyX7_ok nmX7 rfl (by decide) fl_X7_law_179 rfl (by decide +kernel) h (fun ws h => ?_)
  refine e_aload_n C (x := p0) rfl dX7_law_13 (pc' := 14) rfl ?_
  refine e_iconst C (v := (0 : Int32)) (by decide) dX7_law_14 (pc' := 15) rfl ?_
  refine f_putI C (ci := 7) (CN := RX7) (TT := TX7) (N := 36) 24 tyX7 dX7_law_15 (pc' := 18) rfl in_X7_law_X7 tyX7_ok nmX7 rfl (by decide) fl_X7_law_173 rfl (by decide +kernel) h (fun ws h => ?_)
  refine e_aload_n C (x := p0) rfl dX7_law_18 (pc' := 19) rfl ?_
  refine e_iconst C (v := (0 : Int32)) (by decide) dX7_law_19 (pc' := 20) rfl ?_
  refine f_putI C (ci := 7) (CN := RX7) (TT := TX7) (N := 36) 25 tyX7 dX7_law_20 (pc' := 23) rfl in_X7_law_X7 tyX7_ok nmX7 rfl (by decide) fl_X7_law_176 rfl (by decide +kernel) h (fun ws h => ?_)
  refine e_iconst C (v := (0 : Int32)) (by decide) dX7_law_23 (pc' := 24) rfl ?_
  refine e_istore_n C (by decide) dX7_law_24 (pc' := 25) rfl (lv' := [some (.ref p0), some (.int (0 : Int32)), none, none]) rfl ?_
  exact h
abbrev rm_X7_fault : Room := { frames := 0, cells := 0, slots := 0, locals := 0 }
set_option maxRecDepth 20000 in
theorem in_X7_fault_X7 : ∀ w ∈ wsX70, w ∈ wsX7_fault := by decide +kernel
set_option maxRecDepth 20000 in
theorem fl_X7_fault_88 : Cond.fieldLink RX7 88 (TX7 0).1 (TX7 0).2.1 (TX7 0).2.2.1 ∈ wsX7_fault := by decide +kernel
set_option maxRecDepth 20000 in
theorem fl_X7_fault_67 : Cond.fieldLink RX7 67 (TX7 28).1 (TX7 28).2.1 (TX7 28).2.2.1 ∈ wsX7_fault := by decide +kernel
def F_X7_fault (G : Gx) (p0 : Nat) (ws : va_W) (Q : Int32 → va_W → Prop) : Prop := qP 7 0 p0 (.int (0 : Int32)) ws (fun ws => qI 7 28 p0 ws (fun v1 => Q v1 ws))
set_option maxRecDepth 20000 in
set_option maxHeartbeats 4000000 in
theorem m_X7_fault {G : Gx} (hst : (gl G).stackTraces = false) {p0 : Nat} {ws : va_W} {Q : Int32 → va_W → Prop} (h : F_X7_fault G p0 ws Q) : Mt G yX7_fault wsX7_fault rm_X7_fault [.ref p0] ws (QtI G Q) := by
  refine mk_Mt (cc := cX7_fault) (nL := 1) (own := RX7) (ret := (some .int)) (lv0 := [some (.ref p0)]) hst (by decide) rfl rfl (Nat.le_of_ble_eq_true rfl) rfl ?_
  intro K C F
  refine e_aload_n C (x := p0) rfl dX7_fault_0 (pc' := 1) rfl ?_
  refine e_iconst C (v := (0 : Int32)) (by decide) dX7_fault_1 (pc' := 2) rfl ?_
  refine f_putI C (ci := 7) (CN := RX7) (TT := TX7) (N := 36) 0 tyX7 dX7_fault_2 (pc' := 5) rfl in_X7_fault_X7 tyX7_ok nmX7 rfl (by decide) fl_X7_fault_88 rfl (by decide +kernel) h (fun ws h => ?_)
  refine e_aload_n C (x := p0) rfl dX7_fault_5 (pc' := 6) rfl ?_
  refine f_getI C (ci := 7) (CN := RX7) (TT := TX7) (N := 36) 28 dX7_fault_6 (pc' := 9) rfl in_X7_fault_X7 rfl (by decide) fl_X7_fault_67 h (fun v1 h => ?_)
  exact r_int C F dX7_fault_9 (by decide) (by decide) h
abbrev rm_X7_says : Room := { frames := 1, cells := 0, slots := 0, locals := 22 }
set_option maxRecDepth 20000 in
theorem in_X7_says_X7 : ∀ w ∈ wsX70, w ∈ wsX7_says := by decide +kernel
set_option maxRecDepth 20000 in
theorem fl_X7_says_88 : Cond.fieldLink RX7 88 (TX7 0).1 (TX7 0).2.1 (TX7 0).2.2.1 ∈ wsX7_says := by decide +kernel
set_option maxRecDepth 20000 in
theorem fl_X7_says_57 : Cond.fieldLink RX7 57 (TX7 21).1 (TX7 21).2.1 (TX7 21).2.2.1 ∈ wsX7_says := by decide +kernel
def F_X7_says (G : Gx) (p0 : Nat) (p1 : Int32) (ws : va_W) (Q : Int32 → va_W → Prop) : Prop := ∀ (J20 : Int32 → Nat → va_W → Prop), (∀ (t0 : Int32) (t1 : Nat) (ws : va_W), (qV 7 t1 ws ∧ F_X7_throwsIf G t1 t0 (1 : Int32) ws (fun v2 ws => ((v2 = 0 → qR 7 21 p0 ws (fun v3 => qA (gc G 1) v3 p1 ws (fun v4 => Q v4 ws))) ∧ (¬ v2 = 0 → Q (0 : Int32) ws)))) → J20 t0 t1 ws) → qP 7 0 p0 (.int (0 : Int32)) ws (fun ws => (F_X7_in G p1 (0 : Int32) (3 : Int32) ws (fun v1 ws => ((¬ v1 = 0 → J20 (0 : Int32) p0 ws) ∧ (v1 = 0 → J20 (1 : Int32) p0 ws)))))
set_option maxRecDepth 20000 in
set_option maxHeartbeats 4000000 in
theorem m_X7_says {G : Gx} (hst : (gl G).stackTraces = false) {p0 : Nat} {p1 : Int32} {ws : va_W} {Q : Int32 → va_W → Prop} (h : F_X7_says G p0 p1 ws Q) : Mt G yX7_says wsX7_says rm_X7_says [.ref p0, .int p1] ws (QtI G Q) := by
  refine mk_Mt (cc := cX7_says) (nL := 2) (own := RX7) (ret := (some .int)) (lv0 := [some (.ref p0), some (.int p1)]) hst (by decide) rfl rfl (Nat.le_of_ble_eq_true rfl) rfl ?_
  intro K C F
  replace h := h (fun t0 t1 ws => Ev K G 2 0 0 20 [some (.ref p0), some (.int p1)] [.int t0, .ref t1] ws)
  replace h := h (by
    intro t0 t1 ws h
    show Ev K G 2 0 0 20 [some (.ref p0), some (.int p1)] [.int t0, .ref t1] ws
    refine e_iconst C (v := (1 : Int32)) (by decide) dX7_says_20 (pc' := 21) rfl ?_
    obtain ⟨hv, h⟩ := h
    refine e_calli (run_V (n := 2) C (m_X7_throwsIf hst h) gX7_says_X7_throwsIf rfl ⟨rfl, by decide, by decide, by decide +kernel⟩ ⟨by decide, by decide⟩ (ci := 7) rfl rfl hv rfl (Nat.le_of_ble_eq_true rfl) dX7_says_21 ⟨by decide, by decide⟩ (As := [.int t0, .int (1 : Int32)]) rfl) (pc' := 24) rfl (cn' := 0) (sn' := 0) rfl rfl (fun v2 ws h => ?_)
    refine e_if_eq C (tg := 31) dX7_says_24 (by decide) (pc' := 27) rfl (fun hc => ?_) (fun hc => ?_)
    · replace h := h.1 hc
      refine e_aload_n C (x := p0) rfl dX7_says_31 (pc' := 32) rfl ?_
      refine f_getR C (ci := 7) (CN := RX7) (TT := TX7) (N := 36) 21 dX7_says_32 (pc' := 35) rfl in_X7_says_X7 rfl (by decide) fl_X7_says_57 h (fun v3 h => ?_)
      refine e_iload_n C (x := p1) rfl dX7_says_35 (pc' := 36) rfl ?_
      refine f_iaload C dX7_says_36 (pc' := 37) rfl h (fun v4 h => ?_)
      exact r_int C F dX7_says_37 (by decide) (by decide) h
    · replace h := h.2 hc
      refine e_iconst C (v := (0 : Int32)) (by decide) dX7_says_27 (pc' := 28) rfl ?_
      refine e_goto C (tg := 37) dX7_says_28 (by decide) ?_
      exact r_int C F dX7_says_37 (by decide) (by decide) h)
  refine e_aload_n C (x := p0) rfl dX7_says_0 (pc' := 1) rfl ?_
  refine e_iconst C (v := (0 : Int32)) (by decide) dX7_says_1 (pc' := 2) rfl ?_
  refine f_putI C (ci := 7) (CN := RX7) (TT := TX7) (N := 36) 0 tyX7 dX7_says_2 (pc' := 5) rfl in_X7_says_X7 tyX7_ok nmX7 rfl (by decide) fl_X7_says_88 rfl (by decide +kernel) h (fun ws h => ?_)
  refine e_aload_n C (x := p0) rfl dX7_says_5 (pc' := 6) rfl ?_
  refine e_iload_n C (x := p1) rfl dX7_says_6 (pc' := 7) rfl ?_
  refine e_iconst C (v := (0 : Int32)) (by decide) dX7_says_7 (pc' := 8) rfl ?_
  refine e_iconst C (v := (3 : Int32)) (by decide) dX7_says_8 (pc' := 9) rfl ?_
  refine e_calli (run_S (n := 3) C (m_X7_in hst h) gX7_says_X7_in rfl ⟨rfl, by decide, by decide, by decide +kernel⟩ ⟨by decide, by decide⟩ rfl (Nat.le_of_ble_eq_true rfl) dX7_says_9 ⟨by decide, by decide⟩ (As := [.int p1, .int (0 : Int32), .int (3 : Int32)]) rfl) (pc' := 12) rfl (cn' := 0) (sn' := 0) rfl rfl (fun v1 ws h => ?_)
  refine e_if_ne C (tg := 19) dX7_says_12 (by decide) (pc' := 15) rfl (fun hc => ?_) (fun hc => ?_)
  · replace h := h.1 hc
    refine e_iconst C (v := (0 : Int32)) (by decide) dX7_says_19 (pc' := 20) rfl ?_
    exact h
  · replace h := h.2 hc
    refine e_iconst C (v := (1 : Int32)) (by decide) dX7_says_15 (pc' := 16) rfl ?_
    refine e_goto C (tg := 20) dX7_says_16 (by decide) ?_
    exact h
abbrev rm_X7_portion : Room := { frames := 0, cells := 0, slots := 0, locals := 0 }
set_option maxRecDepth 20000 in
theorem in_X7_portion_X7 : ∀ w ∈ wsX70, w ∈ wsX7_portion := by decide +kernel
set_option maxRecDepth 20000 in
theorem fl_X7_portion_57 : Cond.fieldLink RX7 57 (TX7 21).1 (TX7 21).2.1 (TX7 21).2.2.1 ∈ wsX7_portion := by decide +kernel
set_option maxRecDepth 20000 in
theorem fl_X7_portion_73 : Cond.fieldLink RX7 73 (TX7 30).1 (TX7 30).2.1 (TX7 30).2.2.1 ∈ wsX7_portion := by decide +kernel
set_option maxRecDepth 20000 in
theorem fl_X7_portion_30 : Cond.fieldLink RX7 30 (TX7 9).1 (TX7 9).2.1 (TX7 9).2.2.1 ∈ wsX7_portion := by decide +kernel
def F_X7_portion (G : Gx) (p0 : Nat) (p1 : Int64) (p2 : Int32) (p3 : Int32) (p4 : Int32) (ws : va_W) (Q : Int64 → va_W → Prop) : Prop := qR 7 21 p0 ws (fun v1 => qA (gc G 1) v1 (2 : Int32) ws (fun v2 => ((¬ v2 = (1 : Int32) → qR 7 30 p0 ws (fun v3 => qA (gc G 1) v3 p2 ws (fun v4 => qR 7 9 p0 ws (fun v5 => qA (gc G 1) v5 p3 ws (fun v6 => (¬ v6.toInt64 = 0 ∧ (Q ((p1 * v4.toInt64) / v6.toInt64) ws))))))) ∧ (v2 = (1 : Int32) → (¬ p4.toInt64 = 0 ∧ (Q (p1 / p4.toInt64) ws))))))
set_option maxRecDepth 20000 in
set_option maxHeartbeats 4000000 in
theorem m_X7_portion {G : Gx} (hst : (gl G).stackTraces = false) {p0 : Nat} {p1 : Int64} {p2 : Int32} {p3 : Int32} {p4 : Int32} {ws : va_W} {Q : Int64 → va_W → Prop} (h : F_X7_portion G p0 p1 p2 p3 p4 ws Q) : Mt G yX7_portion wsX7_portion rm_X7_portion [.ref p0, .long p1, .int p2, .int p3, .int p4] ws (QtL G Q) := by
  refine mk_Mt (cc := cX7_portion) (nL := 6) (own := RX7) (ret := (some .long)) (lv0 := [some (.ref p0), some (.long p1), none, some (.int p2), some (.int p3), some (.int p4)]) hst (by decide) rfl rfl (Nat.le_of_ble_eq_true rfl) rfl ?_
  intro K C F
  refine e_aload_n C (x := p0) rfl dX7_portion_0 (pc' := 1) rfl ?_
  refine f_getR C (ci := 7) (CN := RX7) (TT := TX7) (N := 36) 21 dX7_portion_1 (pc' := 4) rfl in_X7_portion_X7 rfl (by decide) fl_X7_portion_57 h (fun v1 h => ?_)
  refine e_iconst C (v := (2 : Int32)) (by decide) dX7_portion_4 (pc' := 5) rfl ?_
  refine f_iaload C dX7_portion_5 (pc' := 6) rfl h (fun v2 h => ?_)
  refine e_iconst C (v := (1 : Int32)) (by decide) dX7_portion_6 (pc' := 7) rfl ?_
  refine e_icmp_ne C (tg := 18) dX7_portion_7 (by decide) (pc' := 10) rfl (fun hc => ?_) (fun hc => ?_)
  · replace h := h.1 hc
    refine e_lload_n C (x := p1) rfl dX7_portion_18 (pc' := 19) rfl ?_
    refine e_aload_n C (x := p0) rfl dX7_portion_19 (pc' := 20) rfl ?_
    refine f_getR C (ci := 7) (CN := RX7) (TT := TX7) (N := 36) 30 dX7_portion_20 (pc' := 23) rfl in_X7_portion_X7 rfl (by decide) fl_X7_portion_73 h (fun v3 h => ?_)
    refine e_iload_n C (x := p2) rfl dX7_portion_23 (pc' := 24) rfl ?_
    refine f_iaload C dX7_portion_24 (pc' := 25) rfl h (fun v4 h => ?_)
    refine e_i2l C dX7_portion_25 (pc' := 26) rfl ?_
    refine e_lmul C dX7_portion_26 (pc' := 27) rfl ?_
    refine e_aload_n C (x := p0) rfl dX7_portion_27 (pc' := 28) rfl ?_
    refine f_getR C (ci := 7) (CN := RX7) (TT := TX7) (N := 36) 9 dX7_portion_28 (pc' := 31) rfl in_X7_portion_X7 rfl (by decide) fl_X7_portion_30 h (fun v5 h => ?_)
    refine e_iload C (x := p3) rfl dX7_portion_31 (pc' := 33) rfl ?_
    refine f_iaload C dX7_portion_33 (pc' := 34) rfl h (fun v6 h => ?_)
    refine e_i2l C dX7_portion_34 (pc' := 35) rfl ?_
    obtain ⟨hz, h⟩ := h
    refine e_ldiv C hz dX7_portion_35 (pc' := 36) rfl ?_
    exact r_long C F dX7_portion_36 (by decide) (by decide) h
  · replace h := h.2 hc
    refine e_lload_n C (x := p1) rfl dX7_portion_10 (pc' := 11) rfl ?_
    refine e_iload C (x := p4) rfl dX7_portion_11 (pc' := 13) rfl ?_
    refine e_i2l C dX7_portion_13 (pc' := 14) rfl ?_
    obtain ⟨hz, h⟩ := h
    refine e_ldiv C hz dX7_portion_14 (pc' := 15) rfl ?_
    refine e_goto C (tg := 36) dX7_portion_15 (by decide) ?_
    exact r_long C F dX7_portion_36 (by decide) (by decide) h
abbrev rm_X7_pays : Room := { frames := 2, cells := 0, slots := 0, locals := 43 }
set_option maxRecDepth 20000 in
theorem in_X7_pays_X7 : ∀ w ∈ wsX70, w ∈ wsX7_pays := by decide +kernel
set_option maxRecDepth 20000 in
theorem fl_X7_pays_88 : Cond.fieldLink RX7 88 (TX7 0).1 (TX7 0).2.1 (TX7 0).2.2.1 ∈ wsX7_pays := by decide +kernel
set_option maxRecDepth 20000 in
theorem fl_X7_pays_20 : Cond.fieldLink RX7 20 (TX7 6).1 (TX7 6).2.1 (TX7 6).2.2.1 ∈ wsX7_pays := by decide +kernel
set_option maxRecDepth 20000 in
theorem w_X7_pays_c226 : Cond.constant RX7 226 (1000000 : Int32) ∈ wsX7_pays := by decide +kernel
set_option maxRecDepth 20000 in
theorem fl_X7_pays_73 : Cond.fieldLink RX7 73 (TX7 30).1 (TX7 30).2.1 (TX7 30).2.2.1 ∈ wsX7_pays := by decide +kernel
set_option maxRecDepth 20000 in
theorem fl_X7_pays_102 : Cond.fieldLink RX7 102 (TX7 17).1 (TX7 17).2.1 (TX7 17).2.2.1 ∈ wsX7_pays := by decide +kernel
set_option maxRecDepth 20000 in
theorem fl_X7_pays_45 : Cond.fieldLink RX7 45 (TX7 16).1 (TX7 16).2.1 (TX7 16).2.2.1 ∈ wsX7_pays := by decide +kernel
set_option maxRecDepth 20000 in
theorem fl_X7_pays_57 : Cond.fieldLink RX7 57 (TX7 21).1 (TX7 21).2.1 (TX7 21).2.2.1 ∈ wsX7_pays := by decide +kernel
set_option maxRecDepth 20000 in
theorem w_X7_pays_c227 : Cond.constantLong RX7 227 (100 : Int64) ∈ wsX7_pays := by decide +kernel
def F_X7_pays (G : Gx) (p0 : Nat) (p1 : Int32) (p2 : Int32) (p3 : Int32) (ws : va_W) (Q : Int32 → va_W → Prop) : Prop := ∀ (J33 : Int32 → Nat → va_W → Prop), ∀ (J58 : Nat → va_W → Prop), ∀ (J63 : Int32 → Nat → va_W → Prop), ∀ (J75 : Int32 → va_W → Prop), ∀ (J99 : Int32 → va_W → Prop), ∀ (J193 : Int32 → Int32 → Int32 → va_W → Prop), ∀ (J167 : Int32 → va_W → Prop), ∀ (J264 : Int32 → Int32 → Int64 → Int64 → Int32 → va_W → Prop), ∀ (J229 : Int32 → Int32 → Int32 → Int32 → va_W → Prop), ∀ (J232 : Int32 → Int32 → Int32 → va_W → Prop), ∀ (J327 : Int64 → Int64 → va_W → Prop), ∀ (J297 : Int32 → Int32 → Int64 → Int64 → Int32 → va_W → Prop), (∀ (t0 : Int32) (t1 : Nat) (ws : va_W), (qV 7 t1 ws ∧ F_X7_throwsIf G t1 t0 (2 : Int32) ws (fun v5 ws => ((¬ v5 = 0 → Q (0 : Int32) ws) ∧ (v5 = 0 → (F_X7_noOwner G p2 ws (fun v6 ws => ((¬ v6 = 0 → J58 p0 ws) ∧ (v6 = 0 → (F_X7_in G p3 (0 : Int32) (1000000 : Int32) ws (fun v7 ws => ((¬ v7 = 0 → J63 (0 : Int32) p0 ws) ∧ (v7 = 0 → J58 p0 ws)))))))))))) → J33 t0 t1 ws) → (∀ (t0 : Nat) (ws : va_W), J63 (1 : Int32) t0 ws → J58 t0 ws) → (∀ (t0 : Int32) (t1 : Nat) (ws : va_W), (qV 7 t1 ws ∧ F_X7_throwsIf G t1 t0 (3 : Int32) ws (fun v8 ws => ((v8 = 0 → J75 (0 : Int32) ws) ∧ (¬ v8 = 0 → Q (0 : Int32) ws)))) → J63 t0 t1 ws) → (∀ (x4 : Int32) (ws : va_W), (((31 : Int32) ≤ x4 → J99 (0 : Int32) ws) ∧ (¬ (31 : Int32) ≤ x4 → qR 7 30 p0 ws (fun v9 => qS (gc G 1) v9 x4 (0 : Int32) ws (fun ws => J75 (x4 + (1 : Int32)) ws)))) → J75 x4 ws) → (∀ (x4 : Int32) (ws : va_W), qI 7 17 p0 ws (fun v10 => ((v10 ≤ x4 → qR 7 30 p0 ws (fun v11 => qA (gc G 1) v11 p2 ws (fun v12 => ((¬ v12 = 0 → J193 (0 : Int32) (0 : Int32) (0 : Int32) ws) ∧ (v12 = 0 → Q (0 : Int32) ws))))) ∧ (¬ v10 ≤ x4 → qR 7 16 p0 ws (fun v13 => qA (gc G 1) v13 ((7 : Int32) * x4) ws (fun v14 => ((¬ v14 = p1 → J167 x4 ws) ∧ (v14 = p1 → qR 7 30 p0 ws (fun v15 => qR 7 16 p0 ws (fun v16 => qA (gc G 1) v16 (((7 : Int32) * x4) + (3 : Int32)) ws (fun v17 => qA (gc G 1) v15 v17 ws (fun v18 => qR 7 16 p0 ws (fun v19 => qA (gc G 1) v19 (((7 : Int32) * x4) + (2 : Int32)) ws (fun v20 => qR 7 16 p0 ws (fun v21 => qA (gc G 1) v21 (((7 : Int32) * x4) + (1 : Int32)) ws (fun v22 => qS (gc G 1) v15 v17 (v18 + (v20 - v22)) ws (fun ws => J167 x4 ws)))))))))))))))) → J99 x4 ws) → (∀ (x4 : Int32) (x5 : Int32) (x6 : Int32) (ws : va_W), (((31 : Int32) ≤ x6 → qR 7 21 p0 ws (fun v23 => qA (gc G 1) v23 (3 : Int32) ws (fun v24 => J264 x4 x5 (p3.toInt64 - ((p3.toInt64 * v24.toInt64) / (100 : Int64))) (p3.toInt64 - ((p3.toInt64 * v24.toInt64) / (100 : Int64))) (0 : Int32) ws))) ∧ (¬ (31 : Int32) ≤ x6 → qR 7 30 p0 ws (fun v25 => qA (gc G 1) v25 x6 ws (fun v26 => ((¬ v26 = 0 → ((p2 ≤ x6 → J229 (x4 + (1 : Int32)) x6 (0 : Int32) x5 ws) ∧ (¬ p2 ≤ x6 → J229 (x4 + (1 : Int32)) x6 (1 : Int32) x5 ws))) ∧ (v26 = 0 → J232 x4 x5 x6 ws)))))) → J193 x4 x5 x6 ws) → (∀ (x4 : Int32) (ws : va_W), J99 (x4 + (1 : Int32)) ws → J167 x4 ws) → (∀ (x4 : Int32) (x5 : Int32) (x6 : Int64) (x8 : Int64) (x10 : Int32) (ws : va_W), (((31 : Int32) ≤ x10 → (qV 7 p0 ws ∧ F_X7_portion G p0 x6 p2 p1 x4 ws (fun v27 ws => ((0 ≤ (lg_cmp x5.toInt64 x8) → J327 (0 : Int64) v27 ws) ∧ (¬ 0 ≤ (lg_cmp x5.toInt64 x8) → J327 (1 : Int64) v27 ws))))) ∧ (¬ (31 : Int32) ≤ x10 → qR 7 30 p0 ws (fun v28 => qA (gc G 1) v28 x10 ws (fun v29 => ((v29 ≤ 0 → J297 x4 x5 x6 x8 x10 ws) ∧ (¬ v29 ≤ 0 → (qV 7 p0 ws ∧ F_X7_portion G p0 x6 x10 p1 x4 ws (fun v30 ws => J297 x4 x5 x6 (x8 - v30) x10 ws)))))))) → J264 x4 x5 x6 x8 x10 ws) → (∀ (x4 : Int32) (x6 : Int32) (t0 : Int32) (t1 : Int32) (ws : va_W), J232 x4 (t1 + t0) x6 ws → J229 x4 x6 t0 t1 ws) → (∀ (x4 : Int32) (x5 : Int32) (x6 : Int32) (ws : va_W), J193 x4 x5 (x6 + (1 : Int32)) ws → J232 x4 x5 x6 ws) → (∀ (t0 : Int64) (t1 : Int64) (ws : va_W), Q ((t1 + t0).toInt32) ws → J327 t0 t1 ws) → (∀ (x4 : Int32) (x5 : Int32) (x6 : Int64) (x8 : Int64) (x10 : Int32) (ws : va_W), J264 x4 x5 x6 x8 (x10 + (1 : Int32)) ws → J297 x4 x5 x6 x8 x10 ws) → qP 7 0 p0 (.int (0 : Int32)) ws (fun ws => (qV 7 p0 ws ∧ F_X7_noChannel G p0 p1 ws (fun v1 ws => (qV 7 p0 ws ∧ F_X7_throwsIf G p0 v1 (1 : Int32) ws (fun v2 ws => ((¬ v2 = 0 → Q (0 : Int32) ws) ∧ (v2 = 0 → qR 7 6 p0 ws (fun v3 => qA (gc G 2) v3 p1 ws (fun v4 => ((¬ v4 = 0 → J33 (0 : Int32) p0 ws) ∧ (v4 = 0 → J33 (1 : Int32) p0 ws)))))))))))
set_option maxRecDepth 20000 in
set_option maxHeartbeats 4000000 in
theorem m_X7_pays {G : Gx} (hst : (gl G).stackTraces = false) {p0 : Nat} {p1 : Int32} {p2 : Int32} {p3 : Int32} {ws : va_W} {Q : Int32 → va_W → Prop} (h : F_X7_pays G p0 p1 p2 p3 ws Q) : Mt G yX7_pays wsX7_pays rm_X7_pays [.ref p0, .int p1, .int p2, .int p3] ws (QtI G Q) := by
  refine mk_Mt (cc := cX7_pays) (nL := 11) (own := RX7) (ret := (some .int)) (lv0 := [some (.ref p0), some (.int p1), some (.int p2), some (.int p3), none, none, none, none, none, none, none]) hst (by decide) rfl rfl (Nat.le_of_ble_eq_true rfl) rfl ?_
  intro K C F
  replace h := h (fun t0 t1 ws => Ev K G 11 0 0 33 [some (.ref p0), some (.int p1), some (.int p2), some (.int p3), none, none, none, none, none, none, none] [.int t0, .ref t1] ws) (fun t0 ws => Ev K G 11 0 0 58 [some (.ref p0), some (.int p1), some (.int p2), some (.int p3), none, none, none, none, none, none, none] [.ref t0] ws) (fun t0 t1 ws => Ev K G 11 0 0 63 [some (.ref p0), some (.int p1), some (.int p2), some (.int p3), none, none, none, none, none, none, none] [.int t0, .ref t1] ws) (fun x4 ws => Ev K G 11 0 0 75 [some (.ref p0), some (.int p1), some (.int p2), some (.int p3), some (.int x4), none, none, none, none, none, none] [] ws) (fun x4 ws => Ev K G 11 0 0 99 [some (.ref p0), some (.int p1), some (.int p2), some (.int p3), some (.int x4), none, none, none, none, none, none] [] ws) (fun x4 x5 x6 ws => Ev K G 11 0 0 193 [some (.ref p0), some (.int p1), some (.int p2), some (.int p3), some (.int x4), some (.int x5), some (.int x6), none, none, none, none] [] ws) (fun x4 ws => Ev K G 11 0 0 167 [some (.ref p0), some (.int p1), some (.int p2), some (.int p3), some (.int x4), none, none, none, none, none, none] [] ws) (fun x4 x5 x6 x8 x10 ws => Ev K G 11 0 0 264 [some (.ref p0), some (.int p1), some (.int p2), none, some (.int x4), some (.int x5), some (.long x6), none, some (.long x8), none, some (.int x10)] [] ws) (fun x4 x6 t0 t1 ws => Ev K G 11 0 0 229 [some (.ref p0), some (.int p1), some (.int p2), some (.int p3), some (.int x4), none, some (.int x6), none, none, none, none] [.int t0, .int t1] ws) (fun x4 x5 x6 ws => Ev K G 11 0 0 232 [some (.ref p0), some (.int p1), some (.int p2), some (.int p3), some (.int x4), some (.int x5), some (.int x6), none, none, none, none] [] ws) (fun t0 t1 ws => Ev K G 11 0 0 327 [none, none, none, none, none, none, none, none, none, none, none] [.long t0, .long t1] ws) (fun x4 x5 x6 x8 x10 ws => Ev K G 11 0 0 297 [some (.ref p0), some (.int p1), some (.int p2), none, some (.int x4), some (.int x5), some (.long x6), none, some (.long x8), none, some (.int x10)] [] ws)
  replace h := h (by
    intro t0 t1 ws h
    show Ev K G 11 0 0 33 [some (.ref p0), some (.int p1), some (.int p2), some (.int p3), none, none, none, none, none, none, none] [.int t0, .ref t1] ws
    refine e_iconst C (v := (2 : Int32)) (by decide) dX7_pays_33 (pc' := 34) rfl ?_
    obtain ⟨hv, h⟩ := h
    refine e_calli (run_V (n := 2) C (m_X7_throwsIf hst h) gX7_pays_X7_throwsIf rfl ⟨rfl, by decide, by decide, by decide +kernel⟩ ⟨by decide, by decide⟩ (ci := 7) rfl rfl hv rfl (Nat.le_of_ble_eq_true rfl) dX7_pays_34 ⟨by decide, by decide⟩ (As := [.int t0, .int (2 : Int32)]) rfl) (pc' := 37) rfl (cn' := 0) (sn' := 0) rfl rfl (fun v5 ws h => ?_)
    refine e_if_ne C (tg := 70) dX7_pays_37 (by decide) (pc' := 40) rfl (fun hc => ?_) (fun hc => ?_)
    · replace h := h.1 hc
      refine e_iconst C (v := (0 : Int32)) (by decide) dX7_pays_70 (pc' := 71) rfl ?_
      exact r_int C F dX7_pays_71 (by decide) (by decide) h
    · replace h := h.2 hc
      refine e_aload_n C (x := p0) rfl dX7_pays_40 (pc' := 41) rfl ?_
      refine e_iload_n C (x := p2) rfl dX7_pays_41 (pc' := 42) rfl ?_
      refine e_calli (run_S (n := 1) C (m_X7_noOwner hst h) gX7_pays_X7_noOwner rfl ⟨rfl, by decide, by decide, by decide +kernel⟩ ⟨by decide, by decide⟩ rfl (Nat.le_of_ble_eq_true rfl) dX7_pays_42 ⟨by decide, by decide⟩ (As := [.int p2]) rfl) (pc' := 45) rfl (cn' := 0) (sn' := 0) rfl rfl (fun v6 ws h => ?_)
      refine e_if_ne C (tg := 58) dX7_pays_45 (by decide) (pc' := 48) rfl (fun hc => ?_) (fun hc => ?_)
      · replace h := h.1 hc
        exact h
      · replace h := h.2 hc
        refine e_iload_n C (x := p3) rfl dX7_pays_48 (pc' := 49) rfl ?_
        refine e_iconst C (v := (0 : Int32)) (by decide) dX7_pays_49 (pc' := 50) rfl ?_
        refine e_ldc C (v := (1000000 : Int32)) w_X7_pays_c226 dX7_pays_50 (pc' := 52) rfl ?_
        refine e_calli (run_S (n := 3) C (m_X7_in hst h) gX7_pays_X7_in rfl ⟨rfl, by decide, by decide, by decide +kernel⟩ ⟨by decide, by decide⟩ rfl (Nat.le_of_ble_eq_true rfl) dX7_pays_52 ⟨by decide, by decide⟩ (As := [.int p3, .int (0 : Int32), .int (1000000 : Int32)]) rfl) (pc' := 55) rfl (cn' := 0) (sn' := 0) rfl rfl (fun v7 ws h => ?_)
        refine e_if_ne C (tg := 62) dX7_pays_55 (by decide) (pc' := 58) rfl (fun hc => ?_) (fun hc => ?_)
        · replace h := h.1 hc
          refine e_iconst C (v := (0 : Int32)) (by decide) dX7_pays_62 (pc' := 63) rfl ?_
          exact h
        · replace h := h.2 hc
          exact h)
  replace h := h (by
    intro t0 ws h
    show Ev K G 11 0 0 58 [some (.ref p0), some (.int p1), some (.int p2), some (.int p3), none, none, none, none, none, none, none] [.ref t0] ws
    refine e_iconst C (v := (1 : Int32)) (by decide) dX7_pays_58 (pc' := 59) rfl ?_
    refine e_goto C (tg := 63) dX7_pays_59 (by decide) ?_
    exact h)
  replace h := h (by
    intro t0 t1 ws h
    show Ev K G 11 0 0 63 [some (.ref p0), some (.int p1), some (.int p2), some (.int p3), none, none, none, none, none, none, none] [.int t0, .ref t1] ws
    refine e_iconst C (v := (3 : Int32)) (by decide) dX7_pays_63 (pc' := 64) rfl ?_
    obtain ⟨hv, h⟩ := h
    refine e_calli (run_V (n := 2) C (m_X7_throwsIf hst h) gX7_pays_X7_throwsIf rfl ⟨rfl, by decide, by decide, by decide +kernel⟩ ⟨by decide, by decide⟩ (ci := 7) rfl rfl hv rfl (Nat.le_of_ble_eq_true rfl) dX7_pays_64 ⟨by decide, by decide⟩ (As := [.int t0, .int (3 : Int32)]) rfl) (pc' := 67) rfl (cn' := 0) (sn' := 0) rfl rfl (fun v8 ws h => ?_)
    refine e_if_eq C (tg := 72) dX7_pays_67 (by decide) (pc' := 70) rfl (fun hc => ?_) (fun hc => ?_)
    · replace h := h.1 hc
      refine e_iconst C (v := (0 : Int32)) (by decide) dX7_pays_72 (pc' := 73) rfl ?_
      refine e_istore C (by decide) dX7_pays_73 (pc' := 75) rfl (lv' := [some (.ref p0), some (.int p1), some (.int p2), some (.int p3), some (.int (0 : Int32)), none, none, none, none, none, none]) rfl ?_
      exact h
    · replace h := h.2 hc
      refine e_iconst C (v := (0 : Int32)) (by decide) dX7_pays_70 (pc' := 71) rfl ?_
      exact r_int C F dX7_pays_71 (by decide) (by decide) h)
  replace h := h (by
    intro x4 ws h
    show Ev K G 11 0 0 75 [some (.ref p0), some (.int p1), some (.int p2), some (.int p3), some (.int x4), none, none, none, none, none, none] [] ws
    refine e_iload C (x := x4) rfl dX7_pays_75 (pc' := 77) rfl ?_
    refine e_bipush C (v := (31 : Int32)) (by decide) dX7_pays_77 (pc' := 79) rfl ?_
    refine e_icmp_ge C (tg := 96) dX7_pays_79 (by decide) (pc' := 82) rfl (fun hc => ?_) (fun hc => ?_)
    · replace h := h.1 hc
      refine e_iconst C (v := (0 : Int32)) (by decide) dX7_pays_96 (pc' := 97) rfl ?_
      refine e_istore C (by decide) dX7_pays_97 (pc' := 99) rfl (lv' := [some (.ref p0), some (.int p1), some (.int p2), some (.int p3), some (.int (0 : Int32)), none, none, none, none, none, none]) rfl ?_
      exact h
    · replace h := h.2 hc
      refine e_aload_n C (x := p0) rfl dX7_pays_82 (pc' := 83) rfl ?_
      refine f_getR C (ci := 7) (CN := RX7) (TT := TX7) (N := 36) 30 dX7_pays_83 (pc' := 86) rfl in_X7_pays_X7 rfl (by decide) fl_X7_pays_73 h (fun v9 h => ?_)
      refine e_iload C (x := x4) rfl dX7_pays_86 (pc' := 88) rfl ?_
      refine e_iconst C (v := (0 : Int32)) (by decide) dX7_pays_88 (pc' := 89) rfl ?_
      refine f_iastore C dX7_pays_89 (pc' := 90) rfl h (fun ws h => ?_)
      refine e_iinc C dX7_pays_90 (x := x4) (v := (x4 + (1 : Int32))) rfl rfl (by decide) (pc' := 93) rfl (lv' := [some (.ref p0), some (.int p1), some (.int p2), some (.int p3), some (.int (x4 + (1 : Int32))), none, none, none, none, none, none]) rfl ?_
      refine e_goto C (tg := 75) dX7_pays_93 (by decide) ?_
      exact h)
  replace h := h (by
    intro x4 ws h
    show Ev K G 11 0 0 99 [some (.ref p0), some (.int p1), some (.int p2), some (.int p3), some (.int x4), none, none, none, none, none, none] [] ws
    refine e_iload C (x := x4) rfl dX7_pays_99 (pc' := 101) rfl ?_
    refine e_aload_n C (x := p0) rfl dX7_pays_101 (pc' := 102) rfl ?_
    refine f_getI C (ci := 7) (CN := RX7) (TT := TX7) (N := 36) 17 dX7_pays_102 (pc' := 105) rfl in_X7_pays_X7 rfl (by decide) fl_X7_pays_102 h (fun v10 h => ?_)
    refine e_icmp_ge C (tg := 173) dX7_pays_105 (by decide) (pc' := 108) rfl (fun hc => ?_) (fun hc => ?_)
    · replace h := h.1 hc
      refine e_aload_n C (x := p0) rfl dX7_pays_173 (pc' := 174) rfl ?_
      refine f_getR C (ci := 7) (CN := RX7) (TT := TX7) (N := 36) 30 dX7_pays_174 (pc' := 177) rfl in_X7_pays_X7 rfl (by decide) fl_X7_pays_73 h (fun v11 h => ?_)
      refine e_iload_n C (x := p2) rfl dX7_pays_177 (pc' := 178) rfl ?_
      refine f_iaload C dX7_pays_178 (pc' := 179) rfl h (fun v12 h => ?_)
      refine e_if_ne C (tg := 184) dX7_pays_179 (by decide) (pc' := 182) rfl (fun hc => ?_) (fun hc => ?_)
      · replace h := h.1 hc
        refine e_iconst C (v := (0 : Int32)) (by decide) dX7_pays_184 (pc' := 185) rfl ?_
        refine e_istore C (by decide) dX7_pays_185 (pc' := 187) rfl (lv' := [some (.ref p0), some (.int p1), some (.int p2), some (.int p3), some (.int (0 : Int32)), none, none, none, none, none, none]) rfl ?_
        refine e_iconst C (v := (0 : Int32)) (by decide) dX7_pays_187 (pc' := 188) rfl ?_
        refine e_istore C (by decide) dX7_pays_188 (pc' := 190) rfl (lv' := [some (.ref p0), some (.int p1), some (.int p2), some (.int p3), some (.int (0 : Int32)), some (.int (0 : Int32)), none, none, none, none, none]) rfl ?_
        refine e_iconst C (v := (0 : Int32)) (by decide) dX7_pays_190 (pc' := 191) rfl ?_
        refine e_istore C (by decide) dX7_pays_191 (pc' := 193) rfl (lv' := [some (.ref p0), some (.int p1), some (.int p2), some (.int p3), some (.int (0 : Int32)), some (.int (0 : Int32)), some (.int (0 : Int32)), none, none, none, none]) rfl ?_
        exact h
      · replace h := h.2 hc
        refine e_iconst C (v := (0 : Int32)) (by decide) dX7_pays_182 (pc' := 183) rfl ?_
        exact r_int C F dX7_pays_183 (by decide) (by decide) h
    · replace h := h.2 hc
      refine e_aload_n C (x := p0) rfl dX7_pays_108 (pc' := 109) rfl ?_
      refine f_getR C (ci := 7) (CN := RX7) (TT := TX7) (N := 36) 16 dX7_pays_109 (pc' := 112) rfl in_X7_pays_X7 rfl (by decide) fl_X7_pays_45 h (fun v13 h => ?_)
      refine e_bipush C (v := (7 : Int32)) (by decide) dX7_pays_112 (pc' := 114) rfl ?_
      refine e_iload C (x := x4) rfl dX7_pays_114 (pc' := 116) rfl ?_
      refine e_imul C dX7_pays_116 (pc' := 117) rfl ?_
      refine f_iaload C dX7_pays_117 (pc' := 118) rfl h (fun v14 h => ?_)
      refine e_iload_n C (x := p1) rfl dX7_pays_118 (pc' := 119) rfl ?_
      refine e_icmp_ne C (tg := 167) dX7_pays_119 (by decide) (pc' := 122) rfl (fun hc => ?_) (fun hc => ?_)
      · replace h := h.1 hc
        exact h
      · replace h := h.2 hc
        refine e_aload_n C (x := p0) rfl dX7_pays_122 (pc' := 123) rfl ?_
        refine f_getR C (ci := 7) (CN := RX7) (TT := TX7) (N := 36) 30 dX7_pays_123 (pc' := 126) rfl in_X7_pays_X7 rfl (by decide) fl_X7_pays_73 h (fun v15 h => ?_)
        refine e_aload_n C (x := p0) rfl dX7_pays_126 (pc' := 127) rfl ?_
        refine f_getR C (ci := 7) (CN := RX7) (TT := TX7) (N := 36) 16 dX7_pays_127 (pc' := 130) rfl in_X7_pays_X7 rfl (by decide) fl_X7_pays_45 h (fun v16 h => ?_)
        refine e_bipush C (v := (7 : Int32)) (by decide) dX7_pays_130 (pc' := 132) rfl ?_
        refine e_iload C (x := x4) rfl dX7_pays_132 (pc' := 134) rfl ?_
        refine e_imul C dX7_pays_134 (pc' := 135) rfl ?_
        refine e_iconst C (v := (3 : Int32)) (by decide) dX7_pays_135 (pc' := 136) rfl ?_
        refine e_iadd C dX7_pays_136 (pc' := 137) rfl ?_
        refine f_iaload C dX7_pays_137 (pc' := 138) rfl h (fun v17 h => ?_)
        refine e_dup2 C rfl rfl dX7_pays_138 (pc' := 139) rfl ?_
        refine f_iaload C dX7_pays_139 (pc' := 140) rfl h (fun v18 h => ?_)
        refine e_aload_n C (x := p0) rfl dX7_pays_140 (pc' := 141) rfl ?_
        refine f_getR C (ci := 7) (CN := RX7) (TT := TX7) (N := 36) 16 dX7_pays_141 (pc' := 144) rfl in_X7_pays_X7 rfl (by decide) fl_X7_pays_45 h (fun v19 h => ?_)
        refine e_bipush C (v := (7 : Int32)) (by decide) dX7_pays_144 (pc' := 146) rfl ?_
        refine e_iload C (x := x4) rfl dX7_pays_146 (pc' := 148) rfl ?_
        refine e_imul C dX7_pays_148 (pc' := 149) rfl ?_
        refine e_iconst C (v := (2 : Int32)) (by decide) dX7_pays_149 (pc' := 150) rfl ?_
        refine e_iadd C dX7_pays_150 (pc' := 151) rfl ?_
        refine f_iaload C dX7_pays_151 (pc' := 152) rfl h (fun v20 h => ?_)
        refine e_aload_n C (x := p0) rfl dX7_pays_152 (pc' := 153) rfl ?_
        refine f_getR C (ci := 7) (CN := RX7) (TT := TX7) (N := 36) 16 dX7_pays_153 (pc' := 156) rfl in_X7_pays_X7 rfl (by decide) fl_X7_pays_45 h (fun v21 h => ?_)
        refine e_bipush C (v := (7 : Int32)) (by decide) dX7_pays_156 (pc' := 158) rfl ?_
        refine e_iload C (x := x4) rfl dX7_pays_158 (pc' := 160) rfl ?_
        refine e_imul C dX7_pays_160 (pc' := 161) rfl ?_
        refine e_iconst C (v := (1 : Int32)) (by decide) dX7_pays_161 (pc' := 162) rfl ?_
        refine e_iadd C dX7_pays_162 (pc' := 163) rfl ?_
        refine f_iaload C dX7_pays_163 (pc' := 164) rfl h (fun v22 h => ?_)
        refine e_isub C dX7_pays_164 (pc' := 165) rfl ?_
        refine e_iadd C dX7_pays_165 (pc' := 166) rfl ?_
        refine f_iastore C dX7_pays_166 (pc' := 167) rfl h (fun ws h => ?_)
        exact h)
  replace h := h (by
    intro x4 x5 x6 ws h
    show Ev K G 11 0 0 193 [some (.ref p0), some (.int p1), some (.int p2), some (.int p3), some (.int x4), some (.int x5), some (.int x6), none, none, none, none] [] ws
    refine e_iload C (x := x6) rfl dX7_pays_193 (pc' := 195) rfl ?_
    refine e_bipush C (v := (31 : Int32)) (by decide) dX7_pays_195 (pc' := 197) rfl ?_
    refine e_icmp_ge C (tg := 238) dX7_pays_197 (by decide) (pc' := 200) rfl (fun hc => ?_) (fun hc => ?_)
    · replace h := h.1 hc
      refine e_iload_n C (x := p3) rfl dX7_pays_238 (pc' := 239) rfl ?_
      refine e_i2l C dX7_pays_239 (pc' := 240) rfl ?_
      refine e_iload_n C (x := p3) rfl dX7_pays_240 (pc' := 241) rfl ?_
      refine e_i2l C dX7_pays_241 (pc' := 242) rfl ?_
      refine e_aload_n C (x := p0) rfl dX7_pays_242 (pc' := 243) rfl ?_
      refine f_getR C (ci := 7) (CN := RX7) (TT := TX7) (N := 36) 21 dX7_pays_243 (pc' := 246) rfl in_X7_pays_X7 rfl (by decide) fl_X7_pays_57 h (fun v23 h => ?_)
      refine e_iconst C (v := (3 : Int32)) (by decide) dX7_pays_246 (pc' := 247) rfl ?_
      refine f_iaload C dX7_pays_247 (pc' := 248) rfl h (fun v24 h => ?_)
      refine e_i2l C dX7_pays_248 (pc' := 249) rfl ?_
      refine e_lmul C dX7_pays_249 (pc' := 250) rfl ?_
      refine e_ldc2 C (v := (100 : Int64)) w_X7_pays_c227 dX7_pays_250 (pc' := 253) rfl ?_
      refine e_ldiv C (by decide) dX7_pays_253 (pc' := 254) rfl ?_
      refine e_lsub C dX7_pays_254 (pc' := 255) rfl ?_
      refine e_lstore C (by decide) dX7_pays_255 (pc' := 257) rfl (lv' := [some (.ref p0), some (.int p1), some (.int p2), some (.int p3), some (.int x4), some (.int x5), some (.long (p3.toInt64 - ((p3.toInt64 * v24.toInt64) / (100 : Int64)))), none, none, none, none]) rfl ?_
      refine e_lload C (x := (p3.toInt64 - ((p3.toInt64 * v24.toInt64) / (100 : Int64)))) rfl dX7_pays_257 (pc' := 259) rfl ?_
      refine e_lstore C (by decide) dX7_pays_259 (pc' := 261) rfl (lv' := [some (.ref p0), some (.int p1), some (.int p2), some (.int p3), some (.int x4), some (.int x5), some (.long (p3.toInt64 - ((p3.toInt64 * v24.toInt64) / (100 : Int64)))), none, some (.long (p3.toInt64 - ((p3.toInt64 * v24.toInt64) / (100 : Int64)))), none, none]) rfl ?_
      refine e_iconst C (v := (0 : Int32)) (by decide) dX7_pays_261 (pc' := 262) rfl ?_
      refine e_istore C (by decide) dX7_pays_262 (pc' := 264) rfl (lv' := [some (.ref p0), some (.int p1), some (.int p2), some (.int p3), some (.int x4), some (.int x5), some (.long (p3.toInt64 - ((p3.toInt64 * v24.toInt64) / (100 : Int64)))), none, some (.long (p3.toInt64 - ((p3.toInt64 * v24.toInt64) / (100 : Int64)))), none, some (.int (0 : Int32))]) rfl ?_
      refine e_mask [true, true, true, false, true, true, true, false, true, false, true] (lv' := [some (.ref p0), some (.int p1), some (.int p2), none, some (.int x4), some (.int x5), some (.long (p3.toInt64 - ((p3.toInt64 * v24.toInt64) / (100 : Int64)))), none, some (.long (p3.toInt64 - ((p3.toInt64 * v24.toInt64) / (100 : Int64)))), none, some (.int (0 : Int32))]) rfl ?_
      exact h
    · replace h := h.2 hc
      refine e_aload_n C (x := p0) rfl dX7_pays_200 (pc' := 201) rfl ?_
      refine f_getR C (ci := 7) (CN := RX7) (TT := TX7) (N := 36) 30 dX7_pays_201 (pc' := 204) rfl in_X7_pays_X7 rfl (by decide) fl_X7_pays_73 h (fun v25 h => ?_)
      refine e_iload C (x := x6) rfl dX7_pays_204 (pc' := 206) rfl ?_
      refine f_iaload C dX7_pays_206 (pc' := 207) rfl h (fun v26 h => ?_)
      refine e_if_ne C (tg := 213) dX7_pays_207 (by decide) (pc' := 210) rfl (fun hc => ?_) (fun hc => ?_)
      · replace h := h.1 hc
        refine e_iinc C dX7_pays_213 (x := x4) (v := (x4 + (1 : Int32))) rfl rfl (by decide) (pc' := 216) rfl (lv' := [some (.ref p0), some (.int p1), some (.int p2), some (.int p3), some (.int (x4 + (1 : Int32))), some (.int x5), some (.int x6), none, none, none, none]) rfl ?_
        refine e_iload C (x := x5) rfl dX7_pays_216 (pc' := 218) rfl ?_
        refine e_iload C (x := x6) rfl dX7_pays_218 (pc' := 220) rfl ?_
        refine e_iload_n C (x := p2) rfl dX7_pays_220 (pc' := 221) rfl ?_
        refine e_icmp_ge C (tg := 228) dX7_pays_221 (by decide) (pc' := 224) rfl (fun hc => ?_) (fun hc => ?_)
        · replace h := h.1 hc
          refine e_iconst C (v := (0 : Int32)) (by decide) dX7_pays_228 (pc' := 229) rfl ?_
          refine e_mask [true, true, true, true, true, false, true, false, false, false, false] (lv' := [some (.ref p0), some (.int p1), some (.int p2), some (.int p3), some (.int (x4 + (1 : Int32))), none, some (.int x6), none, none, none, none]) rfl ?_
          exact h
        · replace h := h.2 hc
          refine e_iconst C (v := (1 : Int32)) (by decide) dX7_pays_224 (pc' := 225) rfl ?_
          refine e_goto C (tg := 229) dX7_pays_225 (by decide) ?_
          refine e_mask [true, true, true, true, true, false, true, false, false, false, false] (lv' := [some (.ref p0), some (.int p1), some (.int p2), some (.int p3), some (.int (x4 + (1 : Int32))), none, some (.int x6), none, none, none, none]) rfl ?_
          exact h
      · replace h := h.2 hc
        refine e_goto C (tg := 232) dX7_pays_210 (by decide) ?_
        exact h)
  replace h := h (by
    intro x4 ws h
    show Ev K G 11 0 0 167 [some (.ref p0), some (.int p1), some (.int p2), some (.int p3), some (.int x4), none, none, none, none, none, none] [] ws
    refine e_iinc C dX7_pays_167 (x := x4) (v := (x4 + (1 : Int32))) rfl rfl (by decide) (pc' := 170) rfl (lv' := [some (.ref p0), some (.int p1), some (.int p2), some (.int p3), some (.int (x4 + (1 : Int32))), none, none, none, none, none, none]) rfl ?_
    refine e_goto C (tg := 99) dX7_pays_170 (by decide) ?_
    exact h)
  replace h := h (by
    intro x4 x5 x6 x8 x10 ws h
    show Ev K G 11 0 0 264 [some (.ref p0), some (.int p1), some (.int p2), none, some (.int x4), some (.int x5), some (.long x6), none, some (.long x8), none, some (.int x10)] [] ws
    refine e_iload C (x := x10) rfl dX7_pays_264 (pc' := 266) rfl ?_
    refine e_bipush C (v := (31 : Int32)) (by decide) dX7_pays_266 (pc' := 268) rfl ?_
    refine e_icmp_ge C (tg := 303) dX7_pays_268 (by decide) (pc' := 271) rfl (fun hc => ?_) (fun hc => ?_)
    · replace h := h.1 hc
      refine e_aload_n C (x := p0) rfl dX7_pays_303 (pc' := 304) rfl ?_
      refine e_lload C (x := x6) rfl dX7_pays_304 (pc' := 306) rfl ?_
      refine e_iload_n C (x := p2) rfl dX7_pays_306 (pc' := 307) rfl ?_
      refine e_iload_n C (x := p1) rfl dX7_pays_307 (pc' := 308) rfl ?_
      refine e_iload C (x := x4) rfl dX7_pays_308 (pc' := 310) rfl ?_
      obtain ⟨hv, h⟩ := h
      refine e_calll (run_V (n := 4) C (m_X7_portion hst h) gX7_pays_X7_portion rfl ⟨rfl, by decide, by decide, by decide +kernel⟩ ⟨by decide, by decide⟩ (ci := 7) rfl rfl hv rfl (Nat.le_of_ble_eq_true rfl) dX7_pays_310 ⟨by decide, by decide⟩ (As := [.long x6, .int p2, .int p1, .int x4]) rfl) (pc' := 313) rfl (cn' := 0) (sn' := 0) rfl rfl (fun v27 ws h => ?_)
      refine e_iload C (x := x5) rfl dX7_pays_313 (pc' := 315) rfl ?_
      refine e_i2l C dX7_pays_315 (pc' := 316) rfl ?_
      refine e_lload C (x := x8) rfl dX7_pays_316 (pc' := 318) rfl ?_
      refine e_lcmp C dX7_pays_318 (pc' := 319) rfl ?_
      refine e_if_ge C (tg := 326) dX7_pays_319 (by decide) (pc' := 322) rfl (fun hc => ?_) (fun hc => ?_)
      · replace h := h.1 hc
        refine e_lconst C (v := (0 : Int64)) (by decide) dX7_pays_326 (pc' := 327) rfl ?_
        refine e_mask [false, false, false, false, false, false, false, false, false, false, false] (lv' := [none, none, none, none, none, none, none, none, none, none, none]) rfl ?_
        exact h
      · replace h := h.2 hc
        refine e_lconst C (v := (1 : Int64)) (by decide) dX7_pays_322 (pc' := 323) rfl ?_
        refine e_goto C (tg := 327) dX7_pays_323 (by decide) ?_
        refine e_mask [false, false, false, false, false, false, false, false, false, false, false] (lv' := [none, none, none, none, none, none, none, none, none, none, none]) rfl ?_
        exact h
    · replace h := h.2 hc
      refine e_aload_n C (x := p0) rfl dX7_pays_271 (pc' := 272) rfl ?_
      refine f_getR C (ci := 7) (CN := RX7) (TT := TX7) (N := 36) 30 dX7_pays_272 (pc' := 275) rfl in_X7_pays_X7 rfl (by decide) fl_X7_pays_73 h (fun v28 h => ?_)
      refine e_iload C (x := x10) rfl dX7_pays_275 (pc' := 277) rfl ?_
      refine f_iaload C dX7_pays_277 (pc' := 278) rfl h (fun v29 h => ?_)
      refine e_if_le C (tg := 297) dX7_pays_278 (by decide) (pc' := 281) rfl (fun hc => ?_) (fun hc => ?_)
      · replace h := h.1 hc
        exact h
      · replace h := h.2 hc
        refine e_lload C (x := x8) rfl dX7_pays_281 (pc' := 283) rfl ?_
        refine e_aload_n C (x := p0) rfl dX7_pays_283 (pc' := 284) rfl ?_
        refine e_lload C (x := x6) rfl dX7_pays_284 (pc' := 286) rfl ?_
        refine e_iload C (x := x10) rfl dX7_pays_286 (pc' := 288) rfl ?_
        refine e_iload_n C (x := p1) rfl dX7_pays_288 (pc' := 289) rfl ?_
        refine e_iload C (x := x4) rfl dX7_pays_289 (pc' := 291) rfl ?_
        obtain ⟨hv, h⟩ := h
        refine e_calll (run_V (n := 4) C (m_X7_portion hst h) gX7_pays_X7_portion rfl ⟨rfl, by decide, by decide, by decide +kernel⟩ ⟨by decide, by decide⟩ (ci := 7) rfl rfl hv rfl (Nat.le_of_ble_eq_true rfl) dX7_pays_291 ⟨by decide, by decide⟩ (As := [.long x6, .int x10, .int p1, .int x4]) rfl) (pc' := 294) rfl (cn' := 0) (sn' := 0) rfl rfl (fun v30 ws h => ?_)
        refine e_lsub C dX7_pays_294 (pc' := 295) rfl ?_
        refine e_lstore C (by decide) dX7_pays_295 (pc' := 297) rfl (lv' := [some (.ref p0), some (.int p1), some (.int p2), none, some (.int x4), some (.int x5), some (.long x6), none, some (.long (x8 - v30)), none, some (.int x10)]) rfl ?_
        exact h)
  replace h := h (by
    intro x4 x6 t0 t1 ws h
    show Ev K G 11 0 0 229 [some (.ref p0), some (.int p1), some (.int p2), some (.int p3), some (.int x4), none, some (.int x6), none, none, none, none] [.int t0, .int t1] ws
    refine e_iadd C dX7_pays_229 (pc' := 230) rfl ?_
    refine e_istore C (by decide) dX7_pays_230 (pc' := 232) rfl (lv' := [some (.ref p0), some (.int p1), some (.int p2), some (.int p3), some (.int x4), some (.int (t1 + t0)), some (.int x6), none, none, none, none]) rfl ?_
    exact h)
  replace h := h (by
    intro x4 x5 x6 ws h
    show Ev K G 11 0 0 232 [some (.ref p0), some (.int p1), some (.int p2), some (.int p3), some (.int x4), some (.int x5), some (.int x6), none, none, none, none] [] ws
    refine e_iinc C dX7_pays_232 (x := x6) (v := (x6 + (1 : Int32))) rfl rfl (by decide) (pc' := 235) rfl (lv' := [some (.ref p0), some (.int p1), some (.int p2), some (.int p3), some (.int x4), some (.int x5), some (.int (x6 + (1 : Int32))), none, none, none, none]) rfl ?_
    refine e_goto C (tg := 193) dX7_pays_235 (by decide) ?_
    exact h)
  replace h := h (by
    intro t0 t1 ws h
    show Ev K G 11 0 0 327 [none, none, none, none, none, none, none, none, none, none, none] [.long t0, .long t1] ws
    refine e_ladd C dX7_pays_327 (pc' := 328) rfl ?_
    refine e_l2i C dX7_pays_328 (pc' := 329) rfl ?_
    exact r_int C F dX7_pays_329 (by decide) (by decide) h)
  replace h := h (by
    intro x4 x5 x6 x8 x10 ws h
    show Ev K G 11 0 0 297 [some (.ref p0), some (.int p1), some (.int p2), none, some (.int x4), some (.int x5), some (.long x6), none, some (.long x8), none, some (.int x10)] [] ws
    refine e_iinc C dX7_pays_297 (x := x10) (v := (x10 + (1 : Int32))) rfl rfl (by decide) (pc' := 300) rfl (lv' := [some (.ref p0), some (.int p1), some (.int p2), none, some (.int x4), some (.int x5), some (.long x6), none, some (.long x8), none, some (.int (x10 + (1 : Int32)))]) rfl ?_
    refine e_goto C (tg := 264) dX7_pays_300 (by decide) ?_
    exact h)
  refine e_aload_n C (x := p0) rfl dX7_pays_0 (pc' := 1) rfl ?_
  refine e_iconst C (v := (0 : Int32)) (by decide) dX7_pays_1 (pc' := 2) rfl ?_
  refine f_putI C (ci := 7) (CN := RX7) (TT := TX7) (N := 36) 0 tyX7 dX7_pays_2 (pc' := 5) rfl in_X7_pays_X7 tyX7_ok nmX7 rfl (by decide) fl_X7_pays_88 rfl (by decide +kernel) h (fun ws h => ?_)
  refine e_aload_n C (x := p0) rfl dX7_pays_5 (pc' := 6) rfl ?_
  refine e_aload_n C (x := p0) rfl dX7_pays_6 (pc' := 7) rfl ?_
  refine e_iload_n C (x := p1) rfl dX7_pays_7 (pc' := 8) rfl ?_
  obtain ⟨hv, h⟩ := h
  refine e_calli (run_V (n := 1) C (m_X7_noChannel hst h) gX7_pays_X7_noChannel rfl ⟨rfl, by decide, by decide, by decide +kernel⟩ ⟨by decide, by decide⟩ (ci := 7) rfl rfl hv rfl (Nat.le_of_ble_eq_true rfl) dX7_pays_8 ⟨by decide, by decide⟩ (As := [.int p1]) rfl) (pc' := 11) rfl (cn' := 0) (sn' := 0) rfl rfl (fun v1 ws h => ?_)
  refine e_iconst C (v := (1 : Int32)) (by decide) dX7_pays_11 (pc' := 12) rfl ?_
  obtain ⟨hv, h⟩ := h
  refine e_calli (run_V (n := 2) C (m_X7_throwsIf hst h) gX7_pays_X7_throwsIf rfl ⟨rfl, by decide, by decide, by decide +kernel⟩ ⟨by decide, by decide⟩ (ci := 7) rfl rfl hv rfl (Nat.le_of_ble_eq_true rfl) dX7_pays_12 ⟨by decide, by decide⟩ (As := [.int v1, .int (1 : Int32)]) rfl) (pc' := 15) rfl (cn' := 0) (sn' := 0) rfl rfl (fun v2 ws h => ?_)
  refine e_if_ne C (tg := 70) dX7_pays_15 (by decide) (pc' := 18) rfl (fun hc => ?_) (fun hc => ?_)
  · replace h := h.1 hc
    refine e_iconst C (v := (0 : Int32)) (by decide) dX7_pays_70 (pc' := 71) rfl ?_
    exact r_int C F dX7_pays_71 (by decide) (by decide) h
  · replace h := h.2 hc
    refine e_aload_n C (x := p0) rfl dX7_pays_18 (pc' := 19) rfl ?_
    refine e_aload_n C (x := p0) rfl dX7_pays_19 (pc' := 20) rfl ?_
    refine f_getR C (ci := 7) (CN := RX7) (TT := TX7) (N := 36) 6 dX7_pays_20 (pc' := 23) rfl in_X7_pays_X7 rfl (by decide) fl_X7_pays_20 h (fun v3 h => ?_)
    refine e_iload_n C (x := p1) rfl dX7_pays_23 (pc' := 24) rfl ?_
    refine f_zaload C dX7_pays_24 (pc' := 25) rfl h (fun v4 h => ?_)
    refine e_if_ne C (tg := 32) dX7_pays_25 (by decide) (pc' := 28) rfl (fun hc => ?_) (fun hc => ?_)
    · replace h := h.1 hc
      refine e_iconst C (v := (0 : Int32)) (by decide) dX7_pays_32 (pc' := 33) rfl ?_
      exact h
    · replace h := h.2 hc
      refine e_iconst C (v := (1 : Int32)) (by decide) dX7_pays_28 (pc' := 29) rfl ?_
      refine e_goto C (tg := 33) dX7_pays_29 (by decide) ?_
      exact h
