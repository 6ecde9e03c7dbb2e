abbrev rm_X7_dig : Room := { frames := 3, cells := 0, slots := 0, locals := 61 }
set_option maxRecDepth 20000 in
theorem in_X7_dig_X7 : ∀ w ∈ wsX70, w ∈ wsX7_dig := by decide +kernel
set_option maxRecDepth 20000 in
theorem fl_X7_dig_88 : Cond.fieldLink RX7 88 (TX7 0).1 (TX7 0).2.1 (TX7 0).2.2.1 ∈ wsX7_dig := by decide +kernel
set_option maxRecDepth 20000 in
theorem fl_X7_dig_20 : Cond.fieldLink RX7 20 (TX7 6).1 (TX7 6).2.1 (TX7 6).2.2.1 ∈ wsX7_dig := by decide +kernel
set_option maxRecDepth 20000 in
theorem fl_X7_dig_102 : Cond.fieldLink RX7 102 (TX7 17).1 (TX7 17).2.1 (TX7 17).2.2.1 ∈ wsX7_dig := by decide +kernel
set_option maxRecDepth 20000 in
theorem fl_X7_dig_24 : Cond.fieldLink RX7 24 (TX7 7).1 (TX7 7).2.1 (TX7 7).2.2.1 ∈ wsX7_dig := by decide +kernel
set_option maxRecDepth 20000 in
theorem fl_X7_dig_126 : Cond.fieldLink RX7 126 (TX7 3).1 (TX7 3).2.1 (TX7 3).2.2.1 ∈ wsX7_dig := by decide +kernel
set_option maxRecDepth 20000 in
theorem fl_X7_dig_27 : Cond.fieldLink RX7 27 (TX7 8).1 (TX7 8).2.1 (TX7 8).2.2.1 ∈ wsX7_dig := by decide +kernel
set_option maxRecDepth 20000 in
theorem fl_X7_dig_129 : Cond.fieldLink RX7 129 (TX7 11).1 (TX7 11).2.1 (TX7 11).2.2.1 ∈ wsX7_dig := by decide +kernel
set_option maxRecDepth 20000 in
theorem fl_X7_dig_30 : Cond.fieldLink RX7 30 (TX7 9).1 (TX7 9).2.1 (TX7 9).2.2.1 ∈ wsX7_dig := by decide +kernel
def F_X7_dig (G : Gx) (p0 : Nat) (p1 : Int32) (p2 : Int32) (p3 : Int32) (ws : va_W) (Q : Int32 → va_W → Prop) : Prop := ∀ (J53 : Nat → va_W → Prop), ∀ (J58 : Int32 → Nat → va_W → Prop), (∀ (t0 : Nat) (ws : va_W), J58 (1 : Int32) t0 ws → J53 t0 ws) → (∀ (t0 : Int32) (t1 : Nat) (ws : va_W), (qV 7 t1 ws ∧ F_X7_throwsIf G t1 t0 (3 : Int32) ws (fun v8 ws => ((v8 = 0 → (qV 7 p0 ws ∧ F_X7_mayBe G p0 p1 ws (fun v9 ws => ((v9 = 0 → Q (-1 : Int32) ws) ∧ (¬ v9 = 0 → qI 7 17 p0 ws (fun v10 => ((¬ v10 = (60 : Int32) → qR 7 6 p0 ws (fun v11 => qS (gc G 2) v11 p1 (vp_nar .boolean (1 : Int32)) ws (fun ws => qR 7 7 p0 ws (fun v12 => qI 7 3 p0 ws (fun v13 => qS (gc G 1) v12 p1 v13 ws (fun ws => qR 7 8 p0 ws (fun v14 => qI 7 11 p0 ws (fun v15 => qS (gc G 1) v14 p1 v15 ws (fun ws => qI 7 11 p0 ws (fun v16 => qP 7 11 p0 (.int (v16 + (1 : Int32))) ws (fun ws => qR 7 9 p0 ws (fun v17 => qS (gc G 1) v17 p1 ((1440 : Int32) * p3) ws (fun ws => qR 7 9 p0 ws (fun v18 => qA (gc G 1) v18 p1 ws (fun v19 => (qV 7 p0 ws ∧ F_X7_adds G p0 p1 (0 : Int32) v19 p2 ws (fun ws => qI 7 17 p0 ws (fun v21 => Q (v21 - (1 : Int32)) ws)))))))))))))))))) ∧ (v10 = (60 : Int32) → Q (-1 : Int32) ws)))))))) ∧ (¬ v8 = 0 → Q (0 : Int32) ws)))) → J58 t0 t1 ws) → qP 7 0 p0 (.int (0 : Int32)) ws (fun ws => (qV 7 p0 ws ∧ F_X7_noChannel G p0 p1 ws (fun v1 ws => (qV 7 p0 ws ∧ F_X7_throwsIf G p0 v1 (1 : Int32) ws (fun v2 ws => ((¬ v2 = 0 → Q (0 : Int32) ws) ∧ (v2 = 0 → qR 7 6 p0 ws (fun v3 => qA (gc G 2) v3 p1 ws (fun v4 => (qV 7 p0 ws ∧ F_X7_throwsIf G p0 v4 (2 : Int32) ws (fun v5 ws => ((¬ v5 = 0 → Q (0 : Int32) ws) ∧ (v5 = 0 → (F_X7_in G p2 (0 : Int32) (30 : Int32) ws (fun v6 ws => ((v6 = 0 → J53 p0 ws) ∧ (¬ v6 = 0 → (F_X7_in G p3 (1 : Int32) (15 : Int32) ws (fun v7 ws => ((¬ v7 = 0 → J58 (0 : Int32) p0 ws) ∧ (v7 = 0 → J53 p0 ws)))))))))))))))))))))
set_option maxRecDepth 20000 in
set_option maxHeartbeats 4000000 in
theorem m_X7_dig {G : Gx} (hst : (gl G).stackTraces = false) {p0 : Nat} {p1 : Int32} {p2 : Int32} {p3 : Int32} {ws : va_W} {Q : Int32 → va_W → Prop} (h : F_X7_dig G p0 p1 p2 p3 ws Q) : Mt G yX7_dig wsX7_dig rm_X7_dig [.ref p0, .int p1, .int p2, .int p3] ws (QtI G Q) := by
  refine mk_Mt (cc := cX7_dig) (nL := 4) (own := RX7) (ret := (some .int)) (lv0 := [some (.ref p0), some (.int p1), some (.int p2), some (.int p3)]) hst (by decide) rfl rfl (Nat.le_of_ble_eq_true rfl) rfl ?_
  intro K C F
  replace h := h (fun t0 ws => Ev K G 4 0 0 53 [some (.ref p0), some (.int p1), some (.int p2), some (.int p3)] [.ref t0] ws) (fun t0 t1 ws => Ev K G 4 0 0 58 [some (.ref p0), some (.int p1), some (.int p2), some (.int p3)] [.int t0, .ref t1] ws)
  replace h := h (by
    intro t0 ws h
    show Ev K G 4 0 0 53 [some (.ref p0), some (.int p1), some (.int p2), some (.int p3)] [.ref t0] ws
    refine e_iconst C (v := (1 : Int32)) (by decide) dX7_dig_53 (pc' := 54) rfl ?_
    refine e_goto C (tg := 58) dX7_dig_54 (by decide) ?_
    exact h)
  replace h := h (by
    intro t0 t1 ws h
    show Ev K G 4 0 0 58 [some (.ref p0), some (.int p1), some (.int p2), some (.int p3)] [.int t0, .ref t1] ws
    refine e_iconst C (v := (3 : Int32)) (by decide) dX7_dig_58 (pc' := 59) rfl ?_
    obtain ⟨hv, h⟩ := h
    refine e_calli (run_V (n := 2) C (m_X7_throwsIf hst h) gX7_dig_X7_throwsIf rfl ⟨rfl, by decide, by decide, by decide +kernel⟩ ⟨by decide, by decide⟩ (ci := 7) rfl rfl hv rfl (Nat.le_of_ble_eq_true rfl) dX7_dig_59 ⟨by decide, by decide⟩ (As := [.int t0, .int (3 : Int32)]) rfl) (pc' := 62) rfl (cn' := 0) (sn' := 0) rfl rfl (fun v8 ws h => ?_)
    refine e_if_eq C (tg := 67) dX7_dig_62 (by decide) (pc' := 65) rfl (fun hc => ?_) (fun hc => ?_)
    · replace h := h.1 hc
      refine e_aload_n C (x := p0) rfl dX7_dig_67 (pc' := 68) rfl ?_
      refine e_iload_n C (x := p1) rfl dX7_dig_68 (pc' := 69) rfl ?_
      obtain ⟨hv, h⟩ := h
      refine e_calli (run_V (n := 1) C (m_X7_mayBe hst h) gX7_dig_X7_mayBe rfl ⟨rfl, by decide, by decide, by decide +kernel⟩ ⟨by decide, by decide⟩ (ci := 7) rfl rfl hv rfl (Nat.le_of_ble_eq_true rfl) dX7_dig_69 ⟨by decide, by decide⟩ (As := [.int p1]) rfl) (pc' := 72) rfl (cn' := 0) (sn' := 0) rfl rfl (fun v9 ws h => ?_)
      refine e_if_eq C (tg := 84) dX7_dig_72 (by decide) (pc' := 75) rfl (fun hc => ?_) (fun hc => ?_)
      · replace h := h.1 hc
        refine e_iconst C (v := (-1 : Int32)) (by decide) dX7_dig_84 (pc' := 85) rfl ?_
        exact r_int C F dX7_dig_85 (by decide) (by decide) h
      · replace h := h.2 hc
        refine e_aload_n C (x := p0) rfl dX7_dig_75 (pc' := 76) rfl ?_
        refine f_getI C (ci := 7) (CN := RX7) (TT := TX7) (N := 36) 17 dX7_dig_76 (pc' := 79) rfl in_X7_dig_X7 rfl (by decide) fl_X7_dig_102 h (fun v10 h => ?_)
        refine e_bipush C (v := (60 : Int32)) (by decide) dX7_dig_79 (pc' := 81) rfl ?_
        refine e_icmp_ne C (tg := 86) dX7_dig_81 (by decide) (pc' := 84) rfl (fun hc => ?_) (fun hc => ?_)
        · replace h := h.1 hc
          refine e_aload_n C (x := p0) rfl dX7_dig_86 (pc' := 87) rfl ?_
          refine f_getR C (ci := 7) (CN := RX7) (TT := TX7) (N := 36) 6 dX7_dig_87 (pc' := 90) rfl in_X7_dig_X7 rfl (by decide) fl_X7_dig_20 h (fun v11 h => ?_)
          refine e_iload_n C (x := p1) rfl dX7_dig_90 (pc' := 91) rfl ?_
          refine e_iconst C (v := (1 : Int32)) (by decide) dX7_dig_91 (pc' := 92) rfl ?_
          refine f_zastore C dX7_dig_92 (pc' := 93) rfl h (fun ws h => ?_)
          refine e_aload_n C (x := p0) rfl dX7_dig_93 (pc' := 94) rfl ?_
          refine f_getR C (ci := 7) (CN := RX7) (TT := TX7) (N := 36) 7 dX7_dig_94 (pc' := 97) rfl in_X7_dig_X7 rfl (by decide) fl_X7_dig_24 h (fun v12 h => ?_)
          refine e_iload_n C (x := p1) rfl dX7_dig_97 (pc' := 98) rfl ?_
          refine e_aload_n C (x := p0) rfl dX7_dig_98 (pc' := 99) rfl ?_
          refine f_getI C (ci := 7) (CN := RX7) (TT := TX7) (N := 36) 3 dX7_dig_99 (pc' := 102) rfl in_X7_dig_X7 rfl (by decide) fl_X7_dig_126 h (fun v13 h => ?_)
          refine f_iastore C dX7_dig_102 (pc' := 103) rfl h (fun ws h => ?_)
          refine e_aload_n C (x := p0) rfl dX7_dig_103 (pc' := 104) rfl ?_
          refine f_getR C (ci := 7) (CN := RX7) (TT := TX7) (N := 36) 8 dX7_dig_104 (pc' := 107) rfl in_X7_dig_X7 rfl (by decide) fl_X7_dig_27 h (fun v14 h => ?_)
          refine e_iload_n C (x := p1) rfl dX7_dig_107 (pc' := 108) rfl ?_
          refine e_aload_n C (x := p0) rfl dX7_dig_108 (pc' := 109) rfl ?_
          refine f_getI C (ci := 7) (CN := RX7) (TT := TX7) (N := 36) 11 dX7_dig_109 (pc' := 112) rfl in_X7_dig_X7 rfl (by decide) fl_X7_dig_129 h (fun v15 h => ?_)
          refine f_iastore C dX7_dig_112 (pc' := 113) rfl h (fun ws h => ?_)
          refine e_aload_n C (x := p0) rfl dX7_dig_113 (pc' := 114) rfl ?_
          refine e_dup C rfl dX7_dig_114 (pc' := 115) rfl ?_
          refine f_getI C (ci := 7) (CN := RX7) (TT := TX7) (N := 36) 11 dX7_dig_115 (pc' := 118) rfl in_X7_dig_X7 rfl (by decide) fl_X7_dig_129 h (fun v16 h => ?_)
          refine e_iconst C (v := (1 : Int32)) (by decide) dX7_dig_118 (pc' := 119) rfl ?_
          refine e_iadd C dX7_dig_119 (pc' := 120) rfl ?_
          refine f_putI C (ci := 7) (CN := RX7) (TT := TX7) (N := 36) 11 tyX7 dX7_dig_120 (pc' := 123) rfl in_X7_dig_X7 tyX7_ok nmX7 rfl (by decide) fl_X7_dig_129 rfl (by decide +kernel) h (fun ws h => ?_)
          refine e_aload_n C (x := p0) rfl dX7_dig_123 (pc' := 124) rfl ?_
          refine f_getR C (ci := 7) (CN := RX7) (TT := TX7) (N := 36) 9 dX7_dig_124 (pc' := 127) rfl in_X7_dig_X7 rfl (by decide) fl_X7_dig_30 h (fun v17 h => ?_)
          refine e_iload_n C (x := p1) rfl dX7_dig_127 (pc' := 128) rfl ?_
          refine e_sipush C (v := (1440 : Int32)) (by decide) dX7_dig_128 (pc' := 131) rfl ?_
          refine e_iload_n C (x := p3) rfl dX7_dig_131 (pc' := 132) rfl ?_
          refine e_imul C dX7_dig_132 (pc' := 133) rfl ?_
          refine f_iastore C dX7_dig_133 (pc' := 134) rfl h (fun ws h => ?_)
          refine e_aload_n C (x := p0) rfl dX7_dig_134 (pc' := 135) rfl ?_
          refine e_iload_n C (x := p1) rfl dX7_dig_135 (pc' := 136) rfl ?_
          refine e_iconst C (v := (0 : Int32)) (by decide) dX7_dig_136 (pc' := 137) rfl ?_
          refine e_aload_n C (x := p0) rfl dX7_dig_137 (pc' := 138) rfl ?_
          refine f_getR C (ci := 7) (CN := RX7) (TT := TX7) (N := 36) 9 dX7_dig_138 (pc' := 141) rfl in_X7_dig_X7 rfl (by decide) fl_X7_dig_30 h (fun v18 h => ?_)
          refine e_iload_n C (x := p1) rfl dX7_dig_141 (pc' := 142) rfl ?_
          refine f_iaload C dX7_dig_142 (pc' := 143) rfl h (fun v19 h => ?_)
          refine e_iload_n C (x := p2) rfl dX7_dig_143 (pc' := 144) rfl ?_
          obtain ⟨hv, h⟩ := h
          refine e_callv (run_V (n := 4) C (m_X7_adds hst h) gX7_dig_X7_adds rfl ⟨rfl, by decide, by decide, by decide +kernel⟩ ⟨by decide, by decide⟩ (ci := 7) rfl rfl hv rfl (Nat.le_of_ble_eq_true rfl) dX7_dig_144 ⟨by decide, by decide⟩ (As := [.int p1, .int (0 : Int32), .int v19, .int p2]) rfl) (pc' := 147) rfl (cn' := 0) (sn' := 0) rfl rfl (fun ws h => ?_)
          refine e_aload_n C (x := p0) rfl dX7_dig_147 (pc' := 148) rfl ?_
          refine f_getI C (ci := 7) (CN := RX7) (TT := TX7) (N := 36) 17 dX7_dig_148 (pc' := 151) rfl in_X7_dig_X7 rfl (by decide) fl_X7_dig_102 h (fun v21 h => ?_)
          refine e_iconst C (v := (1 : Int32)) (by decide) dX7_dig_151 (pc' := 152) rfl ?_
          refine e_isub C dX7_dig_152 (pc' := 153) rfl ?_
          exact r_int C F dX7_dig_153 (by decide) (by decide) h
        · replace h := h.2 hc
          refine e_iconst C (v := (-1 : Int32)) (by decide) dX7_dig_84 (pc' := 85) rfl ?_
          exact r_int C F dX7_dig_85 (by decide) (by decide) h
    · replace h := h.2 hc
      refine e_iconst C (v := (0 : Int32)) (by decide) dX7_dig_65 (pc' := 66) rfl ?_
      exact r_int C F dX7_dig_66 (by decide) (by decide) h)
  refine e_aload_n C (x := p0) rfl dX7_dig_0 (pc' := 1) rfl ?_
  refine e_iconst C (v := (0 : Int32)) (by decide) dX7_dig_1 (pc' := 2) rfl ?_
  refine f_putI C (ci := 7) (CN := RX7) (TT := TX7) (N := 36) 0 tyX7 dX7_dig_2 (pc' := 5) rfl in_X7_dig_X7 tyX7_ok nmX7 rfl (by decide) fl_X7_dig_88 rfl (by decide +kernel) h (fun ws h => ?_)
  refine e_aload_n C (x := p0) rfl dX7_dig_5 (pc' := 6) rfl ?_
  refine e_aload_n C (x := p0) rfl dX7_dig_6 (pc' := 7) rfl ?_
  refine e_iload_n C (x := p1) rfl dX7_dig_7 (pc' := 8) rfl ?_
  obtain ⟨hv, h⟩ := h
  refine e_calli (run_V (n := 1) C (m_X7_noChannel hst h) gX7_dig_X7_noChannel rfl ⟨rfl, by decide, by decide, by decide +kernel⟩ ⟨by decide, by decide⟩ (ci := 7) rfl rfl hv rfl (Nat.le_of_ble_eq_true rfl) dX7_dig_8 ⟨by decide, by decide⟩ (As := [.int p1]) rfl) (pc' := 11) rfl (cn' := 0) (sn' := 0) rfl rfl (fun v1 ws h => ?_)
  refine e_iconst C (v := (1 : Int32)) (by decide) dX7_dig_11 (pc' := 12) rfl ?_
  obtain ⟨hv, h⟩ := h
  refine e_calli (run_V (n := 2) C (m_X7_throwsIf hst h) gX7_dig_X7_throwsIf rfl ⟨rfl, by decide, by decide, by decide +kernel⟩ ⟨by decide, by decide⟩ (ci := 7) rfl rfl hv rfl (Nat.le_of_ble_eq_true rfl) dX7_dig_12 ⟨by decide, by decide⟩ (As := [.int v1, .int (1 : Int32)]) rfl) (pc' := 15) rfl (cn' := 0) (sn' := 0) rfl rfl (fun v2 ws h => ?_)
  refine e_if_ne C (tg := 65) dX7_dig_15 (by decide) (pc' := 18) rfl (fun hc => ?_) (fun hc => ?_)
  · replace h := h.1 hc
    refine e_iconst C (v := (0 : Int32)) (by decide) dX7_dig_65 (pc' := 66) rfl ?_
    exact r_int C F dX7_dig_66 (by decide) (by decide) h
  · replace h := h.2 hc
    refine e_aload_n C (x := p0) rfl dX7_dig_18 (pc' := 19) rfl ?_
    refine e_aload_n C (x := p0) rfl dX7_dig_19 (pc' := 20) rfl ?_
    refine f_getR C (ci := 7) (CN := RX7) (TT := TX7) (N := 36) 6 dX7_dig_20 (pc' := 23) rfl in_X7_dig_X7 rfl (by decide) fl_X7_dig_20 h (fun v3 h => ?_)
    refine e_iload_n C (x := p1) rfl dX7_dig_23 (pc' := 24) rfl ?_
    refine f_zaload C dX7_dig_24 (pc' := 25) rfl h (fun v4 h => ?_)
    refine e_iconst C (v := (2 : Int32)) (by decide) dX7_dig_25 (pc' := 26) rfl ?_
    obtain ⟨hv, h⟩ := h
    refine e_calli (run_V (n := 2) C (m_X7_throwsIf hst h) gX7_dig_X7_throwsIf rfl ⟨rfl, by decide, by decide, by decide +kernel⟩ ⟨by decide, by decide⟩ (ci := 7) rfl rfl hv rfl (Nat.le_of_ble_eq_true rfl) dX7_dig_26 ⟨by decide, by decide⟩ (As := [.int v4, .int (2 : Int32)]) rfl) (pc' := 29) rfl (cn' := 0) (sn' := 0) rfl rfl (fun v5 ws h => ?_)
    refine e_if_ne C (tg := 65) dX7_dig_29 (by decide) (pc' := 32) rfl (fun hc => ?_) (fun hc => ?_)
    · replace h := h.1 hc
      refine e_iconst C (v := (0 : Int32)) (by decide) dX7_dig_65 (pc' := 66) rfl ?_
      exact r_int C F dX7_dig_66 (by decide) (by decide) h
    · replace h := h.2 hc
      refine e_aload_n C (x := p0) rfl dX7_dig_32 (pc' := 33) rfl ?_
      refine e_iload_n C (x := p2) rfl dX7_dig_33 (pc' := 34) rfl ?_
      refine e_iconst C (v := (0 : Int32)) (by decide) dX7_dig_34 (pc' := 35) rfl ?_
      refine e_bipush C (v := (30 : Int32)) (by decide) dX7_dig_35 (pc' := 37) rfl ?_
      refine e_calli (run_S (n := 3) C (m_X7_in hst h) gX7_dig_X7_in rfl ⟨rfl, by decide, by decide, by decide +kernel⟩ ⟨by decide, by decide⟩ rfl (Nat.le_of_ble_eq_true rfl) dX7_dig_37 ⟨by decide, by decide⟩ (As := [.int p2, .int (0 : Int32), .int (30 : Int32)]) rfl) (pc' := 40) rfl (cn' := 0) (sn' := 0) rfl rfl (fun v6 ws h => ?_)
      refine e_if_eq C (tg := 53) dX7_dig_40 (by decide) (pc' := 43) rfl (fun hc => ?_) (fun hc => ?_)
      · replace h := h.1 hc
        exact h
      · replace h := h.2 hc
        refine e_iload_n C (x := p3) rfl dX7_dig_43 (pc' := 44) rfl ?_
        refine e_iconst C (v := (1 : Int32)) (by decide) dX7_dig_44 (pc' := 45) rfl ?_
        refine e_bipush C (v := (15 : Int32)) (by decide) dX7_dig_45 (pc' := 47) rfl ?_
        refine e_calli (run_S (n := 3) C (m_X7_in hst h) gX7_dig_X7_in rfl ⟨rfl, by decide, by decide, by decide +kernel⟩ ⟨by decide, by decide⟩ rfl (Nat.le_of_ble_eq_true rfl) dX7_dig_47 ⟨by decide, by decide⟩ (As := [.int p3, .int (1 : Int32), .int (15 : Int32)]) rfl) (pc' := 50) rfl (cn' := 0) (sn' := 0) rfl rfl (fun v7 ws h => ?_)
        refine e_if_ne C (tg := 57) dX7_dig_50 (by decide) (pc' := 53) rfl (fun hc => ?_) (fun hc => ?_)
        · replace h := h.1 hc
          refine e_iconst C (v := (0 : Int32)) (by decide) dX7_dig_57 (pc' := 58) rfl ?_
          exact h
        · replace h := h.2 hc
          exact h
abbrev rm_X7_years : Room := { frames := 1, cells := 0, slots := 0, locals := 22 }
set_option maxRecDepth 20000 in
theorem in_X7_years_X7 : ∀ w ∈ wsX70, w ∈ wsX7_years := by decide +kernel
set_option maxRecDepth 20000 in
theorem fl_X7_years_88 : Cond.fieldLink RX7 88 (TX7 0).1 (TX7 0).2.1 (TX7 0).2.2.1 ∈ wsX7_years := by decide +kernel
set_option maxRecDepth 20000 in
theorem fl_X7_years_126 : Cond.fieldLink RX7 126 (TX7 3).1 (TX7 3).2.1 (TX7 3).2.2.1 ∈ wsX7_years := by decide +kernel
def F_X7_years (G : Gx) (p0 : Nat) (p1 : Int32) (ws : va_W) (Q : Int32 → va_W → Prop) : Prop := ∀ (J21 : Int32 → Nat → va_W → Prop), (∀ (t0 : Int32) (t1 : Nat) (ws : va_W), (qV 7 t1 ws ∧ F_X7_throwsIf G t1 t0 (1 : Int32) ws (fun v2 ws => ((v2 = 0 → qI 7 3 p0 ws (fun v3 => qP 7 3 p0 (.int (v3 + p1)) ws (fun ws => qI 7 3 p0 ws (fun v4 => Q v4 ws)))) ∧ (¬ v2 = 0 → Q (0 : Int32) ws)))) → J21 t0 t1 ws) → qP 7 0 p0 (.int (0 : Int32)) ws (fun ws => (F_X7_in G p1 (0 : Int32) (100 : Int32) ws (fun v1 ws => ((¬ v1 = 0 → J21 (0 : Int32) p0 ws) ∧ (v1 = 0 → J21 (1 : Int32) p0 ws)))))
set_option maxRecDepth 20000 in
set_option maxHeartbeats 4000000 in
theorem m_X7_years {G : Gx} (hst : (gl G).stackTraces = false) {p0 : Nat} {p1 : Int32} {ws : va_W} {Q : Int32 → va_W → Prop} (h : F_X7_years G p0 p1 ws Q) : Mt G yX7_years wsX7_years rm_X7_years [.ref p0, .int p1] ws (QtI G Q) := by
  refine mk_Mt (cc := cX7_years) (nL := 2) (own := RX7) (ret := (some .int)) (lv0 := [some (.ref p0), some (.int p1)]) hst (by decide) rfl rfl (Nat.le_of_ble_eq_true rfl) rfl ?_
  intro K C F
  replace h := h (fun t0 t1 ws => Ev K G 2 0 0 21 [some (.ref p0), some (.int p1)] [.int t0, .ref t1] ws)
  replace h := h (by
    intro t0 t1 ws h
    show Ev K G 2 0 0 21 [some (.ref p0), some (.int p1)] [.int t0, .ref t1] ws
    refine e_iconst C (v := (1 : Int32)) (by decide) dX7_years_21 (pc' := 22) rfl ?_
    obtain ⟨hv, h⟩ := h
    refine e_calli (run_V (n := 2) C (m_X7_throwsIf hst h) gX7_years_X7_throwsIf rfl ⟨rfl, by decide, by decide, by decide +kernel⟩ ⟨by decide, by decide⟩ (ci := 7) rfl rfl hv rfl (Nat.le_of_ble_eq_true rfl) dX7_years_22 ⟨by decide, by decide⟩ (As := [.int t0, .int (1 : Int32)]) rfl) (pc' := 25) rfl (cn' := 0) (sn' := 0) rfl rfl (fun v2 ws h => ?_)
    refine e_if_eq C (tg := 30) dX7_years_25 (by decide) (pc' := 28) rfl (fun hc => ?_) (fun hc => ?_)
    · replace h := h.1 hc
      refine e_aload_n C (x := p0) rfl dX7_years_30 (pc' := 31) rfl ?_
      refine e_dup C rfl dX7_years_31 (pc' := 32) rfl ?_
      refine f_getI C (ci := 7) (CN := RX7) (TT := TX7) (N := 36) 3 dX7_years_32 (pc' := 35) rfl in_X7_years_X7 rfl (by decide) fl_X7_years_126 h (fun v3 h => ?_)
      refine e_iload_n C (x := p1) rfl dX7_years_35 (pc' := 36) rfl ?_
      refine e_iadd C dX7_years_36 (pc' := 37) rfl ?_
      refine f_putI C (ci := 7) (CN := RX7) (TT := TX7) (N := 36) 3 tyX7 dX7_years_37 (pc' := 40) rfl in_X7_years_X7 tyX7_ok nmX7 rfl (by decide) fl_X7_years_126 rfl (by decide +kernel) h (fun ws h => ?_)
      refine e_aload_n C (x := p0) rfl dX7_years_40 (pc' := 41) rfl ?_
      refine f_getI C (ci := 7) (CN := RX7) (TT := TX7) (N := 36) 3 dX7_years_41 (pc' := 44) rfl in_X7_years_X7 rfl (by decide) fl_X7_years_126 h (fun v4 h => ?_)
      exact r_int C F dX7_years_44 (by decide) (by decide) h
    · replace h := h.2 hc
      refine e_iconst C (v := (0 : Int32)) (by decide) dX7_years_28 (pc' := 29) rfl ?_
      exact r_int C F dX7_years_29 (by decide) (by decide) h)
  refine e_aload_n C (x := p0) rfl dX7_years_0 (pc' := 1) rfl ?_
  refine e_iconst C (v := (0 : Int32)) (by decide) dX7_years_1 (pc' := 2) rfl ?_
  refine f_putI C (ci := 7) (CN := RX7) (TT := TX7) (N := 36) 0 tyX7 dX7_years_2 (pc' := 5) rfl in_X7_years_X7 tyX7_ok nmX7 rfl (by decide) fl_X7_years_88 rfl (by decide +kernel) h (fun ws h => ?_)
  refine e_aload_n C (x := p0) rfl dX7_years_5 (pc' := 6) rfl ?_
  refine e_iload_n C (x := p1) rfl dX7_years_6 (pc' := 7) rfl ?_
  refine e_iconst C (v := (0 : Int32)) (by decide) dX7_years_7 (pc' := 8) rfl ?_
  refine e_bipush C (v := (100 : Int32)) (by decide) dX7_years_8 (pc' := 10) rfl ?_
  refine e_calli (run_S (n := 3) C (m_X7_in hst h) gX7_years_X7_in rfl ⟨rfl, by decide, by decide, by decide +kernel⟩ ⟨by decide, by decide⟩ rfl (Nat.le_of_ble_eq_true rfl) dX7_years_10 ⟨by decide, by decide⟩ (As := [.int p1, .int (0 : Int32), .int (100 : Int32)]) rfl) (pc' := 13) rfl (cn' := 0) (sn' := 0) rfl rfl (fun v1 ws h => ?_)
  refine e_if_ne C (tg := 20) dX7_years_13 (by decide) (pc' := 16) rfl (fun hc => ?_) (fun hc => ?_)
  · replace h := h.1 hc
    refine e_iconst C (v := (0 : Int32)) (by decide) dX7_years_20 (pc' := 21) rfl ?_
    exact h
  · replace h := h.2 hc
    refine e_iconst C (v := (1 : Int32)) (by decide) dX7_years_16 (pc' := 17) rfl ?_
    refine e_goto C (tg := 21) dX7_years_17 (by decide) ?_
    exact h
abbrev rm_X7_collapse : Room := { frames := 3, cells := 0, slots := 0, locals := 65 }
set_option maxRecDepth 20000 in
theorem in_X7_collapse_X7 : ∀ w ∈ wsX70, w ∈ wsX7_collapse := by decide +kernel
set_option maxRecDepth 20000 in
theorem fl_X7_collapse_88 : Cond.fieldLink RX7 88 (TX7 0).1 (TX7 0).2.1 (TX7 0).2.2.1 ∈ wsX7_collapse := by decide +kernel
set_option maxRecDepth 20000 in
theorem fl_X7_collapse_20 : Cond.fieldLink RX7 20 (TX7 6).1 (TX7 6).2.1 (TX7 6).2.2.1 ∈ wsX7_collapse := by decide +kernel
set_option maxRecDepth 20000 in
theorem fl_X7_collapse_42 : Cond.fieldLink RX7 42 (TX7 15).1 (TX7 15).2.1 (TX7 15).2.2.1 ∈ wsX7_collapse := by decide +kernel
def F_X7_collapse (G : Gx) (p0 : Nat) (p1 : Int32) (p2 : Int32) (p3 : Int32) (ws : va_W) (Q : Int32 → va_W → Prop) : Prop := ∀ (J34 : Int32 → Nat → va_W → Prop), (∀ (t0 : Int32) (t1 : Nat) (ws : va_W), (qV 7 t1 ws ∧ F_X7_throwsIf G t1 t0 (2 : Int32) ws (fun v5 ws => ((v5 = 0 → qR 7 15 p0 ws (fun v6 => qA (gc G 2) v6 (((20 : Int32) * p1) + p2) ws (fun v7 => qR 7 15 p0 ws (fun v8 => qS (gc G 2) v8 (((20 : Int32) * p1) + p2) (vp_nar .boolean p3) ws (fun ws => ((v7 = p3 → Q (0 : Int32) ws) ∧ (¬ v7 = p3 → Q (1 : Int32) ws))))))) ∧ (¬ v5 = 0 → Q (0 : Int32) ws)))) → J34 t0 t1 ws) → qP 7 0 p0 (.int (0 : Int32)) ws (fun ws => (qV 7 p0 ws ∧ F_X7_noWell G p0 p1 p2 ws (fun v1 ws => (qV 7 p0 ws ∧ F_X7_throwsIf G p0 v1 (1 : Int32) ws (fun v2 ws => ((¬ v2 = 0 → Q (0 : Int32) ws) ∧ (v2 = 0 → qR 7 6 p0 ws (fun v3 => qA (gc G 2) v3 p1 ws (fun v4 => ((¬ v4 = 0 → J34 (0 : Int32) p0 ws) ∧ (v4 = 0 → J34 (1 : Int32) p0 ws)))))))))))
set_option maxRecDepth 20000 in
set_option maxHeartbeats 4000000 in
theorem m_X7_collapse {G : Gx} (hst : (gl G).stackTraces = false) {p0 : Nat} {p1 : Int32} {p2 : Int32} {p3 : Int32} {ws : va_W} {Q : Int32 → va_W → Prop} (h : F_X7_collapse G p0 p1 p2 p3 ws Q) : Mt G yX7_collapse wsX7_collapse rm_X7_collapse [.ref p0, .int p1, .int p2, .int p3] ws (QtI G Q) := by
  refine mk_Mt (cc := cX7_collapse) (nL := 5) (own := RX7) (ret := (some .boolean)) (lv0 := [some (.ref p0), some (.int p1), some (.int p2), some (.int p3), none]) hst (by decide) rfl rfl (Nat.le_of_ble_eq_true rfl) rfl ?_
  intro K C F
  replace h := h (fun t0 t1 ws => Ev K G 5 0 0 34 [some (.ref p0), some (.int p1), some (.int p2), some (.int p3), none] [.int t0, .ref t1] ws)
  replace h := h (by
    intro t0 t1 ws h
    show Ev K G 5 0 0 34 [some (.ref p0), some (.int p1), some (.int p2), some (.int p3), none] [.int t0, .ref t1] ws
    refine e_iconst C (v := (2 : Int32)) (by decide) dX7_collapse_34 (pc' := 35) rfl ?_
    obtain ⟨hv, h⟩ := h
    refine e_calli (run_V (n := 2) C (m_X7_throwsIf hst h) gX7_collapse_X7_throwsIf rfl ⟨rfl, by decide, by decide, by decide +kernel⟩ ⟨by decide, by decide⟩ (ci := 7) rfl rfl hv rfl (Nat.le_of_ble_eq_true rfl) dX7_collapse_35 ⟨by decide, by decide⟩ (As := [.int t0, .int (2 : Int32)]) rfl) (pc' := 38) rfl (cn' := 0) (sn' := 0) rfl rfl (fun v5 ws h => ?_)
    refine e_if_eq C (tg := 43) dX7_collapse_38 (by decide) (pc' := 41) rfl (fun hc => ?_) (fun hc => ?_)
    · replace h := h.1 hc
      refine e_aload_n C (x := p0) rfl dX7_collapse_43 (pc' := 44) rfl ?_
      refine f_getR C (ci := 7) (CN := RX7) (TT := TX7) (N := 36) 15 dX7_collapse_44 (pc' := 47) rfl in_X7_collapse_X7 rfl (by decide) fl_X7_collapse_42 h (fun v6 h => ?_)
      refine e_bipush C (v := (20 : Int32)) (by decide) dX7_collapse_47 (pc' := 49) rfl ?_
      refine e_iload_n C (x := p1) rfl dX7_collapse_49 (pc' := 50) rfl ?_
      refine e_imul C dX7_collapse_50 (pc' := 51) rfl ?_
      refine e_iload_n C (x := p2) rfl dX7_collapse_51 (pc' := 52) rfl ?_
      refine e_iadd C dX7_collapse_52 (pc' := 53) rfl ?_
      refine f_zaload C dX7_collapse_53 (pc' := 54) rfl h (fun v7 h => ?_)
      refine e_istore C (by decide) dX7_collapse_54 (pc' := 56) rfl (lv' := [some (.ref p0), some (.int p1), some (.int p2), some (.int p3), some (.int v7)]) rfl ?_
      refine e_aload_n C (x := p0) rfl dX7_collapse_56 (pc' := 57) rfl ?_
      refine f_getR C (ci := 7) (CN := RX7) (TT := TX7) (N := 36) 15 dX7_collapse_57 (pc' := 60) rfl in_X7_collapse_X7 rfl (by decide) fl_X7_collapse_42 h (fun v8 h => ?_)
      refine e_bipush C (v := (20 : Int32)) (by decide) dX7_collapse_60 (pc' := 62) rfl ?_
      refine e_iload_n C (x := p1) rfl dX7_collapse_62 (pc' := 63) rfl ?_
      refine e_imul C dX7_collapse_63 (pc' := 64) rfl ?_
      refine e_iload_n C (x := p2) rfl dX7_collapse_64 (pc' := 65) rfl ?_
      refine e_iadd C dX7_collapse_65 (pc' := 66) rfl ?_
      refine e_iload_n C (x := p3) rfl dX7_collapse_66 (pc' := 67) rfl ?_
      refine f_zastore C dX7_collapse_67 (pc' := 68) rfl h (fun ws h => ?_)
      refine e_iload C (x := v7) rfl dX7_collapse_68 (pc' := 70) rfl ?_
      refine e_iload_n C (x := p3) rfl dX7_collapse_70 (pc' := 71) rfl ?_
      refine e_icmp_eq C (tg := 78) dX7_collapse_71 (by decide) (pc' := 74) rfl (fun hc => ?_) (fun hc => ?_)
      · replace h := h.1 hc
        refine e_iconst C (v := (0 : Int32)) (by decide) dX7_collapse_78 (pc' := 79) rfl ?_
        exact r_bool C F dX7_collapse_79 (by decide) (by decide) (Or.inl rfl) h
      · replace h := h.2 hc
        refine e_iconst C (v := (1 : Int32)) (by decide) dX7_collapse_74 (pc' := 75) rfl ?_
        refine e_goto C (tg := 79) dX7_collapse_75 (by decide) ?_
        exact r_bool C F dX7_collapse_79 (by decide) (by decide) (Or.inr rfl) h
    · replace h := h.2 hc
      refine e_iconst C (v := (0 : Int32)) (by decide) dX7_collapse_41 (pc' := 42) rfl ?_
      exact r_bool C F dX7_collapse_42 (by decide) (by decide) (Or.inl rfl) h)
  refine e_aload_n C (x := p0) rfl dX7_collapse_0 (pc' := 1) rfl ?_
  refine e_iconst C (v := (0 : Int32)) (by decide) dX7_collapse_1 (pc' := 2) rfl ?_
  refine f_putI C (ci := 7) (CN := RX7) (TT := TX7) (N := 36) 0 tyX7 dX7_collapse_2 (pc' := 5) rfl in_X7_collapse_X7 tyX7_ok nmX7 rfl (by decide) fl_X7_collapse_88 rfl (by decide +kernel) h (fun ws h => ?_)
  refine e_aload_n C (x := p0) rfl dX7_collapse_5 (pc' := 6) rfl ?_
  refine e_aload_n C (x := p0) rfl dX7_collapse_6 (pc' := 7) rfl ?_
  refine e_iload_n C (x := p1) rfl dX7_collapse_7 (pc' := 8) rfl ?_
  refine e_iload_n C (x := p2) rfl dX7_collapse_8 (pc' := 9) rfl ?_
  obtain ⟨hv, h⟩ := h
  refine e_calli (run_V (n := 2) C (m_X7_noWell hst h) gX7_collapse_X7_noWell rfl ⟨rfl, by decide, by decide, by decide +kernel⟩ ⟨by decide, by decide⟩ (ci := 7) rfl rfl hv rfl (Nat.le_of_ble_eq_true rfl) dX7_collapse_9 ⟨by decide, by decide⟩ (As := [.int p1, .int p2]) rfl) (pc' := 12) rfl (cn' := 0) (sn' := 0) rfl rfl (fun v1 ws h => ?_)
  refine e_iconst C (v := (1 : Int32)) (by decide) dX7_collapse_12 (pc' := 13) rfl ?_
  obtain ⟨hv, h⟩ := h
  refine e_calli (run_V (n := 2) C (m_X7_throwsIf hst h) gX7_collapse_X7_throwsIf rfl ⟨rfl, by decide, by decide, by decide +kernel⟩ ⟨by decide, by decide⟩ (ci := 7) rfl rfl hv rfl (Nat.le_of_ble_eq_true rfl) dX7_collapse_13 ⟨by decide, by decide⟩ (As := [.int v1, .int (1 : Int32)]) rfl) (pc' := 16) rfl (cn' := 0) (sn' := 0) rfl rfl (fun v2 ws h => ?_)
  refine e_if_ne C (tg := 41) dX7_collapse_16 (by decide) (pc' := 19) rfl (fun hc => ?_) (fun hc => ?_)
  · replace h := h.1 hc
    refine e_iconst C (v := (0 : Int32)) (by decide) dX7_collapse_41 (pc' := 42) rfl ?_
    exact r_bool C F dX7_collapse_42 (by decide) (by decide) (Or.inl rfl) h
  · replace h := h.2 hc
    refine e_aload_n C (x := p0) rfl dX7_collapse_19 (pc' := 20) rfl ?_
    refine e_aload_n C (x := p0) rfl dX7_collapse_20 (pc' := 21) rfl ?_
    refine f_getR C (ci := 7) (CN := RX7) (TT := TX7) (N := 36) 6 dX7_collapse_21 (pc' := 24) rfl in_X7_collapse_X7 rfl (by decide) fl_X7_collapse_20 h (fun v3 h => ?_)
    refine e_iload_n C (x := p1) rfl dX7_collapse_24 (pc' := 25) rfl ?_
    refine f_zaload C dX7_collapse_25 (pc' := 26) rfl h (fun v4 h => ?_)
    refine e_if_ne C (tg := 33) dX7_collapse_26 (by decide) (pc' := 29) rfl (fun hc => ?_) (fun hc => ?_)
    · replace h := h.1 hc
      refine e_iconst C (v := (0 : Int32)) (by decide) dX7_collapse_33 (pc' := 34) rfl ?_
      exact h
    · replace h := h.2 hc
      refine e_iconst C (v := (1 : Int32)) (by decide) dX7_collapse_29 (pc' := 30) rfl ?_
      refine e_goto C (tg := 34) dX7_collapse_30 (by decide) ?_
      exact h
abbrev rm_X7_runs : Room := { frames := 0, cells := 0, slots := 0, locals := 0 }
set_option maxRecDepth 20000 in
theorem in_X7_runs_X7 : ∀ w ∈ wsX70, w ∈ wsX7_runs := by decide +kernel
set_option maxRecDepth 20000 in
theorem fl_X7_runs_16 : Cond.fieldLink RX7 16 (TX7 5).1 (TX7 5).2.1 (TX7 5).2.2.1 ∈ wsX7_runs := by decide +kernel
set_option maxRecDepth 20000 in
theorem fl_X7_runs_42 : Cond.fieldLink RX7 42 (TX7 15).1 (TX7 15).2.1 (TX7 15).2.2.1 ∈ wsX7_runs := by decide +kernel
def F_X7_runs (G : Gx) (p0 : Nat) (p1 : Int32) (ws : va_W) (Q : Int32 → va_W → Prop) : Prop := ∀ (J2 : Int32 → va_W → Prop), (∀ (x2 : Int32) (ws : va_W), qR 7 5 p0 ws (fun v1 => qA (gc G 1) v1 p1 ws (fun v2 => ((v2 ≤ x2 → Q x2 ws) ∧ (¬ v2 ≤ x2 → qR 7 15 p0 ws (fun v3 => qA (gc G 2) v3 (((20 : Int32) * p1) + x2) ws (fun v4 => ((¬ v4 = 0 → Q x2 ws) ∧ (v4 = 0 → J2 (x2 + (1 : Int32)) ws)))))))) → J2 x2 ws) → J2 (0 : Int32) ws
set_option maxRecDepth 20000 in
set_option maxHeartbeats 4000000 in
theorem m_X7_runs {G : Gx} (hst : (gl G).stackTraces = false) {p0 : Nat} {p1 : Int32} {ws : va_W} {Q : Int32 → va_W → Prop} (h : F_X7_runs G p0 p1 ws Q) : Mt G yX7_runs wsX7_runs rm_X7_runs [.ref p0, .int p1] ws (QtI G Q) := by
  refine mk_Mt (cc := cX7_runs) (nL := 3) (own := RX7) (ret := (some .int)) (lv0 := [some (.ref p0), some (.int p1), none]) hst (by decide) rfl rfl (Nat.le_of_ble_eq_true rfl) rfl ?_
  intro K C F
  replace h := h (fun x2 ws => Ev K G 3 0 0 2 [some (.ref p0), some (.int p1), some (.int x2)] [] ws)
  replace h := h (by
    intro x2 ws h
    show Ev K G 3 0 0 2 [some (.ref p0), some (.int p1), some (.int x2)] [] ws
    refine e_iload_n C (x := x2) rfl dX7_runs_2 (pc' := 3) rfl ?_
    refine e_aload_n C (x := p0) rfl dX7_runs_3 (pc' := 4) rfl ?_
    refine f_getR C (ci := 7) (CN := RX7) (TT := TX7) (N := 36) 5 dX7_runs_4 (pc' := 7) rfl in_X7_runs_X7 rfl (by decide) fl_X7_runs_16 h (fun v1 h => ?_)
    refine e_iload_n C (x := p1) rfl dX7_runs_7 (pc' := 8) rfl ?_
    refine f_iaload C dX7_runs_8 (pc' := 9) rfl h (fun v2 h => ?_)
    refine e_icmp_ge C (tg := 32) dX7_runs_9 (by decide) (pc' := 12) rfl (fun hc => ?_) (fun hc => ?_)
    · replace h := h.1 hc
      refine e_iload_n C (x := x2) rfl dX7_runs_32 (pc' := 33) rfl ?_
      exact r_int C F dX7_runs_33 (by decide) (by decide) h
    · replace h := h.2 hc
      refine e_aload_n C (x := p0) rfl dX7_runs_12 (pc' := 13) rfl ?_
      refine f_getR C (ci := 7) (CN := RX7) (TT := TX7) (N := 36) 15 dX7_runs_13 (pc' := 16) rfl in_X7_runs_X7 rfl (by decide) fl_X7_runs_42 h (fun v3 h => ?_)
      refine e_bipush C (v := (20 : Int32)) (by decide) dX7_runs_16 (pc' := 18) rfl ?_
      refine e_iload_n C (x := p1) rfl dX7_runs_18 (pc' := 19) rfl ?_
      refine e_imul C dX7_runs_19 (pc' := 20) rfl ?_
      refine e_iload_n C (x := x2) rfl dX7_runs_20 (pc' := 21) rfl ?_
      refine e_iadd C dX7_runs_21 (pc' := 22) rfl ?_
      refine f_zaload C dX7_runs_22 (pc' := 23) rfl h (fun v4 h => ?_)
      refine e_if_ne C (tg := 32) dX7_runs_23 (by decide) (pc' := 26) rfl (fun hc => ?_) (fun hc => ?_)
      · replace h := h.1 hc
        refine e_iload_n C (x := x2) rfl dX7_runs_32 (pc' := 33) rfl ?_
        exact r_int C F dX7_runs_33 (by decide) (by decide) h
      · replace h := h.2 hc
        refine e_iinc C dX7_runs_26 (x := x2) (v := (x2 + (1 : Int32))) rfl rfl (by decide) (pc' := 29) rfl (lv' := [some (.ref p0), some (.int p1), some (.int (x2 + (1 : Int32)))]) rfl ?_
        refine e_goto C (tg := 2) dX7_runs_29 (by decide) ?_
        exact h)
  refine e_iconst C (v := (0 : Int32)) (by decide) dX7_runs_0 (pc' := 1) rfl ?_
  refine e_istore_n C (by decide) dX7_runs_1 (pc' := 2) rfl (lv' := [some (.ref p0), some (.int p1), some (.int (0 : Int32))]) rfl ?_
  exact h
abbrev rm_X7_draw : Room := { frames := 2, cells := 0, slots := 0, locals := 37 }
set_option maxRecDepth 20000 in
theorem in_X7_draw_X7 : ∀ w ∈ wsX70, w ∈ wsX7_draw := by decide +kernel
set_option maxRecDepth 20000 in
theorem fl_X7_draw_126 : Cond.fieldLink RX7 126 (TX7 3).1 (TX7 3).2.1 (TX7 3).2.2.1 ∈ wsX7_draw := by decide +kernel
set_option maxRecDepth 20000 in
theorem fl_X7_draw_24 : Cond.fieldLink RX7 24 (TX7 7).1 (TX7 7).2.1 (TX7 7).2.2.1 ∈ wsX7_draw := by decide +kernel
set_option maxRecDepth 20000 in
theorem fl_X7_draw_33 : Cond.fieldLink RX7 33 (TX7 12).1 (TX7 12).2.1 (TX7 12).2.2.1 ∈ wsX7_draw := by decide +kernel
set_option maxRecDepth 20000 in
theorem fl_X7_draw_36 : Cond.fieldLink RX7 36 (TX7 13).1 (TX7 13).2.1 (TX7 13).2.2.1 ∈ wsX7_draw := by decide +kernel
set_option maxRecDepth 20000 in
theorem w_X7_draw_ml115 : Cond.methodLink RX7 115 Lib.Math.max.name ∈ wsX7_draw := by decide +kernel
set_option maxRecDepth 20000 in
theorem w_X7_draw_ms_max : Cond.static Lib.Math.max.name ∈ wsX7_draw := by decide +kernel
set_option maxRecDepth 20000 in
theorem w_X7_draw_mi : Cond.initialized "java/lang/Math" ∈ wsX7_draw := by decide +kernel
set_option maxRecDepth 20000 in
theorem w_X7_draw_mc_max : Cond.code Lib.Math.max.name Lib.Math.max.code 2 (some .int) ∈ wsX7_draw := by decide +kernel
def F_X7_draw (G : Gx) (p0 : Nat) (p1 : Int32) (p2 : Int32) (p3 : Int32) (ws : va_W) (Q : Int32 → va_W → Prop) : Prop := ∀ (J9 : Int32 → Int32 → va_W → Prop), (∀ (x4 : Int32) (x5 : Int32) (ws : va_W), (qV 7 p0 ws ∧ F_X7_runs G p0 p1 ws (fun v1 ws => (((((20 : Int32) * p1) + v1) ≤ x5 → qI 7 3 p0 ws (fun v2 => qR 7 7 p0 ws (fun v3 => qA (gc G 1) v3 p1 ws (fun v4 => (((5 : Int32) ≤ (v2 - v4) → Q x4 ws) ∧ (¬ (5 : Int32) ≤ (v2 - v4) → Q ((x4 * (v2 - v4)) / (5 : Int32)) ws)))))) ∧ (¬ (((20 : Int32) * p1) + v1) ≤ x5 → qR 7 12 p0 ws (fun v5 => qA (gc G 1) v5 x5 ws (fun v6 => qR 7 13 p0 ws (fun v7 => qA (gc G 1) v7 x5 ws (fun v8 => (F_X7_steps G p2 p3 v6 v8 ws (fun v9 ws => J9 (if x4 < ((30 : Int32) - v9) then ((30 : Int32) - v9) else x4) (x5 + (1 : Int32)) ws)))))))))) → J9 x4 x5 ws) → J9 (0 : Int32) ((20 : Int32) * p1) ws
set_option maxRecDepth 20000 in
set_option maxHeartbeats 4000000 in
theorem m_X7_draw {G : Gx} (hst : (gl G).stackTraces = false) {p0 : Nat} {p1 : Int32} {p2 : Int32} {p3 : Int32} {ws : va_W} {Q : Int32 → va_W → Prop} (h : F_X7_draw G p0 p1 p2 p3 ws Q) : Mt G yX7_draw wsX7_draw rm_X7_draw [.ref p0, .int p1, .int p2, .int p3] ws (QtI G Q) := by
  refine mk_Mt (cc := cX7_draw) (nL := 6) (own := RX7) (ret := (some .int)) (lv0 := [some (.ref p0), some (.int p1), some (.int p2), some (.int p3), none, none]) hst (by decide) rfl rfl (Nat.le_of_ble_eq_true rfl) rfl ?_
  intro K C F
  replace h := h (fun x4 x5 ws => Ev K G 6 0 0 9 [some (.ref p0), some (.int p1), some (.int p2), some (.int p3), some (.int x4), some (.int x5)] [] ws)
  replace h := h (by
    intro x4 x5 ws h
    show Ev K G 6 0 0 9 [some (.ref p0), some (.int p1), some (.int p2), some (.int p3), some (.int x4), some (.int x5)] [] ws
    refine e_iload C (x := x5) rfl dX7_draw_9 (pc' := 11) rfl ?_
    refine e_bipush C (v := (20 : Int32)) (by decide) dX7_draw_11 (pc' := 13) rfl ?_
    refine e_iload_n C (x := p1) rfl dX7_draw_13 (pc' := 14) rfl ?_
    refine e_imul C dX7_draw_14 (pc' := 15) rfl ?_
    refine e_aload_n C (x := p0) rfl dX7_draw_15 (pc' := 16) rfl ?_
    refine e_iload_n C (x := p1) rfl dX7_draw_16 (pc' := 17) rfl ?_
    obtain ⟨hv, h⟩ := h
    refine e_calli (run_V (n := 1) C (m_X7_runs hst h) gX7_draw_X7_runs rfl ⟨rfl, by decide, by decide, by decide +kernel⟩ ⟨by decide, by decide⟩ (ci := 7) rfl rfl hv rfl (Nat.le_of_ble_eq_true rfl) dX7_draw_17 ⟨by decide, by decide⟩ (As := [.int p1]) rfl) (pc' := 20) rfl (cn' := 0) (sn' := 0) rfl rfl (fun v1 ws h => ?_)
    refine e_iadd C dX7_draw_20 (pc' := 21) rfl ?_
    refine e_icmp_ge C (tg := 59) dX7_draw_21 (by decide) (pc' := 24) rfl (fun hc => ?_) (fun hc => ?_)
    · replace h := h.1 hc
      refine e_aload_n C (x := p0) rfl dX7_draw_59 (pc' := 60) rfl ?_
      refine f_getI C (ci := 7) (CN := RX7) (TT := TX7) (N := 36) 3 dX7_draw_60 (pc' := 63) rfl in_X7_draw_X7 rfl (by decide) fl_X7_draw_126 h (fun v2 h => ?_)
      refine e_aload_n C (x := p0) rfl dX7_draw_63 (pc' := 64) rfl ?_
      refine f_getR C (ci := 7) (CN := RX7) (TT := TX7) (N := 36) 7 dX7_draw_64 (pc' := 67) rfl in_X7_draw_X7 rfl (by decide) fl_X7_draw_24 h (fun v3 h => ?_)
      refine e_iload_n C (x := p1) rfl dX7_draw_67 (pc' := 68) rfl ?_
      refine f_iaload C dX7_draw_68 (pc' := 69) rfl h (fun v4 h => ?_)
      refine e_isub C dX7_draw_69 (pc' := 70) rfl ?_
      refine e_istore C (by decide) dX7_draw_70 (pc' := 72) rfl (lv' := [some (.ref p0), some (.int p1), some (.int p2), some (.int p3), some (.int x4), some (.int (v2 - v4))]) rfl ?_
      refine e_iload C (x := (v2 - v4)) rfl dX7_draw_72 (pc' := 74) rfl ?_
      refine e_iconst C (v := (5 : Int32)) (by decide) dX7_draw_74 (pc' := 75) rfl ?_
      refine e_icmp_ge C (tg := 88) dX7_draw_75 (by decide) (pc' := 78) rfl (fun hc => ?_) (fun hc => ?_)
      · replace h := h.1 hc
        refine e_iload C (x := x4) rfl dX7_draw_88 (pc' := 90) rfl ?_
        exact r_int C F dX7_draw_90 (by decide) (by decide) h
      · replace h := h.2 hc
        refine e_iload C (x := x4) rfl dX7_draw_78 (pc' := 80) rfl ?_
        refine e_iload C (x := (v2 - v4)) rfl dX7_draw_80 (pc' := 82) rfl ?_
        refine e_imul C dX7_draw_82 (pc' := 83) rfl ?_
        refine e_iconst C (v := (5 : Int32)) (by decide) dX7_draw_83 (pc' := 84) rfl ?_
        refine e_idiv C (by decide) dX7_draw_84 (pc' := 85) rfl ?_
        refine e_goto C (tg := 90) dX7_draw_85 (by decide) ?_
        exact r_int C F dX7_draw_90 (by decide) (by decide) h
    · replace h := h.2 hc
      refine e_iload C (x := x4) rfl dX7_draw_24 (pc' := 26) rfl ?_
      refine e_bipush C (v := (30 : Int32)) (by decide) dX7_draw_26 (pc' := 28) rfl ?_
      refine e_iload_n C (x := p2) rfl dX7_draw_28 (pc' := 29) rfl ?_
      refine e_iload_n C (x := p3) rfl dX7_draw_29 (pc' := 30) rfl ?_
      refine e_aload_n C (x := p0) rfl dX7_draw_30 (pc' := 31) rfl ?_
      refine f_getR C (ci := 7) (CN := RX7) (TT := TX7) (N := 36) 12 dX7_draw_31 (pc' := 34) rfl in_X7_draw_X7 rfl (by decide) fl_X7_draw_33 h (fun v5 h => ?_)
      refine e_iload C (x := x5) rfl dX7_draw_34 (pc' := 36) rfl ?_
      refine f_iaload C dX7_draw_36 (pc' := 37) rfl h (fun v6 h => ?_)
      refine e_aload_n C (x := p0) rfl dX7_draw_37 (pc' := 38) rfl ?_
      refine f_getR C (ci := 7) (CN := RX7) (TT := TX7) (N := 36) 13 dX7_draw_38 (pc' := 41) rfl in_X7_draw_X7 rfl (by decide) fl_X7_draw_36 h (fun v7 h => ?_)
      refine e_iload C (x := x5) rfl dX7_draw_41 (pc' := 43) rfl ?_
      refine f_iaload C dX7_draw_43 (pc' := 44) rfl h (fun v8 h => ?_)
      refine e_calli (run_S (n := 4) C (m_X7_steps hst h) gX7_draw_X7_steps rfl ⟨rfl, by decide, by decide, by decide +kernel⟩ ⟨by decide, by decide⟩ rfl (Nat.le_of_ble_eq_true rfl) dX7_draw_44 ⟨by decide, by decide⟩ (As := [.int p2, .int p3, .int v6, .int v8]) rfl) (pc' := 47) rfl (cn' := 0) (sn' := 0) rfl rfl (fun v9 ws h => ?_)
      refine e_isub C dX7_draw_47 (pc' := 48) rfl ?_
      refine e_mmax C dX7_draw_48 (pc' := 51) rfl w_X7_draw_ml115 w_X7_draw_ms_max w_X7_draw_mi w_X7_draw_mc_max (by decide) (Nat.le_of_ble_eq_true rfl) (by decide) (by decide) ?_
      refine e_istore C (by decide) dX7_draw_51 (pc' := 53) rfl (lv' := [some (.ref p0), some (.int p1), some (.int p2), some (.int p3), some (.int (if x4 < ((30 : Int32) - v9) then ((30 : Int32) - v9) else x4)), some (.int x5)]) rfl ?_
      refine e_iinc C dX7_draw_53 (x := x5) (v := (x5 + (1 : Int32))) rfl rfl (by decide) (pc' := 56) rfl (lv' := [some (.ref p0), some (.int p1), some (.int p2), some (.int p3), some (.int (if x4 < ((30 : Int32) - v9) then ((30 : Int32) - v9) else x4)), some (.int (x5 + (1 : Int32)))]) rfl ?_
      refine e_goto C (tg := 9) dX7_draw_56 (by decide) ?_
      exact h)
  refine e_iconst C (v := (0 : Int32)) (by decide) dX7_draw_0 (pc' := 1) rfl ?_
  refine e_istore C (by decide) dX7_draw_1 (pc' := 3) rfl (lv' := [some (.ref p0), some (.int p1), some (.int p2), some (.int p3), some (.int (0 : Int32)), none]) rfl ?_
  refine e_bipush C (v := (20 : Int32)) (by decide) dX7_draw_3 (pc' := 5) rfl ?_
  refine e_iload_n C (x := p1) rfl dX7_draw_5 (pc' := 6) rfl ?_
  refine e_imul C dX7_draw_6 (pc' := 7) rfl ?_
  refine e_istore C (by decide) dX7_draw_7 (pc' := 9) rfl (lv' := [some (.ref p0), some (.int p1), some (.int p2), some (.int p3), some (.int (0 : Int32)), some (.int ((20 : Int32) * p1))]) rfl ?_
  exact h
abbrev rm_X7_seeps : Room := { frames := 3, cells := 0, slots := 0, locals := 62 }
set_option maxRecDepth 20000 in
theorem in_X7_seeps_X7 : ∀ w ∈ wsX70, w ∈ wsX7_seeps := by decide +kernel
set_option maxRecDepth 20000 in
theorem fl_X7_seeps_7 : Cond.fieldLink RX7 7 (TX7 1).1 (TX7 1).2.1 (TX7 1).2.2.1 ∈ wsX7_seeps := by decide +kernel
set_option maxRecDepth 20000 in
theorem fl_X7_seeps_13 : Cond.fieldLink RX7 13 (TX7 2).1 (TX7 2).2.1 (TX7 2).2.2.1 ∈ wsX7_seeps := by decide +kernel
set_option maxRecDepth 20000 in
theorem fl_X7_seeps_33 : Cond.fieldLink RX7 33 (TX7 12).1 (TX7 12).2.1 (TX7 12).2.2.1 ∈ wsX7_seeps := by decide +kernel
set_option maxRecDepth 20000 in
theorem fl_X7_seeps_91 : Cond.fieldLink RX7 91 (TX7 10).1 (TX7 10).2.1 (TX7 10).2.2.1 ∈ wsX7_seeps := by decide +kernel
set_option maxRecDepth 20000 in
theorem fl_X7_seeps_39 : Cond.fieldLink RX7 39 (TX7 14).1 (TX7 14).2.1 (TX7 14).2.2.1 ∈ wsX7_seeps := by decide +kernel
set_option maxRecDepth 20000 in
theorem w_X7_seeps_ml147 : Cond.methodLink RX7 147 Lib.Math.min.name ∈ wsX7_seeps := by decide +kernel
set_option maxRecDepth 20000 in
theorem w_X7_seeps_ms_min : Cond.static Lib.Math.min.name ∈ wsX7_seeps := by decide +kernel
set_option maxRecDepth 20000 in
theorem w_X7_seeps_mi : Cond.initialized "java/lang/Math" ∈ wsX7_seeps := by decide +kernel
set_option maxRecDepth 20000 in
theorem w_X7_seeps_mc_min : Cond.code Lib.Math.min.name Lib.Math.min.code 2 (some .int) ∈ wsX7_seeps := by decide +kernel
set_option maxRecDepth 20000 in
theorem fl_X7_seeps_20 : Cond.fieldLink RX7 20 (TX7 6).1 (TX7 6).2.1 (TX7 6).2.2.1 ∈ wsX7_seeps := by decide +kernel
set_option maxRecDepth 20000 in
theorem fl_X7_seeps_27 : Cond.fieldLink RX7 27 (TX7 8).1 (TX7 8).2.1 (TX7 8).2.2.1 ∈ wsX7_seeps := by decide +kernel
set_option maxRecDepth 20000 in
theorem fl_X7_seeps_36 : Cond.fieldLink RX7 36 (TX7 13).1 (TX7 13).2.1 (TX7 13).2.2.1 ∈ wsX7_seeps := by decide +kernel
def F_X7_seeps (G : Gx) (p0 : Nat) (p1 : Int32) (p2 : Int32) (p3 : Int32) (ws : va_W) (Q : Int32 → va_W → Prop) : Prop := ∀ (J30 : Int32 → Int32 → Int32 → va_W → Prop), ∀ (J91 : Int32 → Int32 → Int32 → va_W → Prop), (∀ (x4 : Int32) (x5 : Int32) (x6 : Int32) (ws : va_W), qI 7 10 p0 ws (fun v5 => ((v5 ≤ x6 → qR 7 14 p0 ws (fun v6 => qA (gc G 1) v6 x4 ws (fun v7 => ((v7 < x5 → qR 7 14 p0 ws (fun v8 => qA (gc G 1) v8 x4 ws (fun v9 => Q (if ((x5 - v9) / (10 : Int32)) < (50 : Int32) then ((x5 - v9) / (10 : Int32)) else (50 : Int32)) ws))) ∧ (¬ v7 < x5 → Q (0 : Int32) ws))))) ∧ (¬ v5 ≤ x6 → ((x6 = p1 → J91 x4 x5 x6 ws) ∧ (¬ x6 = p1 → qR 7 6 p0 ws (fun v10 => qA (gc G 2) v10 x6 ws (fun v11 => ((v11 = 0 → J91 x4 x5 x6 ws) ∧ (¬ v11 = 0 → qR 7 8 p0 ws (fun v12 => qA (gc G 1) v12 x6 ws (fun v13 => ((p3 < v13 → J91 x4 x5 x6 ws) ∧ (¬ p3 < v13 → qR 7 12 p0 ws (fun v14 => qA (gc G 1) v14 x4 ws (fun v15 => qR 7 13 p0 ws (fun v16 => qA (gc G 1) v16 x4 ws (fun v17 => (qV 7 p0 ws ∧ F_X7_draw G p0 x6 v15 v17 ws (fun v18 ws => J91 x4 (x5 - v18) x6 ws))))))))))))))))))) → J30 x4 x5 x6 ws) → (∀ (x4 : Int32) (x5 : Int32) (x6 : Int32) (ws : va_W), J30 x4 x5 (x6 + (1 : Int32)) ws → J91 x4 x5 x6 ws) → qI 7 1 p0 ws (fun v1 => qI 7 2 p0 ws (fun v2 => qR 7 12 p0 ws (fun v3 => qA (gc G 1) v3 (((20 : Int32) * p1) + p2) ws (fun v4 => J30 (((20 : Int32) * p1) + p2) (v1 + (v2 * v4)) (0 : Int32) ws))))
set_option maxRecDepth 20000 in
set_option maxHeartbeats 4000000 in
theorem m_X7_seeps {G : Gx} (hst : (gl G).stackTraces = false) {p0 : Nat} {p1 : Int32} {p2 : Int32} {p3 : Int32} {ws : va_W} {Q : Int32 → va_W → Prop} (h : F_X7_seeps G p0 p1 p2 p3 ws Q) : Mt G yX7_seeps wsX7_seeps rm_X7_seeps [.ref p0, .int p1, .int p2, .int p3] ws (QtI G Q) := by
  refine mk_Mt (cc := cX7_seeps) (nL := 7) (own := RX7) (ret := (some .int)) (lv0 := [some (.ref p0), some (.int p1), some (.int p2), some (.int p3), none, none, none]) hst (by decide) rfl rfl (Nat.le_of_ble_eq_true rfl) rfl ?_
  intro K C F
  replace h := h (fun x4 x5 x6 ws => Ev K G 7 0 0 30 [some (.ref p0), some (.int p1), none, some (.int p3), some (.int x4), some (.int x5), some (.int x6)] [] ws) (fun x4 x5 x6 ws => Ev K G 7 0 0 91 [some (.ref p0), some (.int p1), none, some (.int p3), some (.int x4), some (.int x5), some (.int x6)] [] ws)
  replace h := h (by
    intro x4 x5 x6 ws h
    show Ev K G 7 0 0 30 [some (.ref p0), some (.int p1), none, some (.int p3), some (.int x4), some (.int x5), some (.int x6)] [] ws
    refine e_iload C (x := x6) rfl dX7_seeps_30 (pc' := 32) rfl ?_
    refine e_aload_n C (x := p0) rfl dX7_seeps_32 (pc' := 33) rfl ?_
    refine f_getI C (ci := 7) (CN := RX7) (TT := TX7) (N := 36) 10 dX7_seeps_33 (pc' := 36) rfl in_X7_seeps_X7 rfl (by decide) fl_X7_seeps_91 h (fun v5 h => ?_)
    refine e_icmp_ge C (tg := 97) dX7_seeps_36 (by decide) (pc' := 39) rfl (fun hc => ?_) (fun hc => ?_)
    · replace h := h.1 hc
      refine e_iload C (x := x5) rfl dX7_seeps_97 (pc' := 99) rfl ?_
      refine e_aload_n C (x := p0) rfl dX7_seeps_99 (pc' := 100) rfl ?_
      refine f_getR C (ci := 7) (CN := RX7) (TT := TX7) (N := 36) 14 dX7_seeps_100 (pc' := 103) rfl in_X7_seeps_X7 rfl (by decide) fl_X7_seeps_39 h (fun v6 h => ?_)
      refine e_iload C (x := x4) rfl dX7_seeps_103 (pc' := 105) rfl ?_
      refine f_iaload C dX7_seeps_105 (pc' := 106) rfl h (fun v7 h => ?_)
      refine e_icmp_gt C (tg := 113) dX7_seeps_106 (by decide) (pc' := 109) rfl (fun hc => ?_) (fun hc => ?_)
      · replace h := h.1 hc
        refine e_bipush C (v := (50 : Int32)) (by decide) dX7_seeps_113 (pc' := 115) rfl ?_
        refine e_iload C (x := x5) rfl dX7_seeps_115 (pc' := 117) rfl ?_
        refine e_aload_n C (x := p0) rfl dX7_seeps_117 (pc' := 118) rfl ?_
        refine f_getR C (ci := 7) (CN := RX7) (TT := TX7) (N := 36) 14 dX7_seeps_118 (pc' := 121) rfl in_X7_seeps_X7 rfl (by decide) fl_X7_seeps_39 h (fun v8 h => ?_)
        refine e_iload C (x := x4) rfl dX7_seeps_121 (pc' := 123) rfl ?_
        refine f_iaload C dX7_seeps_123 (pc' := 124) rfl h (fun v9 h => ?_)
        refine e_isub C dX7_seeps_124 (pc' := 125) rfl ?_
        refine e_bipush C (v := (10 : Int32)) (by decide) dX7_seeps_125 (pc' := 127) rfl ?_
        refine e_idiv C (by decide) dX7_seeps_127 (pc' := 128) rfl ?_
        refine e_mmin C dX7_seeps_128 (pc' := 131) rfl w_X7_seeps_ml147 w_X7_seeps_ms_min w_X7_seeps_mi w_X7_seeps_mc_min (by decide) (Nat.le_of_ble_eq_true rfl) (by decide) (by decide) ?_
        exact r_int C F dX7_seeps_131 (by decide) (by decide) h
      · replace h := h.2 hc
        refine e_iconst C (v := (0 : Int32)) (by decide) dX7_seeps_109 (pc' := 110) rfl ?_
        refine e_goto C (tg := 131) dX7_seeps_110 (by decide) ?_
        exact r_int C F dX7_seeps_131 (by decide) (by decide) h
    · replace h := h.2 hc
      refine e_iload C (x := x6) rfl dX7_seeps_39 (pc' := 41) rfl ?_
      refine e_iload_n C (x := p1) rfl dX7_seeps_41 (pc' := 42) rfl ?_
      refine e_icmp_eq C (tg := 91) dX7_seeps_42 (by decide) (pc' := 45) rfl (fun hc => ?_) (fun hc => ?_)
      · replace h := h.1 hc
        exact h
      · replace h := h.2 hc
        refine e_aload_n C (x := p0) rfl dX7_seeps_45 (pc' := 46) rfl ?_
        refine f_getR C (ci := 7) (CN := RX7) (TT := TX7) (N := 36) 6 dX7_seeps_46 (pc' := 49) rfl in_X7_seeps_X7 rfl (by decide) fl_X7_seeps_20 h (fun v10 h => ?_)
        refine e_iload C (x := x6) rfl dX7_seeps_49 (pc' := 51) rfl ?_
        refine f_zaload C dX7_seeps_51 (pc' := 52) rfl h (fun v11 h => ?_)
        refine e_if_eq C (tg := 91) dX7_seeps_52 (by decide) (pc' := 55) rfl (fun hc => ?_) (fun hc => ?_)
        · replace h := h.1 hc
          exact h
        · replace h := h.2 hc
          refine e_aload_n C (x := p0) rfl dX7_seeps_55 (pc' := 56) rfl ?_
          refine f_getR C (ci := 7) (CN := RX7) (TT := TX7) (N := 36) 8 dX7_seeps_56 (pc' := 59) rfl in_X7_seeps_X7 rfl (by decide) fl_X7_seeps_27 h (fun v12 h => ?_)
          refine e_iload C (x := x6) rfl dX7_seeps_59 (pc' := 61) rfl ?_
          refine f_iaload C dX7_seeps_61 (pc' := 62) rfl h (fun v13 h => ?_)
          refine e_iload_n C (x := p3) rfl dX7_seeps_62 (pc' := 63) rfl ?_
          refine e_icmp_gt C (tg := 91) dX7_seeps_63 (by decide) (pc' := 66) rfl (fun hc => ?_) (fun hc => ?_)
          · replace h := h.1 hc
            exact h
          · replace h := h.2 hc
            refine e_iload C (x := x5) rfl dX7_seeps_66 (pc' := 68) rfl ?_
            refine e_aload_n C (x := p0) rfl dX7_seeps_68 (pc' := 69) rfl ?_
            refine e_iload C (x := x6) rfl dX7_seeps_69 (pc' := 71) rfl ?_
            refine e_aload_n C (x := p0) rfl dX7_seeps_71 (pc' := 72) rfl ?_
            refine f_getR C (ci := 7) (CN := RX7) (TT := TX7) (N := 36) 12 dX7_seeps_72 (pc' := 75) rfl in_X7_seeps_X7 rfl (by decide) fl_X7_seeps_33 h (fun v14 h => ?_)
            refine e_iload C (x := x4) rfl dX7_seeps_75 (pc' := 77) rfl ?_
            refine f_iaload C dX7_seeps_77 (pc' := 78) rfl h (fun v15 h => ?_)
            refine e_aload_n C (x := p0) rfl dX7_seeps_78 (pc' := 79) rfl ?_
            refine f_getR C (ci := 7) (CN := RX7) (TT := TX7) (N := 36) 13 dX7_seeps_79 (pc' := 82) rfl in_X7_seeps_X7 rfl (by decide) fl_X7_seeps_36 h (fun v16 h => ?_)
            refine e_iload C (x := x4) rfl dX7_seeps_82 (pc' := 84) rfl ?_
            refine f_iaload C dX7_seeps_84 (pc' := 85) rfl h (fun v17 h => ?_)
            obtain ⟨hv, h⟩ := h
            refine e_calli (run_V (n := 3) C (m_X7_draw hst h) gX7_seeps_X7_draw rfl ⟨rfl, by decide, by decide, by decide +kernel⟩ ⟨by decide, by decide⟩ (ci := 7) rfl rfl hv rfl (Nat.le_of_ble_eq_true rfl) dX7_seeps_85 ⟨by decide, by decide⟩ (As := [.int x6, .int v15, .int v17]) rfl) (pc' := 88) rfl (cn' := 0) (sn' := 0) rfl rfl (fun v18 ws h => ?_)
            refine e_isub C dX7_seeps_88 (pc' := 89) rfl ?_
            refine e_istore C (by decide) dX7_seeps_89 (pc' := 91) rfl (lv' := [some (.ref p0), some (.int p1), none, some (.int p3), some (.int x4), some (.int (x5 - v18)), some (.int x6)]) rfl ?_
            exact h)
  replace h := h (by
    intro x4 x5 x6 ws h
    show Ev K G 7 0 0 91 [some (.ref p0), some (.int p1), none, some (.int p3), some (.int x4), some (.int x5), some (.int x6)] [] ws
    refine e_iinc C dX7_seeps_91 (x := x6) (v := (x6 + (1 : Int32))) rfl rfl (by decide) (pc' := 94) rfl (lv' := [some (.ref p0), some (.int p1), none, some (.int p3), some (.int x4), some (.int x5), some (.int (x6 + (1 : Int32)))]) rfl ?_
    refine e_goto C (tg := 30) dX7_seeps_94 (by decide) ?_
    exact h)
  refine e_bipush C (v := (20 : Int32)) (by decide) dX7_seeps_0 (pc' := 2) rfl ?_
  refine e_iload_n C (x := p1) rfl dX7_seeps_2 (pc' := 3) rfl ?_
  refine e_imul C dX7_seeps_3 (pc' := 4) rfl ?_
  refine e_iload_n C (x := p2) rfl dX7_seeps_4 (pc' := 5) rfl ?_
  refine e_iadd C dX7_seeps_5 (pc' := 6) rfl ?_
  refine e_istore C (by decide) dX7_seeps_6 (pc' := 8) rfl (lv' := [some (.ref p0), some (.int p1), some (.int p2), some (.int p3), some (.int (((20 : Int32) * p1) + p2)), none, none]) rfl ?_
  refine e_aload_n C (x := p0) rfl dX7_seeps_8 (pc' := 9) rfl ?_
  refine f_getI C (ci := 7) (CN := RX7) (TT := TX7) (N := 36) 1 dX7_seeps_9 (pc' := 12) rfl in_X7_seeps_X7 rfl (by decide) fl_X7_seeps_7 h (fun v1 h => ?_)
  refine e_aload_n C (x := p0) rfl dX7_seeps_12 (pc' := 13) rfl ?_
  refine f_getI C (ci := 7) (CN := RX7) (TT := TX7) (N := 36) 2 dX7_seeps_13 (pc' := 16) rfl in_X7_seeps_X7 rfl (by decide) fl_X7_seeps_13 h (fun v2 h => ?_)
  refine e_aload_n C (x := p0) rfl dX7_seeps_16 (pc' := 17) rfl ?_
  refine f_getR C (ci := 7) (CN := RX7) (TT := TX7) (N := 36) 12 dX7_seeps_17 (pc' := 20) rfl in_X7_seeps_X7 rfl (by decide) fl_X7_seeps_33 h (fun v3 h => ?_)
  refine e_iload C (x := (((20 : Int32) * p1) + p2)) rfl dX7_seeps_20 (pc' := 22) rfl ?_
  refine f_iaload C dX7_seeps_22 (pc' := 23) rfl h (fun v4 h => ?_)
  refine e_imul C dX7_seeps_23 (pc' := 24) rfl ?_
  refine e_iadd C dX7_seeps_24 (pc' := 25) rfl ?_
  refine e_istore C (by decide) dX7_seeps_25 (pc' := 27) rfl (lv' := [some (.ref p0), some (.int p1), some (.int p2), some (.int p3), some (.int (((20 : Int32) * p1) + p2)), some (.int (v1 + (v2 * v4))), none]) rfl ?_
  refine e_iconst C (v := (0 : Int32)) (by decide) dX7_seeps_27 (pc' := 28) rfl ?_
  refine e_istore C (by decide) dX7_seeps_28 (pc' := 30) rfl (lv' := [some (.ref p0), some (.int p1), some (.int p2), some (.int p3), some (.int (((20 : Int32) * p1) + p2)), some (.int (v1 + (v2 * v4))), some (.int (0 : Int32))]) rfl ?_
  refine e_mask [true, true, false, true, true, true, true] (lv' := [some (.ref p0), some (.int p1), none, some (.int p3), some (.int (((20 : Int32) * p1) + p2)), some (.int (v1 + (v2 * v4))), some (.int (0 : Int32))]) rfl ?_
  exact h
abbrev rm_X7_flows : Room := { frames := 4, cells := 0, slots := 0, locals := 88 }
set_option maxRecDepth 20000 in
theorem in_X7_flows_X7 : ∀ w ∈ wsX70, w ∈ wsX7_flows := by decide +kernel
set_option maxRecDepth 20000 in
theorem fl_X7_flows_39 : Cond.fieldLink RX7 39 (TX7 14).1 (TX7 14).2.1 (TX7 14).2.2.1 ∈ wsX7_flows := by decide +kernel
def F_X7_flows (G : Gx) (p0 : Nat) (p1 : Int32) (p2 : Int32) (ws : va_W) (Q : Int32 → va_W → Prop) : Prop := ∀ (J11 : Int32 → Int32 → va_W → Prop), ∀ (J76 : Int32 → Int32 → va_W → Prop), ∀ (J86 : Int32 → Int32 → va_W → Prop), (∀ (x3 : Int32) (x4 : Int32) (ws : va_W), ((x4 < 0 → Q x3 ws) ∧ (¬ x4 < 0 → (qV 7 p0 ws ∧ F_X7_seeps G p0 p1 x4 p2 ws (fun v2 ws => ((¬ x4 = 0 → qR 7 14 p0 ws (fun v3 => qA (gc G 1) v3 (((20 : Int32) * p1) + x4) ws (fun v4 => qR 7 14 p0 ws (fun v5 => qA (gc G 1) v5 ((((20 : Int32) * p1) + x4) - (1 : Int32)) ws (fun v6 => (((v4 - v6) = 0 → J76 (x3 + v2) x4 ws) ∧ (¬ (v4 - v6) = 0 → (((v4 - v6) ≤ (20 : Int32) → J86 (x3 + v2) x4 ws) ∧ (¬ (v4 - v6) ≤ (20 : Int32) → J76 (x3 + v2) x4 ws))))))))) ∧ (x4 = 0 → J86 (x3 + v2) x4 ws)))))) → J11 x3 x4 ws) → (∀ (x3 : Int32) (x4 : Int32) (ws : va_W), J86 (x3 - ((x3 + (99 : Int32)) / (100 : Int32))) x4 ws → J76 x3 x4 ws) → (∀ (x3 : Int32) (x4 : Int32) (ws : va_W), J11 x3 (x4 + (-1 : Int32)) ws → J86 x3 x4 ws) → (qV 7 p0 ws ∧ F_X7_runs G p0 p1 ws (fun v1 ws => J11 (0 : Int32) (v1 - (1 : Int32)) ws))
set_option maxRecDepth 20000 in
set_option maxHeartbeats 4000000 in
theorem m_X7_flows {G : Gx} (hst : (gl G).stackTraces = false) {p0 : Nat} {p1 : Int32} {p2 : Int32} {ws : va_W} {Q : Int32 → va_W → Prop} (h : F_X7_flows G p0 p1 p2 ws Q) : Mt G yX7_flows wsX7_flows rm_X7_flows [.ref p0, .int p1, .int p2] ws (QtI G Q) := by
  refine mk_Mt (cc := cX7_flows) (nL := 6) (own := RX7) (ret := (some .int)) (lv0 := [some (.ref p0), some (.int p1), some (.int p2), none, none, none]) hst (by decide) rfl rfl (Nat.le_of_ble_eq_true rfl) rfl ?_
  intro K C F
  replace h := h (fun x3 x4 ws => Ev K G 6 0 0 11 [some (.ref p0), some (.int p1), some (.int p2), some (.int x3), some (.int x4), none] [] ws) (fun x3 x4 ws => Ev K G 6 0 0 76 [some (.ref p0), some (.int p1), some (.int p2), some (.int x3), some (.int x4), none] [] ws) (fun x3 x4 ws => Ev K G 6 0 0 86 [some (.ref p0), some (.int p1), some (.int p2), some (.int x3), some (.int x4), none] [] ws)
  replace h := h (by
    intro x3 x4 ws h
    show Ev K G 6 0 0 11 [some (.ref p0), some (.int p1), some (.int p2), some (.int x3), some (.int x4), none] [] ws
    refine e_iload C (x := x4) rfl dX7_flows_11 (pc' := 13) rfl ?_
    refine e_if_lt C (tg := 92) dX7_flows_13 (by decide) (pc' := 16) rfl (fun hc => ?_) (fun hc => ?_)
    · replace h := h.1 hc
      refine e_iload_n C (x := x3) rfl dX7_flows_92 (pc' := 93) rfl ?_
      exact r_int C F dX7_flows_93 (by decide) (by decide) h
    · replace h := h.2 hc
      refine e_iload_n C (x := x3) rfl dX7_flows_16 (pc' := 17) rfl ?_
      refine e_aload_n C (x := p0) rfl dX7_flows_17 (pc' := 18) rfl ?_
      refine e_iload_n C (x := p1) rfl dX7_flows_18 (pc' := 19) rfl ?_
      refine e_iload C (x := x4) rfl dX7_flows_19 (pc' := 21) rfl ?_
      refine e_iload_n C (x := p2) rfl dX7_flows_21 (pc' := 22) rfl ?_
      obtain ⟨hv, h⟩ := h
      refine e_calli (run_V (n := 3) C (m_X7_seeps hst h) gX7_flows_X7_seeps rfl ⟨rfl, by decide, by decide, by decide +kernel⟩ ⟨by decide, by decide⟩ (ci := 7) rfl rfl hv rfl (Nat.le_of_ble_eq_true rfl) dX7_flows_22 ⟨by decide, by decide⟩ (As := [.int p1, .int x4, .int p2]) rfl) (pc' := 25) rfl (cn' := 0) (sn' := 0) rfl rfl (fun v2 ws h => ?_)
      refine e_iadd C dX7_flows_25 (pc' := 26) rfl ?_
      refine e_istore_n C (by decide) dX7_flows_26 (pc' := 27) rfl (lv' := [some (.ref p0), some (.int p1), some (.int p2), some (.int (x3 + v2)), some (.int x4), none]) rfl ?_
      refine e_iload C (x := x4) rfl dX7_flows_27 (pc' := 29) rfl ?_
      refine e_if_ne C (tg := 35) dX7_flows_29 (by decide) (pc' := 32) rfl (fun hc => ?_) (fun hc => ?_)
      · replace h := h.1 hc
        refine e_aload_n C (x := p0) rfl dX7_flows_35 (pc' := 36) rfl ?_
        refine f_getR C (ci := 7) (CN := RX7) (TT := TX7) (N := 36) 14 dX7_flows_36 (pc' := 39) rfl in_X7_flows_X7 rfl (by decide) fl_X7_flows_39 h (fun v3 h => ?_)
        refine e_bipush C (v := (20 : Int32)) (by decide) dX7_flows_39 (pc' := 41) rfl ?_
        refine e_iload_n C (x := p1) rfl dX7_flows_41 (pc' := 42) rfl ?_
        refine e_imul C dX7_flows_42 (pc' := 43) rfl ?_
        refine e_iload C (x := x4) rfl dX7_flows_43 (pc' := 45) rfl ?_
        refine e_iadd C dX7_flows_45 (pc' := 46) rfl ?_
        refine f_iaload C dX7_flows_46 (pc' := 47) rfl h (fun v4 h => ?_)
        refine e_aload_n C (x := p0) rfl dX7_flows_47 (pc' := 48) rfl ?_
        refine f_getR C (ci := 7) (CN := RX7) (TT := TX7) (N := 36) 14 dX7_flows_48 (pc' := 51) rfl in_X7_flows_X7 rfl (by decide) fl_X7_flows_39 h (fun v5 h => ?_)
        refine e_bipush C (v := (20 : Int32)) (by decide) dX7_flows_51 (pc' := 53) rfl ?_
        refine e_iload_n C (x := p1) rfl dX7_flows_53 (pc' := 54) rfl ?_
        refine e_imul C dX7_flows_54 (pc' := 55) rfl ?_
        refine e_iload C (x := x4) rfl dX7_flows_55 (pc' := 57) rfl ?_
        refine e_iadd C dX7_flows_57 (pc' := 58) rfl ?_
        refine e_iconst C (v := (1 : Int32)) (by decide) dX7_flows_58 (pc' := 59) rfl ?_
        refine e_isub C dX7_flows_59 (pc' := 60) rfl ?_
        refine f_iaload C dX7_flows_60 (pc' := 61) rfl h (fun v6 h => ?_)
        refine e_isub C dX7_flows_61 (pc' := 62) rfl ?_
        refine e_istore C (by decide) dX7_flows_62 (pc' := 64) rfl (lv' := [some (.ref p0), some (.int p1), some (.int p2), some (.int (x3 + v2)), some (.int x4), some (.int (v4 - v6))]) rfl ?_
        refine e_iload C (x := (v4 - v6)) rfl dX7_flows_64 (pc' := 66) rfl ?_
        refine e_if_eq C (tg := 76) dX7_flows_66 (by decide) (pc' := 69) rfl (fun hc => ?_) (fun hc => ?_)
        · replace h := h.1 hc
          refine e_mask [true, true, true, true, true, false] (lv' := [some (.ref p0), some (.int p1), some (.int p2), some (.int (x3 + v2)), some (.int x4), none]) rfl ?_
          exact h
        · replace h := h.2 hc
          refine e_iload C (x := (v4 - v6)) rfl dX7_flows_69 (pc' := 71) rfl ?_
          refine e_bipush C (v := (20 : Int32)) (by decide) dX7_flows_71 (pc' := 73) rfl ?_
          refine e_icmp_le C (tg := 86) dX7_flows_73 (by decide) (pc' := 76) rfl (fun hc => ?_) (fun hc => ?_)
          · replace h := h.1 hc
            refine e_mask [true, true, true, true, true, false] (lv' := [some (.ref p0), some (.int p1), some (.int p2), some (.int (x3 + v2)), some (.int x4), none]) rfl ?_
            exact h
          · replace h := h.2 hc
            refine e_mask [true, true, true, true, true, false] (lv' := [some (.ref p0), some (.int p1), some (.int p2), some (.int (x3 + v2)), some (.int x4), none]) rfl ?_
            exact h
      · replace h := h.2 hc
        refine e_goto C (tg := 86) dX7_flows_32 (by decide) ?_
        exact h)
  replace h := h (by
    intro x3 x4 ws h
    show Ev K G 6 0 0 76 [some (.ref p0), some (.int p1), some (.int p2), some (.int x3), some (.int x4), none] [] ws
    refine e_iload_n C (x := x3) rfl dX7_flows_76 (pc' := 77) rfl ?_
    refine e_iload_n C (x := x3) rfl dX7_flows_77 (pc' := 78) rfl ?_
    refine e_bipush C (v := (99 : Int32)) (by decide) dX7_flows_78 (pc' := 80) rfl ?_
    refine e_iadd C dX7_flows_80 (pc' := 81) rfl ?_
    refine e_bipush C (v := (100 : Int32)) (by decide) dX7_flows_81 (pc' := 83) rfl ?_
    refine e_idiv C (by decide) dX7_flows_83 (pc' := 84) rfl ?_
    refine e_isub C dX7_flows_84 (pc' := 85) rfl ?_
    refine e_istore_n C (by decide) dX7_flows_85 (pc' := 86) rfl (lv' := [some (.ref p0), some (.int p1), some (.int p2), some (.int (x3 - ((x3 + (99 : Int32)) / (100 : Int32)))), some (.int x4), none]) rfl ?_
    exact h)
  replace h := h (by
    intro x3 x4 ws h
    show Ev K G 6 0 0 86 [some (.ref p0), some (.int p1), some (.int p2), some (.int x3), some (.int x4), none] [] ws
    refine e_iinc C dX7_flows_86 (x := x4) (v := (x4 + (-1 : Int32))) rfl rfl (by decide) (pc' := 89) rfl (lv' := [some (.ref p0), some (.int p1), some (.int p2), some (.int x3), some (.int (x4 + (-1 : Int32))), none]) rfl ?_
    refine e_goto C (tg := 11) dX7_flows_89 (by decide) ?_
    exact h)
  refine e_iconst C (v := (0 : Int32)) (by decide) dX7_flows_0 (pc' := 1) rfl ?_
  refine e_istore_n C (by decide) dX7_flows_1 (pc' := 2) rfl (lv' := [some (.ref p0), some (.int p1), some (.int p2), some (.int (0 : Int32)), none, none]) rfl ?_
  refine e_aload_n C (x := p0) rfl dX7_flows_2 (pc' := 3) rfl ?_
  refine e_iload_n C (x := p1) rfl dX7_flows_3 (pc' := 4) rfl ?_
  obtain ⟨hv, h⟩ := h
  refine e_calli (run_V (n := 1) C (m_X7_runs hst h) gX7_flows_X7_runs rfl ⟨rfl, by decide, by decide, by decide +kernel⟩ ⟨by decide, by decide⟩ (ci := 7) rfl rfl hv rfl (Nat.le_of_ble_eq_true rfl) dX7_flows_4 ⟨by decide, by decide⟩ (As := [.int p1]) rfl) (pc' := 7) rfl (cn' := 0) (sn' := 0) rfl rfl (fun v1 ws h => ?_)
  refine e_iconst C (v := (1 : Int32)) (by decide) dX7_flows_7 (pc' := 8) rfl ?_
  refine e_isub C dX7_flows_8 (pc' := 9) rfl ?_
  refine e_istore C (by decide) dX7_flows_9 (pc' := 11) rfl (lv' := [some (.ref p0), some (.int p1), some (.int p2), some (.int (0 : Int32)), some (.int (v1 - (1 : Int32))), none]) rfl ?_
  exact h
abbrev rm_X7_flow : Room := { frames := 5, cells := 0, slots := 0, locals := 113 }
set_option maxRecDepth 20000 in
theorem in_X7_flow_X7 : ∀ w ∈ wsX70, w ∈ wsX7_flow := by decide +kernel
set_option maxRecDepth 20000 in
theorem fl_X7_flow_88 : Cond.fieldLink RX7 88 (TX7 0).1 (TX7 0).2.1 (TX7 0).2.2.1 ∈ wsX7_flow := by decide +kernel
set_option maxRecDepth 20000 in
theorem fl_X7_flow_20 : Cond.fieldLink RX7 20 (TX7 6).1 (TX7 6).2.1 (TX7 6).2.2.1 ∈ wsX7_flow := by decide +kernel
def F_X7_flow (G : Gx) (p0 : Nat) (p1 : Int32) (ws : va_W) (Q : Int32 → va_W → Prop) : Prop := ∀ (J33 : Int32 → Nat → va_W → Prop), (∀ (t0 : Int32) (t1 : Nat) (ws : va_W), (qV 7 t1 ws ∧ F_X7_throwsIf G t1 t0 (2 : Int32) ws (fun v5 ws => ((v5 = 0 → (qV 7 p0 ws ∧ F_X7_flows G p0 p1 (8 : Int32) ws (fun v6 ws => Q v6 ws))) ∧ (¬ v5 = 0 → Q (0 : Int32) ws)))) → J33 t0 t1 ws) → qP 7 0 p0 (.int (0 : Int32)) ws (fun ws => (qV 7 p0 ws ∧ F_X7_noChannel G p0 p1 ws (fun v1 ws => (qV 7 p0 ws ∧ F_X7_throwsIf G p0 v1 (1 : Int32) ws (fun v2 ws => ((¬ v2 = 0 → Q (0 : Int32) ws) ∧ (v2 = 0 → qR 7 6 p0 ws (fun v3 => qA (gc G 2) v3 p1 ws (fun v4 => ((¬ v4 = 0 → J33 (0 : Int32) p0 ws) ∧ (v4 = 0 → J33 (1 : Int32) p0 ws)))))))))))
set_option maxRecDepth 20000 in
set_option maxHeartbeats 4000000 in
theorem m_X7_flow {G : Gx} (hst : (gl G).stackTraces = false) {p0 : Nat} {p1 : Int32} {ws : va_W} {Q : Int32 → va_W → Prop} (h : F_X7_flow G p0 p1 ws Q) : Mt G yX7_flow wsX7_flow rm_X7_flow [.ref p0, .int p1] ws (QtI G Q) := by
  refine mk_Mt (cc := cX7_flow) (nL := 2) (own := RX7) (ret := (some .int)) (lv0 := [some (.ref p0), some (.int p1)]) hst (by decide) rfl rfl (Nat.le_of_ble_eq_true rfl) rfl ?_
  intro K C F
  replace h := h (fun t0 t1 ws => Ev K G 2 0 0 33 [some (.ref p0), some (.int p1)] [.int t0, .ref t1] ws)
  replace h := h (by
    intro t0 t1 ws h
    show Ev K G 2 0 0 33 [some (.ref p0), some (.int p1)] [.int t0, .ref t1] ws
    refine e_iconst C (v := (2 : Int32)) (by decide) dX7_flow_33 (pc' := 34) rfl ?_
    obtain ⟨hv, h⟩ := h
    refine e_calli (run_V (n := 2) C (m_X7_throwsIf hst h) gX7_flow_X7_throwsIf rfl ⟨rfl, by decide, by decide, by decide +kernel⟩ ⟨by decide, by decide⟩ (ci := 7) rfl rfl hv rfl (Nat.le_of_ble_eq_true rfl) dX7_flow_34 ⟨by decide, by decide⟩ (As := [.int t0, .int (2 : Int32)]) rfl) (pc' := 37) rfl (cn' := 0) (sn' := 0) rfl rfl (fun v5 ws h => ?_)
    refine e_if_eq C (tg := 44) dX7_flow_37 (by decide) (pc' := 40) rfl (fun hc => ?_) (fun hc => ?_)
    · replace h := h.1 hc
      refine e_aload_n C (x := p0) rfl dX7_flow_44 (pc' := 45) rfl ?_
      refine e_iload_n C (x := p1) rfl dX7_flow_45 (pc' := 46) rfl ?_
      refine e_bipush C (v := (8 : Int32)) (by decide) dX7_flow_46 (pc' := 48) rfl ?_
      obtain ⟨hv, h⟩ := h
      refine e_calli (run_V (n := 2) C (m_X7_flows hst h) gX7_flow_X7_flows rfl ⟨rfl, by decide, by decide, by decide +kernel⟩ ⟨by decide, by decide⟩ (ci := 7) rfl rfl hv rfl (Nat.le_of_ble_eq_true rfl) dX7_flow_48 ⟨by decide, by decide⟩ (As := [.int p1, .int (8 : Int32)]) rfl) (pc' := 51) rfl (cn' := 0) (sn' := 0) rfl rfl (fun v6 ws h => ?_)
      exact r_int C F dX7_flow_51 (by decide) (by decide) h
    · replace h := h.2 hc
      refine e_iconst C (v := (0 : Int32)) (by decide) dX7_flow_40 (pc' := 41) rfl ?_
      refine e_goto C (tg := 51) dX7_flow_41 (by decide) ?_
      exact r_int C F dX7_flow_51 (by decide) (by decide) h)
  refine e_aload_n C (x := p0) rfl dX7_flow_0 (pc' := 1) rfl ?_
  refine e_iconst C (v := (0 : Int32)) (by decide) dX7_flow_1 (pc' := 2) rfl ?_
  refine f_putI C (ci := 7) (CN := RX7) (TT := TX7) (N := 36) 0 tyX7 dX7_flow_2 (pc' := 5) rfl in_X7_flow_X7 tyX7_ok nmX7 rfl (by decide) fl_X7_flow_88 rfl (by decide +kernel) h (fun ws h => ?_)
  refine e_aload_n C (x := p0) rfl dX7_flow_5 (pc' := 6) rfl ?_
  refine e_aload_n C (x := p0) rfl dX7_flow_6 (pc' := 7) rfl ?_
  refine e_iload_n C (x := p1) rfl dX7_flow_7 (pc' := 8) rfl ?_
  obtain ⟨hv, h⟩ := h
  refine e_calli (run_V (n := 1) C (m_X7_noChannel hst h) gX7_flow_X7_noChannel rfl ⟨rfl, by decide, by decide, by decide +kernel⟩ ⟨by decide, by decide⟩ (ci := 7) rfl rfl hv rfl (Nat.le_of_ble_eq_true rfl) dX7_flow_8 ⟨by decide, by decide⟩ (As := [.int p1]) rfl) (pc' := 11) rfl (cn' := 0) (sn' := 0) rfl rfl (fun v1 ws h => ?_)
  refine e_iconst C (v := (1 : Int32)) (by decide) dX7_flow_11 (pc' := 12) rfl ?_
  obtain ⟨hv, h⟩ := h
  refine e_calli (run_V (n := 2) C (m_X7_throwsIf hst h) gX7_flow_X7_throwsIf rfl ⟨rfl, by decide, by decide, by decide +kernel⟩ ⟨by decide, by decide⟩ (ci := 7) rfl rfl hv rfl (Nat.le_of_ble_eq_true rfl) dX7_flow_12 ⟨by decide, by decide⟩ (As := [.int v1, .int (1 : Int32)]) rfl) (pc' := 15) rfl (cn' := 0) (sn' := 0) rfl rfl (fun v2 ws h => ?_)
  refine e_if_ne C (tg := 40) dX7_flow_15 (by decide) (pc' := 18) rfl (fun hc => ?_) (fun hc => ?_)
  · replace h := h.1 hc
    refine e_iconst C (v := (0 : Int32)) (by decide) dX7_flow_40 (pc' := 41) rfl ?_
    refine e_goto C (tg := 51) dX7_flow_41 (by decide) ?_
    exact r_int C F dX7_flow_51 (by decide) (by decide) h
  · replace h := h.2 hc
    refine e_aload_n C (x := p0) rfl dX7_flow_18 (pc' := 19) rfl ?_
    refine e_aload_n C (x := p0) rfl dX7_flow_19 (pc' := 20) rfl ?_
    refine f_getR C (ci := 7) (CN := RX7) (TT := TX7) (N := 36) 6 dX7_flow_20 (pc' := 23) rfl in_X7_flow_X7 rfl (by decide) fl_X7_flow_20 h (fun v3 h => ?_)
    refine e_iload_n C (x := p1) rfl dX7_flow_23 (pc' := 24) rfl ?_
    refine f_zaload C dX7_flow_24 (pc' := 25) rfl h (fun v4 h => ?_)
    refine e_if_ne C (tg := 32) dX7_flow_25 (by decide) (pc' := 28) rfl (fun hc => ?_) (fun hc => ?_)
    · replace h := h.1 hc
      refine e_iconst C (v := (0 : Int32)) (by decide) dX7_flow_32 (pc' := 33) rfl ?_
      exact h
    · replace h := h.2 hc
      refine e_iconst C (v := (1 : Int32)) (by decide) dX7_flow_28 (pc' := 29) rfl ?_
      refine e_goto C (tg := 33) dX7_flow_29 (by decide) ?_
      exact h
abbrev rm_X7_harm : Room := { frames := 5, cells := 0, slots := 0, locals := 113 }
set_option maxRecDepth 20000 in
theorem in_X7_harm_X7 : ∀ w ∈ wsX70, w ∈ wsX7_harm := by decide +kernel
set_option maxRecDepth 20000 in
theorem fl_X7_harm_88 : Cond.fieldLink RX7 88 (TX7 0).1 (TX7 0).2.1 (TX7 0).2.2.1 ∈ wsX7_harm := by decide +kernel
set_option maxRecDepth 20000 in
theorem fl_X7_harm_20 : Cond.fieldLink RX7 20 (TX7 6).1 (TX7 6).2.1 (TX7 6).2.2.1 ∈ wsX7_harm := by decide +kernel
set_option maxRecDepth 20000 in
theorem fl_X7_harm_27 : Cond.fieldLink RX7 27 (TX7 8).1 (TX7 8).2.1 (TX7 8).2.2.1 ∈ wsX7_harm := by decide +kernel
def F_X7_harm (G : Gx) (p0 : Nat) (p1 : Int32) (ws : va_W) (Q : Int32 → va_W → Prop) : Prop := ∀ (J33 : Int32 → Nat → va_W → Prop), (∀ (t0 : Int32) (t1 : Nat) (ws : va_W), (qV 7 t1 ws ∧ F_X7_throwsIf G t1 t0 (2 : Int32) ws (fun v5 ws => ((v5 = 0 → qR 7 8 p0 ws (fun v6 => qA (gc G 1) v6 p1 ws (fun v7 => (qV 7 p0 ws ∧ F_X7_flows G p0 p1 v7 ws (fun v8 ws => (qV 7 p0 ws ∧ F_X7_flows G p0 p1 (8 : Int32) ws (fun v9 ws => Q (v8 - v9) ws))))))) ∧ (¬ v5 = 0 → Q (0 : Int32) ws)))) → J33 t0 t1 ws) → qP 7 0 p0 (.int (0 : Int32)) ws (fun ws => (qV 7 p0 ws ∧ F_X7_noChannel G p0 p1 ws (fun v1 ws => (qV 7 p0 ws ∧ F_X7_throwsIf G p0 v1 (1 : Int32) ws (fun v2 ws => ((¬ v2 = 0 → Q (0 : Int32) ws) ∧ (v2 = 0 → qR 7 6 p0 ws (fun v3 => qA (gc G 2) v3 p1 ws (fun v4 => ((¬ v4 = 0 → J33 (0 : Int32) p0 ws) ∧ (v4 = 0 → J33 (1 : Int32) p0 ws)))))))))))
set_option maxRecDepth 20000 in
set_option maxHeartbeats 4000000 in
theorem m_X7_harm {G : Gx} (hst : (gl G).stackTraces = false) {p0 : Nat} {p1 : Int32} {ws : va_W} {Q : Int32 → va_W → Prop} (h : F_X7_harm G p0 p1 ws Q) : Mt G yX7_harm wsX7_harm rm_X7_harm [.ref p0, .int p1] ws (QtI G Q) := by
  refine mk_Mt (cc := cX7_harm) (nL := 2) (own := RX7) (ret := (some .int)) (lv0 := [some (.ref p0), some (.int p1)]) hst (by decide) rfl rfl (Nat.le_of_ble_eq_true rfl) rfl ?_
  intro K C F
  replace h := h (fun t0 t1 ws => Ev K G 2 0 0 33 [some (.ref p0), some (.int p1)] [.int t0, .ref t1] ws)
  replace h := h (by
    intro t0 t1 ws h
    show Ev K G 2 0 0 33 [some (.ref p0), some (.int p1)] [.int t0, .ref t1] ws
    refine e_iconst C (v := (2 : Int32)) (by decide) dX7_harm_33 (pc' := 34) rfl ?_
    obtain ⟨hv, h⟩ := h
    refine e_calli (run_V (n := 2) C (m_X7_throwsIf hst h) gX7_harm_X7_throwsIf rfl ⟨rfl, by decide, by decide, by decide +kernel⟩ ⟨by decide, by decide⟩ (ci := 7) rfl rfl hv rfl (Nat.le_of_ble_eq_true rfl) dX7_harm_34 ⟨by decide, by decide⟩ (As := [.int t0, .int (2 : Int32)]) rfl) (pc' := 37) rfl (cn' := 0) (sn' := 0) rfl rfl (fun v5 ws h => ?_)
    refine e_if_eq C (tg := 44) dX7_harm_37 (by decide) (pc' := 40) rfl (fun hc => ?_) (fun hc => ?_)
    · replace h := h.1 hc
      refine e_aload_n C (x := p0) rfl dX7_harm_44 (pc' := 45) rfl ?_
      refine e_iload_n C (x := p1) rfl dX7_harm_45 (pc' := 46) rfl ?_
      refine e_aload_n C (x := p0) rfl dX7_harm_46 (pc' := 47) rfl ?_
      refine f_getR C (ci := 7) (CN := RX7) (TT := TX7) (N := 36) 8 dX7_harm_47 (pc' := 50) rfl in_X7_harm_X7 rfl (by decide) fl_X7_harm_27 h (fun v6 h => ?_)
      refine e_iload_n C (x := p1) rfl dX7_harm_50 (pc' := 51) rfl ?_
      refine f_iaload C dX7_harm_51 (pc' := 52) rfl h (fun v7 h => ?_)
      obtain ⟨hv, h⟩ := h
      refine e_calli (run_V (n := 2) C (m_X7_flows hst h) gX7_harm_X7_flows rfl ⟨rfl, by decide, by decide, by decide +kernel⟩ ⟨by decide, by decide⟩ (ci := 7) rfl rfl hv rfl (Nat.le_of_ble_eq_true rfl) dX7_harm_52 ⟨by decide, by decide⟩ (As := [.int p1, .int v7]) rfl) (pc' := 55) rfl (cn' := 0) (sn' := 0) rfl rfl (fun v8 ws h => ?_)
      refine e_aload_n C (x := p0) rfl dX7_harm_55 (pc' := 56) rfl ?_
      refine e_iload_n C (x := p1) rfl dX7_harm_56 (pc' := 57) rfl ?_
      refine e_bipush C (v := (8 : Int32)) (by decide) dX7_harm_57 (pc' := 59) rfl ?_
      obtain ⟨hv, h⟩ := h
      refine e_calli (run_V (n := 2) C (m_X7_flows hst h) gX7_harm_X7_flows rfl ⟨rfl, by decide, by decide, by decide +kernel⟩ ⟨by decide, by decide⟩ (ci := 7) rfl rfl hv rfl (Nat.le_of_ble_eq_true rfl) dX7_harm_59 ⟨by decide, by decide⟩ (As := [.int p1, .int (8 : Int32)]) rfl) (pc' := 62) rfl (cn' := 0) (sn' := 0) rfl rfl (fun v9 ws h => ?_)
      refine e_isub C dX7_harm_62 (pc' := 63) rfl ?_
      exact r_int C F dX7_harm_63 (by decide) (by decide) h
    · replace h := h.2 hc
      refine e_iconst C (v := (0 : Int32)) (by decide) dX7_harm_40 (pc' := 41) rfl ?_
      refine e_goto C (tg := 63) dX7_harm_41 (by decide) ?_
      exact r_int C F dX7_harm_63 (by decide) (by decide) h)
  refine e_aload_n C (x := p0) rfl dX7_harm_0 (pc' := 1) rfl ?_
  refine e_iconst C (v := (0 : Int32)) (by decide) dX7_harm_1 (pc' := 2) rfl ?_
  refine f_putI C (ci := 7) (CN := RX7) (TT := TX7) (N := 36) 0 tyX7 dX7_harm_2 (pc' := 5) rfl in_X7_harm_X7 tyX7_ok nmX7 rfl (by decide) fl_X7_harm_88 rfl (by decide +kernel) h (fun ws h => ?_)
  refine e_aload_n C (x := p0) rfl dX7_harm_5 (pc' := 6) rfl ?_
  refine e_aload_n C (x := p0) rfl dX7_harm_6 (pc' := 7) rfl ?_
  refine e_iload_n C (x := p1) rfl dX7_harm_7 (pc' := 8) rfl ?_
  obtain ⟨hv, h⟩ := h
  refine e_calli (run_V (n := 1) C (m_X7_noChannel hst h) gX7_harm_X7_noChannel rfl ⟨rfl, by decide, by decide, by decide +kernel⟩ ⟨by decide, by decide⟩ (ci := 7) rfl rfl hv rfl (Nat.le_of_ble_eq_true rfl) dX7_harm_8 ⟨by decide, by decide⟩ (As := [.int p1]) rfl) (pc' := 11) rfl (cn' := 0) (sn' := 0) rfl rfl (fun v1 ws h => ?_)
  refine e_iconst C (v := (1 : Int32)) (by decide) dX7_harm_11 (pc' := 12) rfl ?_
  obtain ⟨hv, h⟩ := h
  refine e_calli (run_V (n := 2) C (m_X7_throwsIf hst h) gX7_harm_X7_throwsIf rfl ⟨rfl, by decide, by decide, by decide +kernel⟩ ⟨by decide, by decide⟩ (ci := 7) rfl rfl hv rfl (Nat.le_of_ble_eq_true rfl) dX7_harm_12 ⟨by decide, by decide⟩ (As := [.int v1, .int (1 : Int32)]) rfl) (pc' := 15) rfl (cn' := 0) (sn' := 0) rfl rfl (fun v2 ws h => ?_)
  refine e_if_ne C (tg := 40) dX7_harm_15 (by decide) (pc' := 18) rfl (fun hc => ?_) (fun hc => ?_)
  · replace h := h.1 hc
    refine e_iconst C (v := (0 : Int32)) (by decide) dX7_harm_40 (pc' := 41) rfl ?_
    refine e_goto C (tg := 63) dX7_harm_41 (by decide) ?_
    exact r_int C F dX7_harm_63 (by decide) (by decide) h
  · replace h := h.2 hc
    refine e_aload_n C (x := p0) rfl dX7_harm_18 (pc' := 19) rfl ?_
    refine e_aload_n C (x := p0) rfl dX7_harm_19 (pc' := 20) rfl ?_
    refine f_getR C (ci := 7) (CN := RX7) (TT := TX7) (N := 36) 6 dX7_harm_20 (pc' := 23) rfl in_X7_harm_X7 rfl (by decide) fl_X7_harm_20 h (fun v3 h => ?_)
    refine e_iload_n C (x := p1) rfl dX7_harm_23 (pc' := 24) rfl ?_
    refine f_zaload C dX7_harm_24 (pc' := 25) rfl h (fun v4 h => ?_)
    refine e_if_ne C (tg := 32) dX7_harm_25 (by decide) (pc' := 28) rfl (fun hc => ?_) (fun hc => ?_)
    · replace h := h.1 hc
      refine e_iconst C (v := (0 : Int32)) (by decide) dX7_harm_32 (pc' := 33) rfl ?_
      exact h
    · replace h := h.2 hc
      refine e_iconst C (v := (1 : Int32)) (by decide) dX7_harm_28 (pc' := 29) rfl ?_
      refine e_goto C (tg := 33) dX7_harm_29 (by decide) ?_
      exact h
