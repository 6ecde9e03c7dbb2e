abbrev rm_X7_let : Room := { frames := 2, cells := 0, slots := 0, locals := 43 }
set_option maxRecDepth 20000 in
theorem in_X7_let_X7 : ∀ w ∈ wsX70, w ∈ wsX7_let := by decide +kernel
set_option maxRecDepth 20000 in
theorem fl_X7_let_88 : Cond.fieldLink RX7 88 (TX7 0).1 (TX7 0).2.1 (TX7 0).2.2.1 ∈ wsX7_let := by decide +kernel
set_option maxRecDepth 20000 in
theorem fl_X7_let_45 : Cond.fieldLink RX7 45 (TX7 16).1 (TX7 16).2.1 (TX7 16).2.2.1 ∈ wsX7_let := by decide +kernel
set_option maxRecDepth 20000 in
theorem fl_X7_let_159 : Cond.fieldLink RX7 159 (TX7 4).1 (TX7 4).2.1 (TX7 4).2.2.1 ∈ wsX7_let := by decide +kernel
set_option maxRecDepth 20000 in
theorem w_X7_let_c171 : Cond.constant RX7 171 (100000000 : Int32) ∈ wsX7_let := by decide +kernel
def F_X7_let (G : Gx) (p0 : Nat) (p1 : Int32) (p2 : Int32) (p3 : Int32) (p4 : Int32) (ws : va_W) (Q : va_W → Prop) : Prop := ∀ (J80 : Int32 → Nat → va_W → Prop), ∀ (J85 : Int32 → Int32 → Nat → va_W → Prop), (∀ (x5 : Int32) (t0 : Nat) (ws : va_W), J85 x5 (1 : Int32) t0 ws → J80 x5 t0 ws) → (∀ (x5 : Int32) (t0 : Int32) (t1 : Nat) (ws : va_W), (qV 7 t1 ws ∧ F_X7_throwsIf G t1 t0 (3 : Int32) ws (fun v9 ws => ((v9 = 0 → qR 7 16 p0 ws (fun v10 => qS (gc G 1) v10 (x5 + (4 : Int32)) p2 ws (fun ws => qR 7 16 p0 ws (fun v11 => qS (gc G 1) v11 (x5 + (5 : Int32)) p3 ws (fun ws => qR 7 16 p0 ws (fun v12 => qS (gc G 1) v12 (x5 + (6 : Int32)) p4 ws (fun ws => Q ws))))))) ∧ (¬ v9 = 0 → Q ws)))) → J85 x5 t0 t1 ws) → qP 7 0 p0 (.int (0 : Int32)) ws (fun ws => (qV 7 p0 ws ∧ F_X7_noShare G p0 p1 ws (fun v1 ws => (qV 7 p0 ws ∧ F_X7_throwsIf G p0 v1 (1 : Int32) ws (fun v2 ws => ((¬ v2 = 0 → Q ws) ∧ (v2 = 0 → (qV 7 p0 ws ∧ F_X7_isLet G p0 p1 ws (fun v3 ws => (qV 7 p0 ws ∧ F_X7_throwsIf G p0 v3 (2 : Int32) ws (fun v4 ws => ((v4 = 0 → (F_X7_noOwner G p2 ws (fun v5 ws => ((¬ v5 = 0 → J80 ((7 : Int32) * p1) p0 ws) ∧ (v5 = 0 → qR 7 16 p0 ws (fun v6 => qA (gc G 1) v6 (((7 : Int32) * p1) + (3 : Int32)) ws (fun v7 => ((p2 = v7 → J80 ((7 : Int32) * p1) p0 ws) ∧ (¬ p2 = v7 → qI 7 4 p0 ws (fun v8 => ((p3 < v8 → J80 ((7 : Int32) * p1) p0 ws) ∧ (¬ p3 < v8 → ((p4 ≤ p3 → J80 ((7 : Int32) * p1) p0 ws) ∧ (¬ p4 ≤ p3 → ((p4 ≤ (100000000 : Int32) → J85 ((7 : Int32) * p1) (0 : Int32) p0 ws) ∧ (¬ p4 ≤ (100000000 : Int32) → J80 ((7 : Int32) * p1) p0 ws)))))))))))))))) ∧ (¬ v4 = 0 → Q ws)))))))))))))
set_option maxRecDepth 20000 in
set_option maxHeartbeats 4000000 in
theorem m_X7_let {G : Gx} (hst : (gl G).stackTraces = false) {p0 : Nat} {p1 : Int32} {p2 : Int32} {p3 : Int32} {p4 : Int32} {ws : va_W} {Q : va_W → Prop} (h : F_X7_let G p0 p1 p2 p3 p4 ws Q) : Mt G yX7_let wsX7_let rm_X7_let [.ref p0, .int p1, .int p2, .int p3, .int p4] ws (QtV G Q) := by
  refine mk_Mt (cc := cX7_let) (nL := 6) (own := RX7) (ret := none) (lv0 := [some (.ref p0), some (.int p1), some (.int p2), some (.int p3), some (.int p4), none]) hst (by decide) rfl rfl (Nat.le_of_ble_eq_true rfl) rfl ?_
  intro K C F
  replace h := h (fun x5 t0 ws => Ev K G 6 0 0 80 [some (.ref p0), none, some (.int p2), some (.int p3), some (.int p4), some (.int x5)] [.ref t0] ws) (fun x5 t0 t1 ws => Ev K G 6 0 0 85 [some (.ref p0), none, some (.int p2), some (.int p3), some (.int p4), some (.int x5)] [.int t0, .ref t1] ws)
  replace h := h (by
    intro x5 t0 ws h
    show Ev K G 6 0 0 80 [some (.ref p0), none, some (.int p2), some (.int p3), some (.int p4), some (.int x5)] [.ref t0] ws
    refine e_iconst C (v := (1 : Int32)) (by decide) dX7_let_80 (pc' := 81) rfl ?_
    refine e_goto C (tg := 85) dX7_let_81 (by decide) ?_
    exact h)
  replace h := h (by
    intro x5 t0 t1 ws h
    show Ev K G 6 0 0 85 [some (.ref p0), none, some (.int p2), some (.int p3), some (.int p4), some (.int x5)] [.int t0, .ref t1] ws
    refine e_iconst C (v := (3 : Int32)) (by decide) dX7_let_85 (pc' := 86) rfl ?_
    obtain ⟨hv, h⟩ := h
    refine e_calli (run_V (n := 2) C (m_X7_throwsIf hst h) gX7_let_X7_throwsIf rfl ⟨rfl, by decide, by decide, by decide +kernel⟩ ⟨by decide, by decide⟩ (ci := 7) rfl rfl hv rfl (Nat.le_of_ble_eq_true rfl) dX7_let_86 ⟨by decide, by decide⟩ (As := [.int t0, .int (3 : Int32)]) rfl) (pc' := 89) rfl (cn' := 0) (sn' := 0) rfl rfl (fun v9 ws h => ?_)
    refine e_if_eq C (tg := 93) dX7_let_89 (by decide) (pc' := 92) rfl (fun hc => ?_) (fun hc => ?_)
    · replace h := h.1 hc
      refine e_aload_n C (x := p0) rfl dX7_let_93 (pc' := 94) rfl ?_
      refine f_getR C (ci := 7) (CN := RX7) (TT := TX7) (N := 36) 16 dX7_let_94 (pc' := 97) rfl in_X7_let_X7 rfl (by decide) fl_X7_let_45 h (fun v10 h => ?_)
      refine e_iload C (x := x5) rfl dX7_let_97 (pc' := 99) rfl ?_
      refine e_iconst C (v := (4 : Int32)) (by decide) dX7_let_99 (pc' := 100) rfl ?_
      refine e_iadd C dX7_let_100 (pc' := 101) rfl ?_
      refine e_iload_n C (x := p2) rfl dX7_let_101 (pc' := 102) rfl ?_
      refine f_iastore C dX7_let_102 (pc' := 103) rfl h (fun ws h => ?_)
      refine e_aload_n C (x := p0) rfl dX7_let_103 (pc' := 104) rfl ?_
      refine f_getR C (ci := 7) (CN := RX7) (TT := TX7) (N := 36) 16 dX7_let_104 (pc' := 107) rfl in_X7_let_X7 rfl (by decide) fl_X7_let_45 h (fun v11 h => ?_)
      refine e_iload C (x := x5) rfl dX7_let_107 (pc' := 109) rfl ?_
      refine e_iconst C (v := (5 : Int32)) (by decide) dX7_let_109 (pc' := 110) rfl ?_
      refine e_iadd C dX7_let_110 (pc' := 111) rfl ?_
      refine e_iload_n C (x := p3) rfl dX7_let_111 (pc' := 112) rfl ?_
      refine f_iastore C dX7_let_112 (pc' := 113) rfl h (fun ws h => ?_)
      refine e_aload_n C (x := p0) rfl dX7_let_113 (pc' := 114) rfl ?_
      refine f_getR C (ci := 7) (CN := RX7) (TT := TX7) (N := 36) 16 dX7_let_114 (pc' := 117) rfl in_X7_let_X7 rfl (by decide) fl_X7_let_45 h (fun v12 h => ?_)
      refine e_iload C (x := x5) rfl dX7_let_117 (pc' := 119) rfl ?_
      refine e_bipush C (v := (6 : Int32)) (by decide) dX7_let_119 (pc' := 121) rfl ?_
      refine e_iadd C dX7_let_121 (pc' := 122) rfl ?_
      refine e_iload C (x := p4) rfl dX7_let_122 (pc' := 124) rfl ?_
      refine f_iastore C dX7_let_124 (pc' := 125) rfl h (fun ws h => ?_)
      exact r_void C F dX7_let_125 (by decide) (by decide) h
    · replace h := h.2 hc
      exact r_void C F dX7_let_92 (by decide) (by decide) h)
  refine e_aload_n C (x := p0) rfl dX7_let_0 (pc' := 1) rfl ?_
  refine e_iconst C (v := (0 : Int32)) (by decide) dX7_let_1 (pc' := 2) rfl ?_
  refine f_putI C (ci := 7) (CN := RX7) (TT := TX7) (N := 36) 0 tyX7 dX7_let_2 (pc' := 5) rfl in_X7_let_X7 tyX7_ok nmX7 rfl (by decide) fl_X7_let_88 rfl (by decide +kernel) h (fun ws h => ?_)
  refine e_aload_n C (x := p0) rfl dX7_let_5 (pc' := 6) rfl ?_
  refine e_aload_n C (x := p0) rfl dX7_let_6 (pc' := 7) rfl ?_
  refine e_iload_n C (x := p1) rfl dX7_let_7 (pc' := 8) rfl ?_
  obtain ⟨hv, h⟩ := h
  refine e_calli (run_V (n := 1) C (m_X7_noShare hst h) gX7_let_X7_noShare rfl ⟨rfl, by decide, by decide, by decide +kernel⟩ ⟨by decide, by decide⟩ (ci := 7) rfl rfl hv rfl (Nat.le_of_ble_eq_true rfl) dX7_let_8 ⟨by decide, by decide⟩ (As := [.int p1]) rfl) (pc' := 11) rfl (cn' := 0) (sn' := 0) rfl rfl (fun v1 ws h => ?_)
  refine e_iconst C (v := (1 : Int32)) (by decide) dX7_let_11 (pc' := 12) rfl ?_
  obtain ⟨hv, h⟩ := h
  refine e_calli (run_V (n := 2) C (m_X7_throwsIf hst h) gX7_let_X7_throwsIf rfl ⟨rfl, by decide, by decide, by decide +kernel⟩ ⟨by decide, by decide⟩ (ci := 7) rfl rfl hv rfl (Nat.le_of_ble_eq_true rfl) dX7_let_12 ⟨by decide, by decide⟩ (As := [.int v1, .int (1 : Int32)]) rfl) (pc' := 15) rfl (cn' := 0) (sn' := 0) rfl rfl (fun v2 ws h => ?_)
  refine e_if_ne C (tg := 31) dX7_let_15 (by decide) (pc' := 18) rfl (fun hc => ?_) (fun hc => ?_)
  · replace h := h.1 hc
    exact r_void C F dX7_let_31 (by decide) (by decide) h
  · replace h := h.2 hc
    refine e_aload_n C (x := p0) rfl dX7_let_18 (pc' := 19) rfl ?_
    refine e_aload_n C (x := p0) rfl dX7_let_19 (pc' := 20) rfl ?_
    refine e_iload_n C (x := p1) rfl dX7_let_20 (pc' := 21) rfl ?_
    obtain ⟨hv, h⟩ := h
    refine e_calli (run_V (n := 1) C (m_X7_isLet hst h) gX7_let_X7_isLet rfl ⟨rfl, by decide, by decide, by decide +kernel⟩ ⟨by decide, by decide⟩ (ci := 7) rfl rfl hv rfl (Nat.le_of_ble_eq_true rfl) dX7_let_21 ⟨by decide, by decide⟩ (As := [.int p1]) rfl) (pc' := 24) rfl (cn' := 0) (sn' := 0) rfl rfl (fun v3 ws h => ?_)
    refine e_iconst C (v := (2 : Int32)) (by decide) dX7_let_24 (pc' := 25) rfl ?_
    obtain ⟨hv, h⟩ := h
    refine e_calli (run_V (n := 2) C (m_X7_throwsIf hst h) gX7_let_X7_throwsIf rfl ⟨rfl, by decide, by decide, by decide +kernel⟩ ⟨by decide, by decide⟩ (ci := 7) rfl rfl hv rfl (Nat.le_of_ble_eq_true rfl) dX7_let_25 ⟨by decide, by decide⟩ (As := [.int v3, .int (2 : Int32)]) rfl) (pc' := 28) rfl (cn' := 0) (sn' := 0) rfl rfl (fun v4 ws h => ?_)
    refine e_if_eq C (tg := 32) dX7_let_28 (by decide) (pc' := 31) rfl (fun hc => ?_) (fun hc => ?_)
    · replace h := h.1 hc
      refine e_bipush C (v := (7 : Int32)) (by decide) dX7_let_32 (pc' := 34) rfl ?_
      refine e_iload_n C (x := p1) rfl dX7_let_34 (pc' := 35) rfl ?_
      refine e_imul C dX7_let_35 (pc' := 36) rfl ?_
      refine e_istore C (by decide) dX7_let_36 (pc' := 38) rfl (lv' := [some (.ref p0), some (.int p1), some (.int p2), some (.int p3), some (.int p4), some (.int ((7 : Int32) * p1))]) rfl ?_
      refine e_aload_n C (x := p0) rfl dX7_let_38 (pc' := 39) rfl ?_
      refine e_iload_n C (x := p2) rfl dX7_let_39 (pc' := 40) rfl ?_
      refine e_calli (run_S (n := 1) C (m_X7_noOwner hst h) gX7_let_X7_noOwner rfl ⟨rfl, by decide, by decide, by decide +kernel⟩ ⟨by decide, by decide⟩ rfl (Nat.le_of_ble_eq_true rfl) dX7_let_40 ⟨by decide, by decide⟩ (As := [.int p2]) rfl) (pc' := 43) rfl (cn' := 0) (sn' := 0) rfl rfl (fun v5 ws h => ?_)
      refine e_if_ne C (tg := 80) dX7_let_43 (by decide) (pc' := 46) rfl (fun hc => ?_) (fun hc => ?_)
      · replace h := h.1 hc
        refine e_mask [true, false, true, true, true, true] (lv' := [some (.ref p0), none, some (.int p2), some (.int p3), some (.int p4), some (.int ((7 : Int32) * p1))]) rfl ?_
        exact h
      · replace h := h.2 hc
        refine e_iload_n C (x := p2) rfl dX7_let_46 (pc' := 47) rfl ?_
        refine e_aload_n C (x := p0) rfl dX7_let_47 (pc' := 48) rfl ?_
        refine f_getR C (ci := 7) (CN := RX7) (TT := TX7) (N := 36) 16 dX7_let_48 (pc' := 51) rfl in_X7_let_X7 rfl (by decide) fl_X7_let_45 h (fun v6 h => ?_)
        refine e_iload C (x := ((7 : Int32) * p1)) rfl dX7_let_51 (pc' := 53) rfl ?_
        refine e_iconst C (v := (3 : Int32)) (by decide) dX7_let_53 (pc' := 54) rfl ?_
        refine e_iadd C dX7_let_54 (pc' := 55) rfl ?_
        refine f_iaload C dX7_let_55 (pc' := 56) rfl h (fun v7 h => ?_)
        refine e_icmp_eq C (tg := 80) dX7_let_56 (by decide) (pc' := 59) rfl (fun hc => ?_) (fun hc => ?_)
        · replace h := h.1 hc
          refine e_mask [true, false, true, true, true, true] (lv' := [some (.ref p0), none, some (.int p2), some (.int p3), some (.int p4), some (.int ((7 : Int32) * p1))]) rfl ?_
          exact h
        · replace h := h.2 hc
          refine e_iload_n C (x := p3) rfl dX7_let_59 (pc' := 60) rfl ?_
          refine e_aload_n C (x := p0) rfl dX7_let_60 (pc' := 61) rfl ?_
          refine f_getI C (ci := 7) (CN := RX7) (TT := TX7) (N := 36) 4 dX7_let_61 (pc' := 64) rfl in_X7_let_X7 rfl (by decide) fl_X7_let_159 h (fun v8 h => ?_)
          refine e_icmp_lt C (tg := 80) dX7_let_64 (by decide) (pc' := 67) rfl (fun hc => ?_) (fun hc => ?_)
          · replace h := h.1 hc
            refine e_mask [true, false, true, true, true, true] (lv' := [some (.ref p0), none, some (.int p2), some (.int p3), some (.int p4), some (.int ((7 : Int32) * p1))]) rfl ?_
            exact h
          · replace h := h.2 hc
            refine e_iload_n C (x := p3) rfl dX7_let_67 (pc' := 68) rfl ?_
            refine e_iload C (x := p4) rfl dX7_let_68 (pc' := 70) rfl ?_
            refine e_icmp_ge C (tg := 80) dX7_let_70 (by decide) (pc' := 73) rfl (fun hc => ?_) (fun hc => ?_)
            · replace h := h.1 hc
              refine e_mask [true, false, true, true, true, true] (lv' := [some (.ref p0), none, some (.int p2), some (.int p3), some (.int p4), some (.int ((7 : Int32) * p1))]) rfl ?_
              exact h
            · replace h := h.2 hc
              refine e_iload C (x := p4) rfl dX7_let_73 (pc' := 75) rfl ?_
              refine e_ldc C (v := (100000000 : Int32)) w_X7_let_c171 dX7_let_75 (pc' := 77) rfl ?_
              refine e_icmp_le C (tg := 84) dX7_let_77 (by decide) (pc' := 80) rfl (fun hc => ?_) (fun hc => ?_)
              · replace h := h.1 hc
                refine e_iconst C (v := (0 : Int32)) (by decide) dX7_let_84 (pc' := 85) rfl ?_
                refine e_mask [true, false, true, true, true, true] (lv' := [some (.ref p0), none, some (.int p2), some (.int p3), some (.int p4), some (.int ((7 : Int32) * p1))]) rfl ?_
                exact h
              · replace h := h.2 hc
                refine e_mask [true, false, true, true, true, true] (lv' := [some (.ref p0), none, some (.int p2), some (.int p3), some (.int p4), some (.int ((7 : Int32) * p1))]) rfl ?_
                exact h
    · replace h := h.2 hc
      exact r_void C F dX7_let_31 (by decide) (by decide) h
abbrev rm_X7_minutes : Room := { frames := 1, cells := 0, slots := 0, locals := 22 }
set_option maxRecDepth 20000 in
theorem in_X7_minutes_X7 : ∀ w ∈ wsX70, w ∈ wsX7_minutes := by decide +kernel
set_option maxRecDepth 20000 in
theorem fl_X7_minutes_88 : Cond.fieldLink RX7 88 (TX7 0).1 (TX7 0).2.1 (TX7 0).2.2.1 ∈ wsX7_minutes := by decide +kernel
set_option maxRecDepth 20000 in
theorem w_X7_minutes_c172 : Cond.constant RX7 172 (100000 : Int32) ∈ wsX7_minutes := by decide +kernel
set_option maxRecDepth 20000 in
theorem fl_X7_minutes_159 : Cond.fieldLink RX7 159 (TX7 4).1 (TX7 4).2.1 (TX7 4).2.2.1 ∈ wsX7_minutes := by decide +kernel
def F_X7_minutes (G : Gx) (p0 : Nat) (p1 : Int32) (ws : va_W) (Q : Int32 → va_W → Prop) : Prop := ∀ (J21 : Int32 → Nat → va_W → Prop), (∀ (t0 : Int32) (t1 : Nat) (ws : va_W), (qV 7 t1 ws ∧ F_X7_throwsIf G t1 t0 (1 : Int32) ws (fun v2 ws => ((v2 = 0 → qI 7 4 p0 ws (fun v3 => qP 7 4 p0 (.int (v3 + p1)) ws (fun ws => qI 7 4 p0 ws (fun v4 => Q v4 ws)))) ∧ (¬ v2 = 0 → Q (0 : Int32) ws)))) → J21 t0 t1 ws) → qP 7 0 p0 (.int (0 : Int32)) ws (fun ws => (F_X7_in G p1 (0 : Int32) (100000 : Int32) ws (fun v1 ws => ((¬ v1 = 0 → J21 (0 : Int32) p0 ws) ∧ (v1 = 0 → J21 (1 : Int32) p0 ws)))))
set_option maxRecDepth 20000 in
set_option maxHeartbeats 4000000 in
theorem m_X7_minutes {G : Gx} (hst : (gl G).stackTraces = false) {p0 : Nat} {p1 : Int32} {ws : va_W} {Q : Int32 → va_W → Prop} (h : F_X7_minutes G p0 p1 ws Q) : Mt G yX7_minutes wsX7_minutes rm_X7_minutes [.ref p0, .int p1] ws (QtI G Q) := by
  refine mk_Mt (cc := cX7_minutes) (nL := 2) (own := RX7) (ret := (some .int)) (lv0 := [some (.ref p0), some (.int p1)]) hst (by decide) rfl rfl (Nat.le_of_ble_eq_true rfl) rfl ?_
  intro K C F
  replace h := h (fun t0 t1 ws => Ev K G 2 0 0 21 [some (.ref p0), some (.int p1)] [.int t0, .ref t1] ws)
  replace h := h (by
    intro t0 t1 ws h
    show Ev K G 2 0 0 21 [some (.ref p0), some (.int p1)] [.int t0, .ref t1] ws
    refine e_iconst C (v := (1 : Int32)) (by decide) dX7_minutes_21 (pc' := 22) rfl ?_
    obtain ⟨hv, h⟩ := h
    refine e_calli (run_V (n := 2) C (m_X7_throwsIf hst h) gX7_minutes_X7_throwsIf rfl ⟨rfl, by decide, by decide, by decide +kernel⟩ ⟨by decide, by decide⟩ (ci := 7) rfl rfl hv rfl (Nat.le_of_ble_eq_true rfl) dX7_minutes_22 ⟨by decide, by decide⟩ (As := [.int t0, .int (1 : Int32)]) rfl) (pc' := 25) rfl (cn' := 0) (sn' := 0) rfl rfl (fun v2 ws h => ?_)
    refine e_if_eq C (tg := 30) dX7_minutes_25 (by decide) (pc' := 28) rfl (fun hc => ?_) (fun hc => ?_)
    · replace h := h.1 hc
      refine e_aload_n C (x := p0) rfl dX7_minutes_30 (pc' := 31) rfl ?_
      refine e_dup C rfl dX7_minutes_31 (pc' := 32) rfl ?_
      refine f_getI C (ci := 7) (CN := RX7) (TT := TX7) (N := 36) 4 dX7_minutes_32 (pc' := 35) rfl in_X7_minutes_X7 rfl (by decide) fl_X7_minutes_159 h (fun v3 h => ?_)
      refine e_iload_n C (x := p1) rfl dX7_minutes_35 (pc' := 36) rfl ?_
      refine e_iadd C dX7_minutes_36 (pc' := 37) rfl ?_
      refine f_putI C (ci := 7) (CN := RX7) (TT := TX7) (N := 36) 4 tyX7 dX7_minutes_37 (pc' := 40) rfl in_X7_minutes_X7 tyX7_ok nmX7 rfl (by decide) fl_X7_minutes_159 rfl (by decide +kernel) h (fun ws h => ?_)
      refine e_aload_n C (x := p0) rfl dX7_minutes_40 (pc' := 41) rfl ?_
      refine f_getI C (ci := 7) (CN := RX7) (TT := TX7) (N := 36) 4 dX7_minutes_41 (pc' := 44) rfl in_X7_minutes_X7 rfl (by decide) fl_X7_minutes_159 h (fun v4 h => ?_)
      exact r_int C F dX7_minutes_44 (by decide) (by decide) h
    · replace h := h.2 hc
      refine e_iconst C (v := (0 : Int32)) (by decide) dX7_minutes_28 (pc' := 29) rfl ?_
      exact r_int C F dX7_minutes_29 (by decide) (by decide) h)
  refine e_aload_n C (x := p0) rfl dX7_minutes_0 (pc' := 1) rfl ?_
  refine e_iconst C (v := (0 : Int32)) (by decide) dX7_minutes_1 (pc' := 2) rfl ?_
  refine f_putI C (ci := 7) (CN := RX7) (TT := TX7) (N := 36) 0 tyX7 dX7_minutes_2 (pc' := 5) rfl in_X7_minutes_X7 tyX7_ok nmX7 rfl (by decide) fl_X7_minutes_88 rfl (by decide +kernel) h (fun ws h => ?_)
  refine e_aload_n C (x := p0) rfl dX7_minutes_5 (pc' := 6) rfl ?_
  refine e_iload_n C (x := p1) rfl dX7_minutes_6 (pc' := 7) rfl ?_
  refine e_iconst C (v := (0 : Int32)) (by decide) dX7_minutes_7 (pc' := 8) rfl ?_
  refine e_ldc C (v := (100000 : Int32)) w_X7_minutes_c172 dX7_minutes_8 (pc' := 10) rfl ?_
  refine e_calli (run_S (n := 3) C (m_X7_in hst h) gX7_minutes_X7_in rfl ⟨rfl, by decide, by decide, by decide +kernel⟩ ⟨by decide, by decide⟩ rfl (Nat.le_of_ble_eq_true rfl) dX7_minutes_10 ⟨by decide, by decide⟩ (As := [.int p1, .int (0 : Int32), .int (100000 : Int32)]) rfl) (pc' := 13) rfl (cn' := 0) (sn' := 0) rfl rfl (fun v1 ws h => ?_)
  refine e_if_ne C (tg := 20) dX7_minutes_13 (by decide) (pc' := 16) rfl (fun hc => ?_) (fun hc => ?_)
  · replace h := h.1 hc
    refine e_iconst C (v := (0 : Int32)) (by decide) dX7_minutes_20 (pc' := 21) rfl ?_
    exact h
  · replace h := h.2 hc
    refine e_iconst C (v := (1 : Int32)) (by decide) dX7_minutes_16 (pc' := 17) rfl ?_
    refine e_goto C (tg := 21) dX7_minutes_17 (by decide) ?_
    exact h
abbrev rm_X7_holder : Room := { frames := 2, cells := 0, slots := 0, locals := 43 }
set_option maxRecDepth 20000 in
theorem in_X7_holder_X7 : ∀ w ∈ wsX70, w ∈ wsX7_holder := by decide +kernel
set_option maxRecDepth 20000 in
theorem fl_X7_holder_88 : Cond.fieldLink RX7 88 (TX7 0).1 (TX7 0).2.1 (TX7 0).2.2.1 ∈ wsX7_holder := by decide +kernel
set_option maxRecDepth 20000 in
theorem fl_X7_holder_20 : Cond.fieldLink RX7 20 (TX7 6).1 (TX7 6).2.1 (TX7 6).2.2.1 ∈ wsX7_holder := by decide +kernel
set_option maxRecDepth 20000 in
theorem fl_X7_holder_30 : Cond.fieldLink RX7 30 (TX7 9).1 (TX7 9).2.1 (TX7 9).2.2.1 ∈ wsX7_holder := by decide +kernel
set_option maxRecDepth 20000 in
theorem fl_X7_holder_102 : Cond.fieldLink RX7 102 (TX7 17).1 (TX7 17).2.1 (TX7 17).2.2.1 ∈ wsX7_holder := by decide +kernel
set_option maxRecDepth 20000 in
theorem fl_X7_holder_45 : Cond.fieldLink RX7 45 (TX7 16).1 (TX7 16).2.1 (TX7 16).2.2.1 ∈ wsX7_holder := by decide +kernel
def F_X7_holder (G : Gx) (p0 : Nat) (p1 : Int32) (p2 : Int32) (ws : va_W) (Q : Int32 → va_W → Prop) : Prop := ∀ (J28 : Int32 → Nat → va_W → Prop), ∀ (J60 : Int32 → Int32 → va_W → Prop), ∀ (J165 : Int32 → Int32 → va_W → Prop), ∀ (J155 : Int32 → va_W → Prop), (∀ (t0 : Int32) (t1 : Nat) (ws : va_W), (qV 7 t1 ws ∧ F_X7_throwsIf G t1 t0 (2 : Int32) ws (fun v3 ws => ((v3 = 0 → qR 7 6 p0 ws (fun v4 => qA (gc G 2) v4 p1 ws (fun v5 => ((¬ v5 = 0 → qR 7 9 p0 ws (fun v6 => qA (gc G 1) v6 p1 ws (fun v7 => (¬ v7 = 0 ∧ (J60 (p2 - p2 / v7 * v7) (0 : Int32) ws))))) ∧ (v5 = 0 → Q (-1 : Int32) ws))))) ∧ (¬ v3 = 0 → Q (0 : Int32) ws)))) → J28 t0 t1 ws) → (∀ (x3 : Int32) (x4 : Int32) (ws : va_W), qI 7 17 p0 ws (fun v8 => ((v8 ≤ x4 → Q (-1 : Int32) ws) ∧ (¬ v8 ≤ x4 → qR 7 16 p0 ws (fun v9 => qA (gc G 1) v9 ((7 : Int32) * x4) ws (fun v10 => ((¬ v10 = p1 → J165 x3 x4 ws) ∧ (v10 = p1 → qR 7 16 p0 ws (fun v11 => qA (gc G 1) v11 (((7 : Int32) * x4) + (1 : Int32)) ws (fun v12 => ((x3 < v12 → J165 x3 x4 ws) ∧ (¬ x3 < v12 → qR 7 16 p0 ws (fun v13 => qA (gc G 1) v13 (((7 : Int32) * x4) + (2 : Int32)) ws (fun v14 => ((x3 < v14 → qR 7 16 p0 ws (fun v15 => qA (gc G 1) v15 (((7 : Int32) * x4) + (5 : Int32)) ws (fun v16 => ((p2 < v16 → J155 ((7 : Int32) * x4) ws) ∧ (¬ p2 < v16 → qR 7 16 p0 ws (fun v17 => qA (gc G 1) v17 (((7 : Int32) * x4) + (6 : Int32)) ws (fun v18 => ((v18 ≤ p2 → J155 ((7 : Int32) * x4) ws) ∧ (¬ v18 ≤ p2 → qR 7 16 p0 ws (fun v19 => qA (gc G 1) v19 (((7 : Int32) * x4) + (4 : Int32)) ws (fun v20 => Q v20 ws))))))))))) ∧ (¬ x3 < v14 → J165 x3 x4 ws))))))))))))))) → J60 x3 x4 ws) → (∀ (x3 : Int32) (x4 : Int32) (ws : va_W), J60 x3 (x4 + (1 : Int32)) ws → J165 x3 x4 ws) → (∀ (x5 : Int32) (ws : va_W), qR 7 16 p0 ws (fun v21 => qA (gc G 1) v21 (x5 + (3 : Int32)) ws (fun v22 => Q v22 ws)) → J155 x5 ws) → qP 7 0 p0 (.int (0 : Int32)) ws (fun ws => (qV 7 p0 ws ∧ F_X7_noChannel G p0 p1 ws (fun v1 ws => (qV 7 p0 ws ∧ F_X7_throwsIf G p0 v1 (1 : Int32) ws (fun v2 ws => ((¬ v2 = 0 → Q (0 : Int32) ws) ∧ (v2 = 0 → ((0 ≤ p2 → J28 (0 : Int32) p0 ws) ∧ (¬ 0 ≤ p2 → J28 (1 : Int32) p0 ws)))))))))
set_option maxRecDepth 20000 in
set_option maxHeartbeats 4000000 in
theorem m_X7_holder {G : Gx} (hst : (gl G).stackTraces = false) {p0 : Nat} {p1 : Int32} {p2 : Int32} {ws : va_W} {Q : Int32 → va_W → Prop} (h : F_X7_holder G p0 p1 p2 ws Q) : Mt G yX7_holder wsX7_holder rm_X7_holder [.ref p0, .int p1, .int p2] ws (QtI G Q) := by
  refine mk_Mt (cc := cX7_holder) (nL := 6) (own := RX7) (ret := (some .int)) (lv0 := [some (.ref p0), some (.int p1), some (.int p2), none, none, none]) hst (by decide) rfl rfl (Nat.le_of_ble_eq_true rfl) rfl ?_
  intro K C F
  replace h := h (fun t0 t1 ws => Ev K G 6 0 0 28 [some (.ref p0), some (.int p1), some (.int p2), none, none, none] [.int t0, .ref t1] ws) (fun x3 x4 ws => Ev K G 6 0 0 60 [some (.ref p0), some (.int p1), some (.int p2), some (.int x3), some (.int x4), none] [] ws) (fun x3 x4 ws => Ev K G 6 0 0 165 [some (.ref p0), some (.int p1), some (.int p2), some (.int x3), some (.int x4), none] [] ws) (fun x5 ws => Ev K G 6 0 0 155 [some (.ref p0), none, none, none, none, some (.int x5)] [] ws)
  replace h := h (by
    intro t0 t1 ws h
    show Ev K G 6 0 0 28 [some (.ref p0), some (.int p1), some (.int p2), none, none, none] [.int t0, .ref t1] ws
    refine e_iconst C (v := (2 : Int32)) (by decide) dX7_holder_28 (pc' := 29) rfl ?_
    obtain ⟨hv, h⟩ := h
    refine e_calli (run_V (n := 2) C (m_X7_throwsIf hst h) gX7_holder_X7_throwsIf rfl ⟨rfl, by decide, by decide, by decide +kernel⟩ ⟨by decide, by decide⟩ (ci := 7) rfl rfl hv rfl (Nat.le_of_ble_eq_true rfl) dX7_holder_29 ⟨by decide, by decide⟩ (As := [.int t0, .int (2 : Int32)]) rfl) (pc' := 32) rfl (cn' := 0) (sn' := 0) rfl rfl (fun v3 ws h => ?_)
    refine e_if_eq C (tg := 37) dX7_holder_32 (by decide) (pc' := 35) rfl (fun hc => ?_) (fun hc => ?_)
    · replace h := h.1 hc
      refine e_aload_n C (x := p0) rfl dX7_holder_37 (pc' := 38) rfl ?_
      refine f_getR C (ci := 7) (CN := RX7) (TT := TX7) (N := 36) 6 dX7_holder_38 (pc' := 41) rfl in_X7_holder_X7 rfl (by decide) fl_X7_holder_20 h (fun v4 h => ?_)
      refine e_iload_n C (x := p1) rfl dX7_holder_41 (pc' := 42) rfl ?_
      refine f_zaload C dX7_holder_42 (pc' := 43) rfl h (fun v5 h => ?_)
      refine e_if_ne C (tg := 48) dX7_holder_43 (by decide) (pc' := 46) rfl (fun hc => ?_) (fun hc => ?_)
      · replace h := h.1 hc
        refine e_iload_n C (x := p2) rfl dX7_holder_48 (pc' := 49) rfl ?_
        refine e_aload_n C (x := p0) rfl dX7_holder_49 (pc' := 50) rfl ?_
        refine f_getR C (ci := 7) (CN := RX7) (TT := TX7) (N := 36) 9 dX7_holder_50 (pc' := 53) rfl in_X7_holder_X7 rfl (by decide) fl_X7_holder_30 h (fun v6 h => ?_)
        refine e_iload_n C (x := p1) rfl dX7_holder_53 (pc' := 54) rfl ?_
        refine f_iaload C dX7_holder_54 (pc' := 55) rfl h (fun v7 h => ?_)
        obtain ⟨hz, h⟩ := h
        refine e_irem C hz dX7_holder_55 (pc' := 56) rfl ?_
        refine e_istore_n C (by decide) dX7_holder_56 (pc' := 57) rfl (lv' := [some (.ref p0), some (.int p1), some (.int p2), some (.int (p2 - p2 / v7 * v7)), none, none]) rfl ?_
        refine e_iconst C (v := (0 : Int32)) (by decide) dX7_holder_57 (pc' := 58) rfl ?_
        refine e_istore C (by decide) dX7_holder_58 (pc' := 60) rfl (lv' := [some (.ref p0), some (.int p1), some (.int p2), some (.int (p2 - p2 / v7 * v7)), some (.int (0 : Int32)), none]) rfl ?_
        exact h
      · replace h := h.2 hc
        refine e_iconst C (v := (-1 : Int32)) (by decide) dX7_holder_46 (pc' := 47) rfl ?_
        exact r_int C F dX7_holder_47 (by decide) (by decide) h
    · replace h := h.2 hc
      refine e_iconst C (v := (0 : Int32)) (by decide) dX7_holder_35 (pc' := 36) rfl ?_
      exact r_int C F dX7_holder_36 (by decide) (by decide) h)
  replace h := h (by
    intro x3 x4 ws h
    show Ev K G 6 0 0 60 [some (.ref p0), some (.int p1), some (.int p2), some (.int x3), some (.int x4), none] [] ws
    refine e_iload C (x := x4) rfl dX7_holder_60 (pc' := 62) rfl ?_
    refine e_aload_n C (x := p0) rfl dX7_holder_62 (pc' := 63) rfl ?_
    refine f_getI C (ci := 7) (CN := RX7) (TT := TX7) (N := 36) 17 dX7_holder_63 (pc' := 66) rfl in_X7_holder_X7 rfl (by decide) fl_X7_holder_102 h (fun v8 h => ?_)
    refine e_icmp_ge C (tg := 171) dX7_holder_66 (by decide) (pc' := 69) rfl (fun hc => ?_) (fun hc => ?_)
    · replace h := h.1 hc
      refine e_iconst C (v := (-1 : Int32)) (by decide) dX7_holder_171 (pc' := 172) rfl ?_
      exact r_int C F dX7_holder_172 (by decide) (by decide) h
    · replace h := h.2 hc
      refine e_bipush C (v := (7 : Int32)) (by decide) dX7_holder_69 (pc' := 71) rfl ?_
      refine e_iload C (x := x4) rfl dX7_holder_71 (pc' := 73) rfl ?_
      refine e_imul C dX7_holder_73 (pc' := 74) rfl ?_
      refine e_istore C (by decide) dX7_holder_74 (pc' := 76) rfl (lv' := [some (.ref p0), some (.int p1), some (.int p2), some (.int x3), some (.int x4), some (.int ((7 : Int32) * x4))]) rfl ?_
      refine e_aload_n C (x := p0) rfl dX7_holder_76 (pc' := 77) rfl ?_
      refine f_getR C (ci := 7) (CN := RX7) (TT := TX7) (N := 36) 16 dX7_holder_77 (pc' := 80) rfl in_X7_holder_X7 rfl (by decide) fl_X7_holder_45 h (fun v9 h => ?_)
      refine e_iload C (x := ((7 : Int32) * x4)) rfl dX7_holder_80 (pc' := 82) rfl ?_
      refine f_iaload C dX7_holder_82 (pc' := 83) rfl h (fun v10 h => ?_)
      refine e_iload_n C (x := p1) rfl dX7_holder_83 (pc' := 84) rfl ?_
      refine e_icmp_ne C (tg := 165) dX7_holder_84 (by decide) (pc' := 87) rfl (fun hc => ?_) (fun hc => ?_)
      · replace h := h.1 hc
        refine e_mask [true, true, true, true, true, false] (lv' := [some (.ref p0), some (.int p1), some (.int p2), some (.int x3), some (.int x4), none]) rfl ?_
        exact h
      · replace h := h.2 hc
        refine e_iload_n C (x := x3) rfl dX7_holder_87 (pc' := 88) rfl ?_
        refine e_aload_n C (x := p0) rfl dX7_holder_88 (pc' := 89) rfl ?_
        refine f_getR C (ci := 7) (CN := RX7) (TT := TX7) (N := 36) 16 dX7_holder_89 (pc' := 92) rfl in_X7_holder_X7 rfl (by decide) fl_X7_holder_45 h (fun v11 h => ?_)
        refine e_iload C (x := ((7 : Int32) * x4)) rfl dX7_holder_92 (pc' := 94) rfl ?_
        refine e_iconst C (v := (1 : Int32)) (by decide) dX7_holder_94 (pc' := 95) rfl ?_
        refine e_iadd C dX7_holder_95 (pc' := 96) rfl ?_
        refine f_iaload C dX7_holder_96 (pc' := 97) rfl h (fun v12 h => ?_)
        refine e_icmp_lt C (tg := 165) dX7_holder_97 (by decide) (pc' := 100) rfl (fun hc => ?_) (fun hc => ?_)
        · replace h := h.1 hc
          refine e_mask [true, true, true, true, true, false] (lv' := [some (.ref p0), some (.int p1), some (.int p2), some (.int x3), some (.int x4), none]) rfl ?_
          exact h
        · replace h := h.2 hc
          refine e_iload_n C (x := x3) rfl dX7_holder_100 (pc' := 101) rfl ?_
          refine e_aload_n C (x := p0) rfl dX7_holder_101 (pc' := 102) rfl ?_
          refine f_getR C (ci := 7) (CN := RX7) (TT := TX7) (N := 36) 16 dX7_holder_102 (pc' := 105) rfl in_X7_holder_X7 rfl (by decide) fl_X7_holder_45 h (fun v13 h => ?_)
          refine e_iload C (x := ((7 : Int32) * x4)) rfl dX7_holder_105 (pc' := 107) rfl ?_
          refine e_iconst C (v := (2 : Int32)) (by decide) dX7_holder_107 (pc' := 108) rfl ?_
          refine e_iadd C dX7_holder_108 (pc' := 109) rfl ?_
          refine f_iaload C dX7_holder_109 (pc' := 110) rfl h (fun v14 h => ?_)
          refine e_icmp_lt C (tg := 116) dX7_holder_110 (by decide) (pc' := 113) rfl (fun hc => ?_) (fun hc => ?_)
          · replace h := h.1 hc
            refine e_iload_n C (x := p2) rfl dX7_holder_116 (pc' := 117) rfl ?_
            refine e_aload_n C (x := p0) rfl dX7_holder_117 (pc' := 118) rfl ?_
            refine f_getR C (ci := 7) (CN := RX7) (TT := TX7) (N := 36) 16 dX7_holder_118 (pc' := 121) rfl in_X7_holder_X7 rfl (by decide) fl_X7_holder_45 h (fun v15 h => ?_)
            refine e_iload C (x := ((7 : Int32) * x4)) rfl dX7_holder_121 (pc' := 123) rfl ?_
            refine e_iconst C (v := (5 : Int32)) (by decide) dX7_holder_123 (pc' := 124) rfl ?_
            refine e_iadd C dX7_holder_124 (pc' := 125) rfl ?_
            refine f_iaload C dX7_holder_125 (pc' := 126) rfl h (fun v16 h => ?_)
            refine e_icmp_lt C (tg := 155) dX7_holder_126 (by decide) (pc' := 129) rfl (fun hc => ?_) (fun hc => ?_)
            · replace h := h.1 hc
              refine e_mask [true, false, false, false, false, true] (lv' := [some (.ref p0), none, none, none, none, some (.int ((7 : Int32) * x4))]) rfl ?_
              exact h
            · replace h := h.2 hc
              refine e_iload_n C (x := p2) rfl dX7_holder_129 (pc' := 130) rfl ?_
              refine e_aload_n C (x := p0) rfl dX7_holder_130 (pc' := 131) rfl ?_
              refine f_getR C (ci := 7) (CN := RX7) (TT := TX7) (N := 36) 16 dX7_holder_131 (pc' := 134) rfl in_X7_holder_X7 rfl (by decide) fl_X7_holder_45 h (fun v17 h => ?_)
              refine e_iload C (x := ((7 : Int32) * x4)) rfl dX7_holder_134 (pc' := 136) rfl ?_
              refine e_bipush C (v := (6 : Int32)) (by decide) dX7_holder_136 (pc' := 138) rfl ?_
              refine e_iadd C dX7_holder_138 (pc' := 139) rfl ?_
              refine f_iaload C dX7_holder_139 (pc' := 140) rfl h (fun v18 h => ?_)
              refine e_icmp_ge C (tg := 155) dX7_holder_140 (by decide) (pc' := 143) rfl (fun hc => ?_) (fun hc => ?_)
              · replace h := h.1 hc
                refine e_mask [true, false, false, false, false, true] (lv' := [some (.ref p0), none, none, none, none, some (.int ((7 : Int32) * x4))]) rfl ?_
                exact h
              · replace h := h.2 hc
                refine e_aload_n C (x := p0) rfl dX7_holder_143 (pc' := 144) rfl ?_
                refine f_getR C (ci := 7) (CN := RX7) (TT := TX7) (N := 36) 16 dX7_holder_144 (pc' := 147) rfl in_X7_holder_X7 rfl (by decide) fl_X7_holder_45 h (fun v19 h => ?_)
                refine e_iload C (x := ((7 : Int32) * x4)) rfl dX7_holder_147 (pc' := 149) rfl ?_
                refine e_iconst C (v := (4 : Int32)) (by decide) dX7_holder_149 (pc' := 150) rfl ?_
                refine e_iadd C dX7_holder_150 (pc' := 151) rfl ?_
                refine f_iaload C dX7_holder_151 (pc' := 152) rfl h (fun v20 h => ?_)
                refine e_goto C (tg := 164) dX7_holder_152 (by decide) ?_
                exact r_int C F dX7_holder_164 (by decide) (by decide) h
          · replace h := h.2 hc
            refine e_goto C (tg := 165) dX7_holder_113 (by decide) ?_
            refine e_mask [true, true, true, true, true, false] (lv' := [some (.ref p0), some (.int p1), some (.int p2), some (.int x3), some (.int x4), none]) rfl ?_
            exact h)
  replace h := h (by
    intro x3 x4 ws h
    show Ev K G 6 0 0 165 [some (.ref p0), some (.int p1), some (.int p2), some (.int x3), some (.int x4), none] [] ws
    refine e_iinc C dX7_holder_165 (x := x4) (v := (x4 + (1 : Int32))) rfl rfl (by decide) (pc' := 168) rfl (lv' := [some (.ref p0), some (.int p1), some (.int p2), some (.int x3), some (.int (x4 + (1 : Int32))), none]) rfl ?_
    refine e_goto C (tg := 60) dX7_holder_168 (by decide) ?_
    exact h)
  replace h := h (by
    intro x5 ws h
    show Ev K G 6 0 0 155 [some (.ref p0), none, none, none, none, some (.int x5)] [] ws
    refine e_aload_n C (x := p0) rfl dX7_holder_155 (pc' := 156) rfl ?_
    refine f_getR C (ci := 7) (CN := RX7) (TT := TX7) (N := 36) 16 dX7_holder_156 (pc' := 159) rfl in_X7_holder_X7 rfl (by decide) fl_X7_holder_45 h (fun v21 h => ?_)
    refine e_iload C (x := x5) rfl dX7_holder_159 (pc' := 161) rfl ?_
    refine e_iconst C (v := (3 : Int32)) (by decide) dX7_holder_161 (pc' := 162) rfl ?_
    refine e_iadd C dX7_holder_162 (pc' := 163) rfl ?_
    refine f_iaload C dX7_holder_163 (pc' := 164) rfl h (fun v22 h => ?_)
    exact r_int C F dX7_holder_164 (by decide) (by decide) h)
  refine e_aload_n C (x := p0) rfl dX7_holder_0 (pc' := 1) rfl ?_
  refine e_iconst C (v := (0 : Int32)) (by decide) dX7_holder_1 (pc' := 2) rfl ?_
  refine f_putI C (ci := 7) (CN := RX7) (TT := TX7) (N := 36) 0 tyX7 dX7_holder_2 (pc' := 5) rfl in_X7_holder_X7 tyX7_ok nmX7 rfl (by decide) fl_X7_holder_88 rfl (by decide +kernel) h (fun ws h => ?_)
  refine e_aload_n C (x := p0) rfl dX7_holder_5 (pc' := 6) rfl ?_
  refine e_aload_n C (x := p0) rfl dX7_holder_6 (pc' := 7) rfl ?_
  refine e_iload_n C (x := p1) rfl dX7_holder_7 (pc' := 8) rfl ?_
  obtain ⟨hv, h⟩ := h
  refine e_calli (run_V (n := 1) C (m_X7_noChannel hst h) gX7_holder_X7_noChannel rfl ⟨rfl, by decide, by decide, by decide +kernel⟩ ⟨by decide, by decide⟩ (ci := 7) rfl rfl hv rfl (Nat.le_of_ble_eq_true rfl) dX7_holder_8 ⟨by decide, by decide⟩ (As := [.int p1]) rfl) (pc' := 11) rfl (cn' := 0) (sn' := 0) rfl rfl (fun v1 ws h => ?_)
  refine e_iconst C (v := (1 : Int32)) (by decide) dX7_holder_11 (pc' := 12) rfl ?_
  obtain ⟨hv, h⟩ := h
  refine e_calli (run_V (n := 2) C (m_X7_throwsIf hst h) gX7_holder_X7_throwsIf rfl ⟨rfl, by decide, by decide, by decide +kernel⟩ ⟨by decide, by decide⟩ (ci := 7) rfl rfl hv rfl (Nat.le_of_ble_eq_true rfl) dX7_holder_12 ⟨by decide, by decide⟩ (As := [.int v1, .int (1 : Int32)]) rfl) (pc' := 15) rfl (cn' := 0) (sn' := 0) rfl rfl (fun v2 ws h => ?_)
  refine e_if_ne C (tg := 35) dX7_holder_15 (by decide) (pc' := 18) rfl (fun hc => ?_) (fun hc => ?_)
  · replace h := h.1 hc
    refine e_iconst C (v := (0 : Int32)) (by decide) dX7_holder_35 (pc' := 36) rfl ?_
    exact r_int C F dX7_holder_36 (by decide) (by decide) h
  · replace h := h.2 hc
    refine e_aload_n C (x := p0) rfl dX7_holder_18 (pc' := 19) rfl ?_
    refine e_iload_n C (x := p2) rfl dX7_holder_19 (pc' := 20) rfl ?_
    refine e_if_ge C (tg := 27) dX7_holder_20 (by decide) (pc' := 23) rfl (fun hc => ?_) (fun hc => ?_)
    · replace h := h.1 hc
      refine e_iconst C (v := (0 : Int32)) (by decide) dX7_holder_27 (pc' := 28) rfl ?_
      exact h
    · replace h := h.2 hc
      refine e_iconst C (v := (1 : Int32)) (by decide) dX7_holder_23 (pc' := 24) rfl ?_
      refine e_goto C (tg := 28) dX7_holder_24 (by decide) ?_
      exact h
abbrev rm_X7_share : Room := { frames := 2, cells := 0, slots := 0, locals := 43 }
set_option maxRecDepth 20000 in
theorem in_X7_share_X7 : ∀ w ∈ wsX70, w ∈ wsX7_share := by decide +kernel
set_option maxRecDepth 20000 in
theorem fl_X7_share_88 : Cond.fieldLink RX7 88 (TX7 0).1 (TX7 0).2.1 (TX7 0).2.2.1 ∈ wsX7_share := by decide +kernel
set_option maxRecDepth 20000 in
theorem fl_X7_share_45 : Cond.fieldLink RX7 45 (TX7 16).1 (TX7 16).2.1 (TX7 16).2.2.1 ∈ wsX7_share := by decide +kernel
def F_X7_share (G : Gx) (p0 : Nat) (p1 : Int32) (p2 : Int32) (ws : va_W) (Q : Int32 → va_W → Prop) : Prop := qP 7 0 p0 (.int (0 : Int32)) ws (fun ws => (qV 7 p0 ws ∧ F_X7_noShare G p0 p1 ws (fun v1 ws => (qV 7 p0 ws ∧ F_X7_throwsIf G p0 v1 (1 : Int32) ws (fun v2 ws => ((v2 = 0 → ((p2 = (0 : Int32) → qR 7 16 p0 ws (fun v3 => qA (gc G 1) v3 (((7 : Int32) * p1) + p2) ws (fun v4 => Q v4 ws))) ∧ (p2 = (1 : Int32) → qR 7 16 p0 ws (fun v5 => qA (gc G 1) v5 (((7 : Int32) * p1) + p2) ws (fun v6 => Q v6 ws))) ∧ (p2 = (2 : Int32) → qR 7 16 p0 ws (fun v7 => qA (gc G 1) v7 (((7 : Int32) * p1) + p2) ws (fun v8 => Q v8 ws))) ∧ (p2 = (3 : Int32) → qR 7 16 p0 ws (fun v9 => qA (gc G 1) v9 (((7 : Int32) * p1) + p2) ws (fun v10 => Q v10 ws))) ∧ (p2 = (4 : Int32) → (qV 7 p0 ws ∧ F_X7_isLet G p0 p1 ws (fun v11 ws => ((v11 = 0 → Q (0 : Int32) ws) ∧ (¬ v11 = 0 → Q (1 : Int32) ws))))) ∧ ((p2.toInt < 0 ∨ (4 : Int) < p2.toInt) → qP 7 0 p0 (.int (2 : Int32)) ws (fun ws => Q (0 : Int32) ws)))) ∧ (¬ v2 = 0 → Q (0 : Int32) ws)))))))
set_option maxRecDepth 20000 in
set_option maxHeartbeats 4000000 in
theorem m_X7_share {G : Gx} (hst : (gl G).stackTraces = false) {p0 : Nat} {p1 : Int32} {p2 : Int32} {ws : va_W} {Q : Int32 → va_W → Prop} (h : F_X7_share G p0 p1 p2 ws Q) : Mt G yX7_share wsX7_share rm_X7_share [.ref p0, .int p1, .int p2] ws (QtI G Q) := by
  refine mk_Mt (cc := cX7_share) (nL := 3) (own := RX7) (ret := (some .int)) (lv0 := [some (.ref p0), some (.int p1), some (.int p2)]) hst (by decide) rfl rfl (Nat.le_of_ble_eq_true rfl) rfl ?_
  intro K C F
  refine e_aload_n C (x := p0) rfl dX7_share_0 (pc' := 1) rfl ?_
  refine e_iconst C (v := (0 : Int32)) (by decide) dX7_share_1 (pc' := 2) rfl ?_
  refine f_putI C (ci := 7) (CN := RX7) (TT := TX7) (N := 36) 0 tyX7 dX7_share_2 (pc' := 5) rfl in_X7_share_X7 tyX7_ok nmX7 rfl (by decide) fl_X7_share_88 rfl (by decide +kernel) h (fun ws h => ?_)
  refine e_aload_n C (x := p0) rfl dX7_share_5 (pc' := 6) rfl ?_
  refine e_aload_n C (x := p0) rfl dX7_share_6 (pc' := 7) rfl ?_
  refine e_iload_n C (x := p1) rfl dX7_share_7 (pc' := 8) rfl ?_
  obtain ⟨hv, h⟩ := h
  refine e_calli (run_V (n := 1) C (m_X7_noShare hst h) gX7_share_X7_noShare rfl ⟨rfl, by decide, by decide, by decide +kernel⟩ ⟨by decide, by decide⟩ (ci := 7) rfl rfl hv rfl (Nat.le_of_ble_eq_true rfl) dX7_share_8 ⟨by decide, by decide⟩ (As := [.int p1]) rfl) (pc' := 11) rfl (cn' := 0) (sn' := 0) rfl rfl (fun v1 ws h => ?_)
  refine e_iconst C (v := (1 : Int32)) (by decide) dX7_share_11 (pc' := 12) rfl ?_
  obtain ⟨hv, h⟩ := h
  refine e_calli (run_V (n := 2) C (m_X7_throwsIf hst h) gX7_share_X7_throwsIf rfl ⟨rfl, by decide, by decide, by decide +kernel⟩ ⟨by decide, by decide⟩ (ci := 7) rfl rfl hv rfl (Nat.le_of_ble_eq_true rfl) dX7_share_12 ⟨by decide, by decide⟩ (As := [.int v1, .int (1 : Int32)]) rfl) (pc' := 15) rfl (cn' := 0) (sn' := 0) rfl rfl (fun v2 ws h => ?_)
  refine e_if_eq C (tg := 20) dX7_share_15 (by decide) (pc' := 18) rfl (fun hc => ?_) (fun hc => ?_)
  · replace h := h.1 hc
    refine e_iload_n C (x := p2) rfl dX7_share_20 (pc' := 21) rfl ?_
    obtain ⟨h0, h1, h2, h3, h4, hd⟩ := h
    rcases sw_cases (p2) 4 with hc | hc
    · replace h := hd hc
      refine e_tabOut C (tg := 82) dX7_share_21 hc (by decide) ?_
      refine e_aload_n C (x := p0) rfl dX7_share_82 (pc' := 83) rfl ?_
      refine e_iconst C (v := (2 : Int32)) (by decide) dX7_share_83 (pc' := 84) rfl ?_
      refine f_putI C (ci := 7) (CN := RX7) (TT := TX7) (N := 36) 0 tyX7 dX7_share_84 (pc' := 87) rfl in_X7_share_X7 tyX7_ok nmX7 rfl (by decide) fl_X7_share_88 rfl (by decide +kernel) h (fun ws h => ?_)
      refine e_iconst C (v := (0 : Int32)) (by decide) dX7_share_87 (pc' := 88) rfl ?_
      exact r_int C F dX7_share_88 (by decide) (by decide) h
    · obtain ⟨q9, hq9, hc⟩ := hc
      rcases (show q9 = 0 ∨ q9 = 1 ∨ q9 = 2 ∨ q9 = 3 ∨ q9 = 4 by omega) with rfl | rfl | rfl | rfl | rfl
      · replace h := h0 hc
        refine e_tabIn C (tg := 56) dX7_share_21 (by rw [hc]; decide) (by rw [hc]; decide) (by rw [hc]; rfl) (by decide) ?_
        refine e_aload_n C (x := p0) rfl dX7_share_56 (pc' := 57) rfl ?_
        refine f_getR C (ci := 7) (CN := RX7) (TT := TX7) (N := 36) 16 dX7_share_57 (pc' := 60) rfl in_X7_share_X7 rfl (by decide) fl_X7_share_45 h (fun v3 h => ?_)
        refine e_bipush C (v := (7 : Int32)) (by decide) dX7_share_60 (pc' := 62) rfl ?_
        refine e_iload_n C (x := p1) rfl dX7_share_62 (pc' := 63) rfl ?_
        refine e_imul C dX7_share_63 (pc' := 64) rfl ?_
        refine e_iload_n C (x := p2) rfl dX7_share_64 (pc' := 65) rfl ?_
        refine e_iadd C dX7_share_65 (pc' := 66) rfl ?_
        refine f_iaload C dX7_share_66 (pc' := 67) rfl h (fun v4 h => ?_)
        exact r_int C F dX7_share_67 (by decide) (by decide) h
      · replace h := h1 hc
        refine e_tabIn C (tg := 56) dX7_share_21 (by rw [hc]; decide) (by rw [hc]; decide) (by rw [hc]; rfl) (by decide) ?_
        refine e_aload_n C (x := p0) rfl dX7_share_56 (pc' := 57) rfl ?_
        refine f_getR C (ci := 7) (CN := RX7) (TT := TX7) (N := 36) 16 dX7_share_57 (pc' := 60) rfl in_X7_share_X7 rfl (by decide) fl_X7_share_45 h (fun v5 h => ?_)
        refine e_bipush C (v := (7 : Int32)) (by decide) dX7_share_60 (pc' := 62) rfl ?_
        refine e_iload_n C (x := p1) rfl dX7_share_62 (pc' := 63) rfl ?_
        refine e_imul C dX7_share_63 (pc' := 64) rfl ?_
        refine e_iload_n C (x := p2) rfl dX7_share_64 (pc' := 65) rfl ?_
        refine e_iadd C dX7_share_65 (pc' := 66) rfl ?_
        refine f_iaload C dX7_share_66 (pc' := 67) rfl h (fun v6 h => ?_)
        exact r_int C F dX7_share_67 (by decide) (by decide) h
      · replace h := h2 hc
        refine e_tabIn C (tg := 56) dX7_share_21 (by rw [hc]; decide) (by rw [hc]; decide) (by rw [hc]; rfl) (by decide) ?_
        refine e_aload_n C (x := p0) rfl dX7_share_56 (pc' := 57) rfl ?_
        refine f_getR C (ci := 7) (CN := RX7) (TT := TX7) (N := 36) 16 dX7_share_57 (pc' := 60) rfl in_X7_share_X7 rfl (by decide) fl_X7_share_45 h (fun v7 h => ?_)
        refine e_bipush C (v := (7 : Int32)) (by decide) dX7_share_60 (pc' := 62) rfl ?_
        refine e_iload_n C (x := p1) rfl dX7_share_62 (pc' := 63) rfl ?_
        refine e_imul C dX7_share_63 (pc' := 64) rfl ?_
        refine e_iload_n C (x := p2) rfl dX7_share_64 (pc' := 65) rfl ?_
        refine e_iadd C dX7_share_65 (pc' := 66) rfl ?_
        refine f_iaload C dX7_share_66 (pc' := 67) rfl h (fun v8 h => ?_)
        exact r_int C F dX7_share_67 (by decide) (by decide) h
      · replace h := h3 hc
        refine e_tabIn C (tg := 56) dX7_share_21 (by rw [hc]; decide) (by rw [hc]; decide) (by rw [hc]; rfl) (by decide) ?_
        refine e_aload_n C (x := p0) rfl dX7_share_56 (pc' := 57) rfl ?_
        refine f_getR C (ci := 7) (CN := RX7) (TT := TX7) (N := 36) 16 dX7_share_57 (pc' := 60) rfl in_X7_share_X7 rfl (by decide) fl_X7_share_45 h (fun v9 h => ?_)
        refine e_bipush C (v := (7 : Int32)) (by decide) dX7_share_60 (pc' := 62) rfl ?_
        refine e_iload_n C (x := p1) rfl dX7_share_62 (pc' := 63) rfl ?_
        refine e_imul C dX7_share_63 (pc' := 64) rfl ?_
        refine e_iload_n C (x := p2) rfl dX7_share_64 (pc' := 65) rfl ?_
        refine e_iadd C dX7_share_65 (pc' := 66) rfl ?_
        refine f_iaload C dX7_share_66 (pc' := 67) rfl h (fun v10 h => ?_)
        exact r_int C F dX7_share_67 (by decide) (by decide) h
      · replace h := h4 hc
        refine e_tabIn C (tg := 68) dX7_share_21 (by rw [hc]; decide) (by rw [hc]; decide) (by rw [hc]; rfl) (by decide) ?_
        refine e_aload_n C (x := p0) rfl dX7_share_68 (pc' := 69) rfl ?_
        refine e_iload_n C (x := p1) rfl dX7_share_69 (pc' := 70) rfl ?_
        obtain ⟨hv, h⟩ := h
        refine e_calli (run_V (n := 1) C (m_X7_isLet hst h) gX7_share_X7_isLet rfl ⟨rfl, by decide, by decide, by decide +kernel⟩ ⟨by decide, by decide⟩ (ci := 7) rfl rfl hv rfl (Nat.le_of_ble_eq_true rfl) dX7_share_70 ⟨by decide, by decide⟩ (As := [.int p1]) rfl) (pc' := 73) rfl (cn' := 0) (sn' := 0) rfl rfl (fun v11 ws h => ?_)
        refine e_if_eq C (tg := 80) dX7_share_73 (by decide) (pc' := 76) rfl (fun hc => ?_) (fun hc => ?_)
        · replace h := h.1 hc
          refine e_iconst C (v := (0 : Int32)) (by decide) dX7_share_80 (pc' := 81) rfl ?_
          exact r_int C F dX7_share_81 (by decide) (by decide) h
        · replace h := h.2 hc
          refine e_iconst C (v := (1 : Int32)) (by decide) dX7_share_76 (pc' := 77) rfl ?_
          refine e_goto C (tg := 81) dX7_share_77 (by decide) ?_
          exact r_int C F dX7_share_81 (by decide) (by decide) h
  · replace h := h.2 hc
    refine e_iconst C (v := (0 : Int32)) (by decide) dX7_share_18 (pc' := 19) rfl ?_
    exact r_int C F dX7_share_19 (by decide) (by decide) h
abbrev rm_X7_feed : Room := { frames := 0, cells := 0, slots := 0, locals := 0 }
set_option maxRecDepth 20000 in
theorem in_X7_feed_X7 : ∀ w ∈ wsX70, w ∈ wsX7_feed := by decide +kernel
set_option maxRecDepth 20000 in
theorem fl_X7_feed_88 : Cond.fieldLink RX7 88 (TX7 0).1 (TX7 0).2.1 (TX7 0).2.2.1 ∈ wsX7_feed := by decide +kernel
set_option maxRecDepth 20000 in
theorem fl_X7_feed_173 : Cond.fieldLink RX7 173 (TX7 24).1 (TX7 24).2.1 (TX7 24).2.2.1 ∈ wsX7_feed := by decide +kernel
set_option maxRecDepth 20000 in
theorem fl_X7_feed_70 : Cond.fieldLink RX7 70 (TX7 29).1 (TX7 29).2.1 (TX7 29).2.2.1 ∈ wsX7_feed := by decide +kernel
set_option maxRecDepth 20000 in
theorem fl_X7_feed_63 : Cond.fieldLink RX7 63 (TX7 23).1 (TX7 23).2.1 (TX7 23).2.2.1 ∈ wsX7_feed := by decide +kernel
def F_X7_feed (G : Gx) (p0 : Nat) (p1 : Int32) (p2 : Int32) (p3 : Int32) (p4 : Int32) (p5 : Int32) (ws : va_W) (Q : Int32 → va_W → Prop) : Prop := ∀ (J60 : Int32 → va_W → Prop), (∀ (x6 : Int32) (ws : va_W), (((20 : Int32) ≤ x6 → qI 7 24 p0 ws (fun v7 => qP 7 24 p0 (.int (v7 + (20 : Int32))) ws (fun ws => qI 7 24 p0 ws (fun v8 => Q v8 ws)))) ∧ (¬ (20 : Int32) ≤ x6 → qR 7 23 p0 ws (fun v9 => qI 7 24 p0 ws (fun v10 => qR 7 29 p0 ws (fun v11 => qA (gc G 1) v11 (x6 / (4 : Int32)) ws (fun v12 => qS (gc G 0) v9 (v10 + x6) (vp_nar .byte (v12 >>> (((24 : Int32) - ((8 : Int32) * (x6 - x6 / (4 : Int32) * (4 : Int32)))) &&& 31)).toInt8.toInt32) ws (fun ws => J60 (x6 + (1 : Int32)) ws))))))) → J60 x6 ws) → qP 7 0 p0 (.int (0 : Int32)) ws (fun ws => qI 7 24 p0 ws (fun v1 => (((v1 + (20 : Int32)) ≤ (400 : Int32) → qR 7 29 p0 ws (fun v2 => qS (gc G 1) v2 (0 : Int32) p1 ws (fun ws => qR 7 29 p0 ws (fun v3 => qS (gc G 1) v3 (1 : Int32) p2 ws (fun ws => qR 7 29 p0 ws (fun v4 => qS (gc G 1) v4 (2 : Int32) p3 ws (fun ws => qR 7 29 p0 ws (fun v5 => qS (gc G 1) v5 (3 : Int32) p4 ws (fun ws => qR 7 29 p0 ws (fun v6 => qS (gc G 1) v6 (4 : Int32) p5 ws (fun ws => J60 (0 : Int32) ws))))))))))) ∧ (¬ (v1 + (20 : Int32)) ≤ (400 : Int32) → Q (-1 : Int32) ws))))
set_option maxRecDepth 20000 in
set_option maxHeartbeats 4000000 in
theorem m_X7_feed {G : Gx} (hst : (gl G).stackTraces = false) {p0 : Nat} {p1 : Int32} {p2 : Int32} {p3 : Int32} {p4 : Int32} {p5 : Int32} {ws : va_W} {Q : Int32 → va_W → Prop} (h : F_X7_feed G p0 p1 p2 p3 p4 p5 ws Q) : Mt G yX7_feed wsX7_feed rm_X7_feed [.ref p0, .int p1, .int p2, .int p3, .int p4, .int p5] ws (QtI G Q) := by
  refine mk_Mt (cc := cX7_feed) (nL := 7) (own := RX7) (ret := (some .int)) (lv0 := [some (.ref p0), some (.int p1), some (.int p2), some (.int p3), some (.int p4), some (.int p5), none]) hst (by decide) rfl rfl (Nat.le_of_ble_eq_true rfl) rfl ?_
  intro K C F
  replace h := h (fun x6 ws => Ev K G 7 0 0 60 [some (.ref p0), none, none, none, none, none, some (.int x6)] [] ws)
  replace h := h (by
    intro x6 ws h
    show Ev K G 7 0 0 60 [some (.ref p0), none, none, none, none, none, some (.int x6)] [] ws
    refine e_iload C (x := x6) rfl dX7_feed_60 (pc' := 62) rfl ?_
    refine e_bipush C (v := (20 : Int32)) (by decide) dX7_feed_62 (pc' := 64) rfl ?_
    refine e_icmp_ge C (tg := 106) dX7_feed_64 (by decide) (pc' := 67) rfl (fun hc => ?_) (fun hc => ?_)
    · replace h := h.1 hc
      refine e_aload_n C (x := p0) rfl dX7_feed_106 (pc' := 107) rfl ?_
      refine e_dup C rfl dX7_feed_107 (pc' := 108) rfl ?_
      refine f_getI C (ci := 7) (CN := RX7) (TT := TX7) (N := 36) 24 dX7_feed_108 (pc' := 111) rfl in_X7_feed_X7 rfl (by decide) fl_X7_feed_173 h (fun v7 h => ?_)
      refine e_bipush C (v := (20 : Int32)) (by decide) dX7_feed_111 (pc' := 113) rfl ?_
      refine e_iadd C dX7_feed_113 (pc' := 114) rfl ?_
      refine f_putI C (ci := 7) (CN := RX7) (TT := TX7) (N := 36) 24 tyX7 dX7_feed_114 (pc' := 117) rfl in_X7_feed_X7 tyX7_ok nmX7 rfl (by decide) fl_X7_feed_173 rfl (by decide +kernel) h (fun ws h => ?_)
      refine e_aload_n C (x := p0) rfl dX7_feed_117 (pc' := 118) rfl ?_
      refine f_getI C (ci := 7) (CN := RX7) (TT := TX7) (N := 36) 24 dX7_feed_118 (pc' := 121) rfl in_X7_feed_X7 rfl (by decide) fl_X7_feed_173 h (fun v8 h => ?_)
      exact r_int C F dX7_feed_121 (by decide) (by decide) h
    · replace h := h.2 hc
      refine e_aload_n C (x := p0) rfl dX7_feed_67 (pc' := 68) rfl ?_
      refine f_getR C (ci := 7) (CN := RX7) (TT := TX7) (N := 36) 23 dX7_feed_68 (pc' := 71) rfl in_X7_feed_X7 rfl (by decide) fl_X7_feed_63 h (fun v9 h => ?_)
      refine e_aload_n C (x := p0) rfl dX7_feed_71 (pc' := 72) rfl ?_
      refine f_getI C (ci := 7) (CN := RX7) (TT := TX7) (N := 36) 24 dX7_feed_72 (pc' := 75) rfl in_X7_feed_X7 rfl (by decide) fl_X7_feed_173 h (fun v10 h => ?_)
      refine e_iload C (x := x6) rfl dX7_feed_75 (pc' := 77) rfl ?_
      refine e_iadd C dX7_feed_77 (pc' := 78) rfl ?_
      refine e_aload_n C (x := p0) rfl dX7_feed_78 (pc' := 79) rfl ?_
      refine f_getR C (ci := 7) (CN := RX7) (TT := TX7) (N := 36) 29 dX7_feed_79 (pc' := 82) rfl in_X7_feed_X7 rfl (by decide) fl_X7_feed_70 h (fun v11 h => ?_)
      refine e_iload C (x := x6) rfl dX7_feed_82 (pc' := 84) rfl ?_
      refine e_iconst C (v := (4 : Int32)) (by decide) dX7_feed_84 (pc' := 85) rfl ?_
      refine e_idiv C (by decide) dX7_feed_85 (pc' := 86) rfl ?_
      refine f_iaload C dX7_feed_86 (pc' := 87) rfl h (fun v12 h => ?_)
      refine e_bipush C (v := (24 : Int32)) (by decide) dX7_feed_87 (pc' := 89) rfl ?_
      refine e_bipush C (v := (8 : Int32)) (by decide) dX7_feed_89 (pc' := 91) rfl ?_
      refine e_iload C (x := x6) rfl dX7_feed_91 (pc' := 93) rfl ?_
      refine e_iconst C (v := (4 : Int32)) (by decide) dX7_feed_93 (pc' := 94) rfl ?_
      refine e_irem C (by decide) dX7_feed_94 (pc' := 95) rfl ?_
      refine e_imul C dX7_feed_95 (pc' := 96) rfl ?_
      refine e_isub C dX7_feed_96 (pc' := 97) rfl ?_
      refine e_ishr C dX7_feed_97 (pc' := 98) rfl ?_
      refine e_i2b C dX7_feed_98 (pc' := 99) rfl ?_
      refine f_bastore C dX7_feed_99 (pc' := 100) rfl h (fun ws h => ?_)
      refine e_iinc C dX7_feed_100 (x := x6) (v := (x6 + (1 : Int32))) rfl rfl (by decide) (pc' := 103) rfl (lv' := [some (.ref p0), none, none, none, none, none, some (.int (x6 + (1 : Int32)))]) rfl ?_
      refine e_goto C (tg := 60) dX7_feed_103 (by decide) ?_
      exact h)
  refine e_aload_n C (x := p0) rfl dX7_feed_0 (pc' := 1) rfl ?_
  refine e_iconst C (v := (0 : Int32)) (by decide) dX7_feed_1 (pc' := 2) rfl ?_
  refine f_putI C (ci := 7) (CN := RX7) (TT := TX7) (N := 36) 0 tyX7 dX7_feed_2 (pc' := 5) rfl in_X7_feed_X7 tyX7_ok nmX7 rfl (by decide) fl_X7_feed_88 rfl (by decide +kernel) h (fun ws h => ?_)
  refine e_aload_n C (x := p0) rfl dX7_feed_5 (pc' := 6) rfl ?_
  refine f_getI C (ci := 7) (CN := RX7) (TT := TX7) (N := 36) 24 dX7_feed_6 (pc' := 9) rfl in_X7_feed_X7 rfl (by decide) fl_X7_feed_173 h (fun v1 h => ?_)
  refine e_bipush C (v := (20 : Int32)) (by decide) dX7_feed_9 (pc' := 11) rfl ?_
  refine e_iadd C dX7_feed_11 (pc' := 12) rfl ?_
  refine e_sipush C (v := (400 : Int32)) (by decide) dX7_feed_12 (pc' := 15) rfl ?_
  refine e_icmp_le C (tg := 20) dX7_feed_15 (by decide) (pc' := 18) rfl (fun hc => ?_) (fun hc => ?_)
  · replace h := h.1 hc
    refine e_aload_n C (x := p0) rfl dX7_feed_20 (pc' := 21) rfl ?_
    refine f_getR C (ci := 7) (CN := RX7) (TT := TX7) (N := 36) 29 dX7_feed_21 (pc' := 24) rfl in_X7_feed_X7 rfl (by decide) fl_X7_feed_70 h (fun v2 h => ?_)
    refine e_iconst C (v := (0 : Int32)) (by decide) dX7_feed_24 (pc' := 25) rfl ?_
    refine e_iload_n C (x := p1) rfl dX7_feed_25 (pc' := 26) rfl ?_
    refine f_iastore C dX7_feed_26 (pc' := 27) rfl h (fun ws h => ?_)
    refine e_aload_n C (x := p0) rfl dX7_feed_27 (pc' := 28) rfl ?_
    refine f_getR C (ci := 7) (CN := RX7) (TT := TX7) (N := 36) 29 dX7_feed_28 (pc' := 31) rfl in_X7_feed_X7 rfl (by decide) fl_X7_feed_70 h (fun v3 h => ?_)
    refine e_iconst C (v := (1 : Int32)) (by decide) dX7_feed_31 (pc' := 32) rfl ?_
    refine e_iload_n C (x := p2) rfl dX7_feed_32 (pc' := 33) rfl ?_
    refine f_iastore C dX7_feed_33 (pc' := 34) rfl h (fun ws h => ?_)
    refine e_aload_n C (x := p0) rfl dX7_feed_34 (pc' := 35) rfl ?_
    refine f_getR C (ci := 7) (CN := RX7) (TT := TX7) (N := 36) 29 dX7_feed_35 (pc' := 38) rfl in_X7_feed_X7 rfl (by decide) fl_X7_feed_70 h (fun v4 h => ?_)
    refine e_iconst C (v := (2 : Int32)) (by decide) dX7_feed_38 (pc' := 39) rfl ?_
    refine e_iload_n C (x := p3) rfl dX7_feed_39 (pc' := 40) rfl ?_
    refine f_iastore C dX7_feed_40 (pc' := 41) rfl h (fun ws h => ?_)
    refine e_aload_n C (x := p0) rfl dX7_feed_41 (pc' := 42) rfl ?_
    refine f_getR C (ci := 7) (CN := RX7) (TT := TX7) (N := 36) 29 dX7_feed_42 (pc' := 45) rfl in_X7_feed_X7 rfl (by decide) fl_X7_feed_70 h (fun v5 h => ?_)
    refine e_iconst C (v := (3 : Int32)) (by decide) dX7_feed_45 (pc' := 46) rfl ?_
    refine e_iload C (x := p4) rfl dX7_feed_46 (pc' := 48) rfl ?_
    refine f_iastore C dX7_feed_48 (pc' := 49) rfl h (fun ws h => ?_)
    refine e_aload_n C (x := p0) rfl dX7_feed_49 (pc' := 50) rfl ?_
    refine f_getR C (ci := 7) (CN := RX7) (TT := TX7) (N := 36) 29 dX7_feed_50 (pc' := 53) rfl in_X7_feed_X7 rfl (by decide) fl_X7_feed_70 h (fun v6 h => ?_)
    refine e_iconst C (v := (4 : Int32)) (by decide) dX7_feed_53 (pc' := 54) rfl ?_
    refine e_iload C (x := p5) rfl dX7_feed_54 (pc' := 56) rfl ?_
    refine f_iastore C dX7_feed_56 (pc' := 57) rfl h (fun ws h => ?_)
    refine e_iconst C (v := (0 : Int32)) (by decide) dX7_feed_57 (pc' := 58) rfl ?_
    refine e_istore C (by decide) dX7_feed_58 (pc' := 60) rfl (lv' := [some (.ref p0), some (.int p1), some (.int p2), some (.int p3), some (.int p4), some (.int p5), some (.int (0 : Int32))]) rfl ?_
    refine e_mask [true, false, false, false, false, false, true] (lv' := [some (.ref p0), none, none, none, none, none, some (.int (0 : Int32))]) rfl ?_
    exact h
  · replace h := h.2 hc
    refine e_iconst C (v := (-1 : Int32)) (by decide) dX7_feed_18 (pc' := 19) rfl ?_
    exact r_int C F dX7_feed_19 (by decide) (by decide) h
abbrev rm_X7_end : Room := { frames := 0, cells := 0, slots := 0, locals := 0 }
set_option maxRecDepth 20000 in
theorem in_X7_end_X7 : ∀ w ∈ wsX70, w ∈ wsX7_end := by decide +kernel
set_option maxRecDepth 20000 in
theorem fl_X7_end_88 : Cond.fieldLink RX7 88 (TX7 0).1 (TX7 0).2.1 (TX7 0).2.2.1 ∈ wsX7_end := by decide +kernel
set_option maxRecDepth 20000 in
theorem fl_X7_end_173 : Cond.fieldLink RX7 173 (TX7 24).1 (TX7 24).2.1 (TX7 24).2.2.1 ∈ wsX7_end := by decide +kernel
def F_X7_end (G : Gx) (p0 : Nat) (p1 : Int32) (ws : va_W) (Q : Int32 → va_W → Prop) : Prop := qP 7 0 p0 (.int (0 : Int32)) ws (fun ws => ((p1 < 0 → Q (0 : Int32) ws) ∧ (¬ p1 < 0 → qI 7 24 p0 ws (fun v1 => ((p1 ≤ v1 → qP 7 24 p0 (.int p1) ws (fun ws => Q (1 : Int32) ws)) ∧ (¬ p1 ≤ v1 → Q (0 : Int32) ws))))))
set_option maxRecDepth 20000 in
set_option maxHeartbeats 4000000 in
theorem m_X7_end {G : Gx} (hst : (gl G).stackTraces = false) {p0 : Nat} {p1 : Int32} {ws : va_W} {Q : Int32 → va_W → Prop} (h : F_X7_end G p0 p1 ws Q) : Mt G yX7_end wsX7_end rm_X7_end [.ref p0, .int p1] ws (QtI G Q) := by
  refine mk_Mt (cc := cX7_end) (nL := 2) (own := RX7) (ret := (some .boolean)) (lv0 := [some (.ref p0), some (.int p1)]) hst (by decide) rfl rfl (Nat.le_of_ble_eq_true rfl) rfl ?_
  intro K C F
  refine e_aload_n C (x := p0) rfl dX7_end_0 (pc' := 1) rfl ?_
  refine e_iconst C (v := (0 : Int32)) (by decide) dX7_end_1 (pc' := 2) rfl ?_
  refine f_putI C (ci := 7) (CN := RX7) (TT := TX7) (N := 36) 0 tyX7 dX7_end_2 (pc' := 5) rfl in_X7_end_X7 tyX7_ok nmX7 rfl (by decide) fl_X7_end_88 rfl (by decide +kernel) h (fun ws h => ?_)
  refine e_iload_n C (x := p1) rfl dX7_end_5 (pc' := 6) rfl ?_
  refine e_if_lt C (tg := 17) dX7_end_6 (by decide) (pc' := 9) rfl (fun hc => ?_) (fun hc => ?_)
  · replace h := h.1 hc
    refine e_iconst C (v := (0 : Int32)) (by decide) dX7_end_17 (pc' := 18) rfl ?_
    exact r_bool C F dX7_end_18 (by decide) (by decide) (Or.inl rfl) h
  · replace h := h.2 hc
    refine e_iload_n C (x := p1) rfl dX7_end_9 (pc' := 10) rfl ?_
    refine e_aload_n C (x := p0) rfl dX7_end_10 (pc' := 11) rfl ?_
    refine f_getI C (ci := 7) (CN := RX7) (TT := TX7) (N := 36) 24 dX7_end_11 (pc' := 14) rfl in_X7_end_X7 rfl (by decide) fl_X7_end_173 h (fun v1 h => ?_)
    refine e_icmp_le C (tg := 19) dX7_end_14 (by decide) (pc' := 17) rfl (fun hc => ?_) (fun hc => ?_)
    · replace h := h.1 hc
      refine e_aload_n C (x := p0) rfl dX7_end_19 (pc' := 20) rfl ?_
      refine e_iload_n C (x := p1) rfl dX7_end_20 (pc' := 21) rfl ?_
      refine f_putI C (ci := 7) (CN := RX7) (TT := TX7) (N := 36) 24 tyX7 dX7_end_21 (pc' := 24) rfl in_X7_end_X7 tyX7_ok nmX7 rfl (by decide) fl_X7_end_173 rfl (by decide +kernel) h (fun ws h => ?_)
      refine e_iconst C (v := (1 : Int32)) (by decide) dX7_end_24 (pc' := 25) rfl ?_
      exact r_bool C F dX7_end_25 (by decide) (by decide) (Or.inr rfl) h
    · replace h := h.2 hc
      refine e_iconst C (v := (0 : Int32)) (by decide) dX7_end_17 (pc' := 18) rfl ?_
      exact r_bool C F dX7_end_18 (by decide) (by decide) (Or.inl rfl) h
abbrev rm_X7_isAt : Room := { frames := 0, cells := 0, slots := 0, locals := 0 }
set_option maxRecDepth 20000 in
theorem in_X7_isAt_X7 : ∀ w ∈ wsX70, w ∈ wsX7_isAt := by decide +kernel
set_option maxRecDepth 20000 in
theorem fl_X7_isAt_176 : Cond.fieldLink RX7 176 (TX7 25).1 (TX7 25).2.1 (TX7 25).2.2.1 ∈ wsX7_isAt := by decide +kernel
set_option maxRecDepth 20000 in
theorem fl_X7_isAt_179 : Cond.fieldLink RX7 179 (TX7 26).1 (TX7 26).2.1 (TX7 26).2.2.1 ∈ wsX7_isAt := by decide +kernel
set_option maxRecDepth 20000 in
theorem fl_X7_isAt_63 : Cond.fieldLink RX7 63 (TX7 23).1 (TX7 23).2.1 (TX7 23).2.2.1 ∈ wsX7_isAt := by decide +kernel
def F_X7_isAt (G : Gx) (p0 : Nat) (p1 : Int32) (p2 : Int32) (ws : va_W) (Q : Int32 → va_W → Prop) : Prop := qI 7 25 p0 ws (fun v1 => qI 7 26 p0 ws (fun v2 => ((v2 ≤ v1 → Q (0 : Int32) ws) ∧ (¬ v2 ≤ v1 → qR 7 23 p0 ws (fun v3 => qI 7 25 p0 ws (fun v4 => qA (gc G 0) v3 v4 ws (fun v5 => ((v5 < p1 → Q (0 : Int32) ws) ∧ (¬ v5 < p1 → qR 7 23 p0 ws (fun v6 => qI 7 25 p0 ws (fun v7 => qA (gc G 0) v6 v7 ws (fun v8 => ((p2 < v8 → Q (0 : Int32) ws) ∧ (¬ p2 < v8 → Q (1 : Int32) ws))))))))))))))
set_option maxRecDepth 20000 in
set_option maxHeartbeats 4000000 in
theorem m_X7_isAt {G : Gx} (hst : (gl G).stackTraces = false) {p0 : Nat} {p1 : Int32} {p2 : Int32} {ws : va_W} {Q : Int32 → va_W → Prop} (h : F_X7_isAt G p0 p1 p2 ws Q) : Mt G yX7_isAt wsX7_isAt rm_X7_isAt [.ref p0, .int p1, .int p2] ws (QtI G Q) := by
  refine mk_Mt (cc := cX7_isAt) (nL := 3) (own := RX7) (ret := (some .boolean)) (lv0 := [some (.ref p0), some (.int p1), some (.int p2)]) hst (by decide) rfl rfl (Nat.le_of_ble_eq_true rfl) rfl ?_
  intro K C F
  refine e_aload_n C (x := p0) rfl dX7_isAt_0 (pc' := 1) rfl ?_
  refine f_getI C (ci := 7) (CN := RX7) (TT := TX7) (N := 36) 25 dX7_isAt_1 (pc' := 4) rfl in_X7_isAt_X7 rfl (by decide) fl_X7_isAt_176 h (fun v1 h => ?_)
  refine e_aload_n C (x := p0) rfl dX7_isAt_4 (pc' := 5) rfl ?_
  refine f_getI C (ci := 7) (CN := RX7) (TT := TX7) (N := 36) 26 dX7_isAt_5 (pc' := 8) rfl in_X7_isAt_X7 rfl (by decide) fl_X7_isAt_179 h (fun v2 h => ?_)
  refine e_icmp_ge C (tg := 41) dX7_isAt_8 (by decide) (pc' := 11) rfl (fun hc => ?_) (fun hc => ?_)
  · replace h := h.1 hc
    refine e_iconst C (v := (0 : Int32)) (by decide) dX7_isAt_41 (pc' := 42) rfl ?_
    exact r_bool C F dX7_isAt_42 (by decide) (by decide) (Or.inl rfl) h
  · replace h := h.2 hc
    refine e_aload_n C (x := p0) rfl dX7_isAt_11 (pc' := 12) rfl ?_
    refine f_getR C (ci := 7) (CN := RX7) (TT := TX7) (N := 36) 23 dX7_isAt_12 (pc' := 15) rfl in_X7_isAt_X7 rfl (by decide) fl_X7_isAt_63 h (fun v3 h => ?_)
    refine e_aload_n C (x := p0) rfl dX7_isAt_15 (pc' := 16) rfl ?_
    refine f_getI C (ci := 7) (CN := RX7) (TT := TX7) (N := 36) 25 dX7_isAt_16 (pc' := 19) rfl in_X7_isAt_X7 rfl (by decide) fl_X7_isAt_176 h (fun v4 h => ?_)
    refine f_baload C dX7_isAt_19 (pc' := 20) rfl h (fun v5 h => ?_)
    refine e_iload_n C (x := p1) rfl dX7_isAt_20 (pc' := 21) rfl ?_
    refine e_icmp_lt C (tg := 41) dX7_isAt_21 (by decide) (pc' := 24) rfl (fun hc => ?_) (fun hc => ?_)
    · replace h := h.1 hc
      refine e_iconst C (v := (0 : Int32)) (by decide) dX7_isAt_41 (pc' := 42) rfl ?_
      exact r_bool C F dX7_isAt_42 (by decide) (by decide) (Or.inl rfl) h
    · replace h := h.2 hc
      refine e_aload_n C (x := p0) rfl dX7_isAt_24 (pc' := 25) rfl ?_
      refine f_getR C (ci := 7) (CN := RX7) (TT := TX7) (N := 36) 23 dX7_isAt_25 (pc' := 28) rfl in_X7_isAt_X7 rfl (by decide) fl_X7_isAt_63 h (fun v6 h => ?_)
      refine e_aload_n C (x := p0) rfl dX7_isAt_28 (pc' := 29) rfl ?_
      refine f_getI C (ci := 7) (CN := RX7) (TT := TX7) (N := 36) 25 dX7_isAt_29 (pc' := 32) rfl in_X7_isAt_X7 rfl (by decide) fl_X7_isAt_176 h (fun v7 h => ?_)
      refine f_baload C dX7_isAt_32 (pc' := 33) rfl h (fun v8 h => ?_)
      refine e_iload_n C (x := p2) rfl dX7_isAt_33 (pc' := 34) rfl ?_
      refine e_icmp_gt C (tg := 41) dX7_isAt_34 (by decide) (pc' := 37) rfl (fun hc => ?_) (fun hc => ?_)
      · replace h := h.1 hc
        refine e_iconst C (v := (0 : Int32)) (by decide) dX7_isAt_41 (pc' := 42) rfl ?_
        exact r_bool C F dX7_isAt_42 (by decide) (by decide) (Or.inl rfl) h
      · replace h := h.2 hc
        refine e_iconst C (v := (1 : Int32)) (by decide) dX7_isAt_37 (pc' := 38) rfl ?_
        refine e_goto C (tg := 42) dX7_isAt_38 (by decide) ?_
        exact r_bool C F dX7_isAt_42 (by decide) (by decide) (Or.inr rfl) h
abbrev rm_X7_blanks : Room := { frames := 1, cells := 0, slots := 0, locals := 22 }
set_option maxRecDepth 20000 in
theorem in_X7_blanks_X7 : ∀ w ∈ wsX70, w ∈ wsX7_blanks := by decide +kernel
set_option maxRecDepth 20000 in
theorem fl_X7_blanks_176 : Cond.fieldLink RX7 176 (TX7 25).1 (TX7 25).2.1 (TX7 25).2.2.1 ∈ wsX7_blanks := by decide +kernel
set_option maxRecDepth 20000 in
theorem fl_X7_blanks_185 : Cond.fieldLink RX7 185 (TX7 27).1 (TX7 27).2.1 (TX7 27).2.2.1 ∈ wsX7_blanks := by decide +kernel
def F_X7_blanks (G : Gx) (p0 : Nat) (ws : va_W) (Q : va_W → Prop) : Prop := ∀ (J0 : va_W → Prop), (∀ (ws : va_W), (qV 7 p0 ws ∧ F_X7_isAt G p0 (32 : Int32) (32 : Int32) ws (fun v4 ws => ((v4 = 0 → qI 7 25 p0 ws (fun v5 => qP 7 27 p0 (.int v5) ws (fun ws => Q ws))) ∧ (¬ v4 = 0 → qI 7 25 p0 ws (fun v6 => qP 7 25 p0 (.int (v6 + (1 : Int32))) ws (fun ws => J0 ws)))))) → J0 ws) → (qV 7 p0 ws ∧ F_X7_isAt G p0 (32 : Int32) (32 : Int32) ws (fun v1 ws => ((v1 = 0 → qI 7 25 p0 ws (fun v2 => qP 7 27 p0 (.int v2) ws (fun ws => Q ws))) ∧ (¬ v1 = 0 → qI 7 25 p0 ws (fun v3 => qP 7 25 p0 (.int (v3 + (1 : Int32))) ws (fun ws => J0 ws))))))
set_option maxRecDepth 20000 in
set_option maxHeartbeats 4000000 in
theorem m_X7_blanks {G : Gx} (hst : (gl G).stackTraces = false) {p0 : Nat} {ws : va_W} {Q : va_W → Prop} (h : F_X7_blanks G p0 ws Q) : Mt G yX7_blanks wsX7_blanks rm_X7_blanks [.ref p0] ws (QtV G Q) := by
  refine mk_Mt (cc := cX7_blanks) (nL := 1) (own := RX7) (ret := none) (lv0 := [some (.ref p0)]) hst (by decide) rfl rfl (Nat.le_of_ble_eq_true rfl) rfl ?_
  intro K C F
  replace h := h (fun ws => Ev K G 1 0 0 0 [some (.ref p0)] [] ws)
  replace h := h (by
    intro ws h
    show Ev K G 1 0 0 0 [some (.ref p0)] [] ws
    refine e_aload_n C (x := p0) rfl dX7_blanks_0 (pc' := 1) rfl ?_
    refine e_bipush C (v := (32 : Int32)) (by decide) dX7_blanks_1 (pc' := 3) rfl ?_
    refine e_bipush C (v := (32 : Int32)) (by decide) dX7_blanks_3 (pc' := 5) rfl ?_
    obtain ⟨hv, h⟩ := h
    refine e_calli (run_V (n := 2) C (m_X7_isAt hst h) gX7_blanks_X7_isAt rfl ⟨rfl, by decide, by decide, by decide +kernel⟩ ⟨by decide, by decide⟩ (ci := 7) rfl rfl hv rfl (Nat.le_of_ble_eq_true rfl) dX7_blanks_5 ⟨by decide, by decide⟩ (As := [.int (32 : Int32), .int (32 : Int32)]) rfl) (pc' := 8) rfl (cn' := 0) (sn' := 0) rfl rfl (fun v4 ws h => ?_)
    refine e_if_eq C (tg := 24) dX7_blanks_8 (by decide) (pc' := 11) rfl (fun hc => ?_) (fun hc => ?_)
    · replace h := h.1 hc
      refine e_aload_n C (x := p0) rfl dX7_blanks_24 (pc' := 25) rfl ?_
      refine e_aload_n C (x := p0) rfl dX7_blanks_25 (pc' := 26) rfl ?_
      refine f_getI C (ci := 7) (CN := RX7) (TT := TX7) (N := 36) 25 dX7_blanks_26 (pc' := 29) rfl in_X7_blanks_X7 rfl (by decide) fl_X7_blanks_176 h (fun v5 h => ?_)
      refine f_putI C (ci := 7) (CN := RX7) (TT := TX7) (N := 36) 27 tyX7 dX7_blanks_29 (pc' := 32) rfl in_X7_blanks_X7 tyX7_ok nmX7 rfl (by decide) fl_X7_blanks_185 rfl (by decide +kernel) h (fun ws h => ?_)
      exact r_void C F dX7_blanks_32 (by decide) (by decide) h
    · replace h := h.2 hc
      refine e_aload_n C (x := p0) rfl dX7_blanks_11 (pc' := 12) rfl ?_
      refine e_dup C rfl dX7_blanks_12 (pc' := 13) rfl ?_
      refine f_getI C (ci := 7) (CN := RX7) (TT := TX7) (N := 36) 25 dX7_blanks_13 (pc' := 16) rfl in_X7_blanks_X7 rfl (by decide) fl_X7_blanks_176 h (fun v6 h => ?_)
      refine e_iconst C (v := (1 : Int32)) (by decide) dX7_blanks_16 (pc' := 17) rfl ?_
      refine e_iadd C dX7_blanks_17 (pc' := 18) rfl ?_
      refine f_putI C (ci := 7) (CN := RX7) (TT := TX7) (N := 36) 25 tyX7 dX7_blanks_18 (pc' := 21) rfl in_X7_blanks_X7 tyX7_ok nmX7 rfl (by decide) fl_X7_blanks_176 rfl (by decide +kernel) h (fun ws h => ?_)
      refine e_goto C (tg := 0) dX7_blanks_21 (by decide) ?_
      exact h)
  refine e_aload_n C (x := p0) rfl dX7_blanks_0 (pc' := 1) rfl ?_
  refine e_bipush C (v := (32 : Int32)) (by decide) dX7_blanks_1 (pc' := 3) rfl ?_
  refine e_bipush C (v := (32 : Int32)) (by decide) dX7_blanks_3 (pc' := 5) rfl ?_
  obtain ⟨hv, h⟩ := h
  refine e_calli (run_V (n := 2) C (m_X7_isAt hst h) gX7_blanks_X7_isAt rfl ⟨rfl, by decide, by decide, by decide +kernel⟩ ⟨by decide, by decide⟩ (ci := 7) rfl rfl hv rfl (Nat.le_of_ble_eq_true rfl) dX7_blanks_5 ⟨by decide, by decide⟩ (As := [.int (32 : Int32), .int (32 : Int32)]) rfl) (pc' := 8) rfl (cn' := 0) (sn' := 0) rfl rfl (fun v1 ws h => ?_)
  refine e_if_eq C (tg := 24) dX7_blanks_8 (by decide) (pc' := 11) rfl (fun hc => ?_) (fun hc => ?_)
  · replace h := h.1 hc
    refine e_aload_n C (x := p0) rfl dX7_blanks_24 (pc' := 25) rfl ?_
    refine e_aload_n C (x := p0) rfl dX7_blanks_25 (pc' := 26) rfl ?_
    refine f_getI C (ci := 7) (CN := RX7) (TT := TX7) (N := 36) 25 dX7_blanks_26 (pc' := 29) rfl in_X7_blanks_X7 rfl (by decide) fl_X7_blanks_176 h (fun v2 h => ?_)
    refine f_putI C (ci := 7) (CN := RX7) (TT := TX7) (N := 36) 27 tyX7 dX7_blanks_29 (pc' := 32) rfl in_X7_blanks_X7 tyX7_ok nmX7 rfl (by decide) fl_X7_blanks_185 rfl (by decide +kernel) h (fun ws h => ?_)
    exact r_void C F dX7_blanks_32 (by decide) (by decide) h
  · replace h := h.2 hc
    refine e_aload_n C (x := p0) rfl dX7_blanks_11 (pc' := 12) rfl ?_
    refine e_dup C rfl dX7_blanks_12 (pc' := 13) rfl ?_
    refine f_getI C (ci := 7) (CN := RX7) (TT := TX7) (N := 36) 25 dX7_blanks_13 (pc' := 16) rfl in_X7_blanks_X7 rfl (by decide) fl_X7_blanks_176 h (fun v3 h => ?_)
    refine e_iconst C (v := (1 : Int32)) (by decide) dX7_blanks_16 (pc' := 17) rfl ?_
    refine e_iadd C dX7_blanks_17 (pc' := 18) rfl ?_
    refine f_putI C (ci := 7) (CN := RX7) (TT := TX7) (N := 36) 25 tyX7 dX7_blanks_18 (pc' := 21) rfl in_X7_blanks_X7 tyX7_ok nmX7 rfl (by decide) fl_X7_blanks_176 rfl (by decide +kernel) h (fun ws h => ?_)
    refine e_goto C (tg := 0) dX7_blanks_21 (by decide) ?_
    exact h
abbrev rm_X7_isWord : Room := { frames := 4, cells := 0, slots := 0, locals := 85 }
set_option maxRecDepth 20000 in
theorem in_X7_isWord_X7 : ∀ w ∈ wsX70, w ∈ wsX7_isWord := by decide +kernel
set_option maxRecDepth 20000 in
theorem fl_X7_isWord_176 : Cond.fieldLink RX7 176 (TX7 25).1 (TX7 25).2.1 (TX7 25).2.2.1 ∈ wsX7_isWord := by decide +kernel
set_option maxRecDepth 20000 in
theorem fl_X7_isWord_185 : Cond.fieldLink RX7 185 (TX7 27).1 (TX7 27).2.1 (TX7 27).2.2.1 ∈ wsX7_isWord := by decide +kernel
set_option maxRecDepth 20000 in
theorem fl_X7_isWord_63 : Cond.fieldLink RX7 63 (TX7 23).1 (TX7 23).2.1 (TX7 23).2.2.1 ∈ wsX7_isWord := by decide +kernel
def F_X7_isWord (G : Gx) (p0 : Nat) (p1 : Nat) (ws : va_W) (Q : Int32 → va_W → Prop) : Prop := ∀ (J21 : Int32 → va_W → Prop), ∀ (J24 : Int32 → Int32 → va_W → Prop), ∀ (J60 : Int32 → Int32 → va_W → Prop), (∀ (t0 : Int32) (ws : va_W), J24 t0 (0 : Int32) ws → J21 t0 ws) → (∀ (x2 : Int32) (x3 : Int32) (ws : va_W), ((x2 = 0 → ((x2 = 0 ∨ x2 = 1) ∧ Q x2 ws)) ∧ (¬ x2 = 0 → qLn G p1 (fun v4 => ((v4 ≤ x3 → ((x2 = 0 ∨ x2 = 1) ∧ Q x2 ws)) ∧ (¬ v4 ≤ x3 → qR 7 23 p0 ws (fun v5 => qI 7 27 p0 ws (fun v6 => qA (gc G 0) v5 (v6 + x3) ws (fun v7 => qCh G p1 x3 (fun v8 => ((¬ v7 = v8 → J60 x3 (0 : Int32) ws) ∧ (v7 = v8 → J60 x3 (1 : Int32) ws))))))))))) → J24 x2 x3 ws) → (∀ (x3 : Int32) (t0 : Int32) (ws : va_W), J24 t0 (x3 + (1 : Int32)) ws → J60 x3 t0 ws) → qI 7 25 p0 ws (fun v1 => qI 7 27 p0 ws (fun v2 => qLn G p1 (fun v3 => ((¬ (v1 - v2) = v3 → J21 (0 : Int32) ws) ∧ ((v1 - v2) = v3 → J21 (1 : Int32) ws)))))
set_option maxRecDepth 20000 in
set_option maxHeartbeats 4000000 in
theorem m_X7_isWord {G : Gx} (hst : (gl G).stackTraces = false) {p0 : Nat} {p1 : Nat} {ws : va_W} {Q : Int32 → va_W → Prop} (h : F_X7_isWord G p0 p1 ws Q) : Mt G yX7_isWord wsX7_isWord rm_X7_isWord [.ref p0, .ref p1] ws (QtI G Q) := by
  refine mk_Mt (cc := cX7_isWord) (nL := 4) (own := RX7) (ret := (some .boolean)) (lv0 := [some (.ref p0), some (.ref p1), none, none]) hst (by decide) rfl rfl (Nat.le_of_ble_eq_true rfl) rfl ?_
  intro K C F
  replace h := h (fun t0 ws => Ev K G 4 0 0 21 [some (.ref p0), some (.ref p1), none, none] [.int t0] ws) (fun x2 x3 ws => Ev K G 4 0 0 24 [some (.ref p0), some (.ref p1), some (.int x2), some (.int x3)] [] ws) (fun x3 t0 ws => Ev K G 4 0 0 60 [some (.ref p0), some (.ref p1), none, some (.int x3)] [.int t0] ws)
  replace h := h (by
    intro t0 ws h
    show Ev K G 4 0 0 21 [some (.ref p0), some (.ref p1), none, none] [.int t0] ws
    refine e_istore_n C (by decide) dX7_isWord_21 (pc' := 22) rfl (lv' := [some (.ref p0), some (.ref p1), some (.int t0), none]) rfl ?_
    refine e_iconst C (v := (0 : Int32)) (by decide) dX7_isWord_22 (pc' := 23) rfl ?_
    refine e_istore_n C (by decide) dX7_isWord_23 (pc' := 24) rfl (lv' := [some (.ref p0), some (.ref p1), some (.int t0), some (.int (0 : Int32))]) rfl ?_
    exact h)
  replace h := h (by
    intro x2 x3 ws h
    show Ev K G 4 0 0 24 [some (.ref p0), some (.ref p1), some (.int x2), some (.int x3)] [] ws
    refine e_iload_n C (x := x2) rfl dX7_isWord_24 (pc' := 25) rfl ?_
    refine e_if_eq C (tg := 67) dX7_isWord_25 (by decide) (pc' := 28) rfl (fun hc => ?_) (fun hc => ?_)
    · replace h := h.1 hc
      refine e_iload_n C (x := x2) rfl dX7_isWord_67 (pc' := 68) rfl ?_
      exact r_bool C F dX7_isWord_68 (by decide) (by decide) h.1 h.2
    · replace h := h.2 hc
      refine e_iload_n C (x := x3) rfl dX7_isWord_28 (pc' := 29) rfl ?_
      refine e_aload_n C (x := p1) rfl dX7_isWord_29 (pc' := 30) rfl ?_
      refine f_length C hst dX7_isWord_30 (pc' := 33) rfl gX7_isWord_J0_length_8abf5 ⟨by decide, by decide⟩ (Nat.le_of_ble_eq_true rfl) ⟨by decide, by decide⟩ h (fun v4 h => ?_)
      refine e_icmp_ge C (tg := 67) dX7_isWord_33 (by decide) (pc' := 36) rfl (fun hc => ?_) (fun hc => ?_)
      · replace h := h.1 hc
        refine e_iload_n C (x := x2) rfl dX7_isWord_67 (pc' := 68) rfl ?_
        exact r_bool C F dX7_isWord_68 (by decide) (by decide) h.1 h.2
      · replace h := h.2 hc
        refine e_aload_n C (x := p0) rfl dX7_isWord_36 (pc' := 37) rfl ?_
        refine f_getR C (ci := 7) (CN := RX7) (TT := TX7) (N := 36) 23 dX7_isWord_37 (pc' := 40) rfl in_X7_isWord_X7 rfl (by decide) fl_X7_isWord_63 h (fun v5 h => ?_)
        refine e_aload_n C (x := p0) rfl dX7_isWord_40 (pc' := 41) rfl ?_
        refine f_getI C (ci := 7) (CN := RX7) (TT := TX7) (N := 36) 27 dX7_isWord_41 (pc' := 44) rfl in_X7_isWord_X7 rfl (by decide) fl_X7_isWord_185 h (fun v6 h => ?_)
        refine e_iload_n C (x := x3) rfl dX7_isWord_44 (pc' := 45) rfl ?_
        refine e_iadd C dX7_isWord_45 (pc' := 46) rfl ?_
        refine f_baload C dX7_isWord_46 (pc' := 47) rfl h (fun v7 h => ?_)
        refine e_aload_n C (x := p1) rfl dX7_isWord_47 (pc' := 48) rfl ?_
        refine e_iload_n C (x := x3) rfl dX7_isWord_48 (pc' := 49) rfl ?_
        refine f_charAt C hst dX7_isWord_49 (pc' := 52) rfl gX7_isWord_J0_charAt_5068e ⟨by decide, by decide⟩ (Nat.le_of_ble_eq_true rfl) ⟨by decide, by decide⟩ h (fun v8 h => ?_)
        refine e_icmp_ne C (tg := 59) dX7_isWord_52 (by decide) (pc' := 55) rfl (fun hc => ?_) (fun hc => ?_)
        · replace h := h.1 hc
          refine e_iconst C (v := (0 : Int32)) (by decide) dX7_isWord_59 (pc' := 60) rfl ?_
          refine e_mask [true, true, false, true] (lv' := [some (.ref p0), some (.ref p1), none, some (.int x3)]) rfl ?_
          exact h
        · replace h := h.2 hc
          refine e_iconst C (v := (1 : Int32)) (by decide) dX7_isWord_55 (pc' := 56) rfl ?_
          refine e_goto C (tg := 60) dX7_isWord_56 (by decide) ?_
          refine e_mask [true, true, false, true] (lv' := [some (.ref p0), some (.ref p1), none, some (.int x3)]) rfl ?_
          exact h)
  replace h := h (by
    intro x3 t0 ws h
    show Ev K G 4 0 0 60 [some (.ref p0), some (.ref p1), none, some (.int x3)] [.int t0] ws
    refine e_istore_n C (by decide) dX7_isWord_60 (pc' := 61) rfl (lv' := [some (.ref p0), some (.ref p1), some (.int t0), some (.int x3)]) rfl ?_
    refine e_iinc C dX7_isWord_61 (x := x3) (v := (x3 + (1 : Int32))) rfl rfl (by decide) (pc' := 64) rfl (lv' := [some (.ref p0), some (.ref p1), some (.int t0), some (.int (x3 + (1 : Int32)))]) rfl ?_
    refine e_goto C (tg := 24) dX7_isWord_64 (by decide) ?_
    exact h)
  refine e_aload_n C (x := p0) rfl dX7_isWord_0 (pc' := 1) rfl ?_
  refine f_getI C (ci := 7) (CN := RX7) (TT := TX7) (N := 36) 25 dX7_isWord_1 (pc' := 4) rfl in_X7_isWord_X7 rfl (by decide) fl_X7_isWord_176 h (fun v1 h => ?_)
  refine e_aload_n C (x := p0) rfl dX7_isWord_4 (pc' := 5) rfl ?_
  refine f_getI C (ci := 7) (CN := RX7) (TT := TX7) (N := 36) 27 dX7_isWord_5 (pc' := 8) rfl in_X7_isWord_X7 rfl (by decide) fl_X7_isWord_185 h (fun v2 h => ?_)
  refine e_isub C dX7_isWord_8 (pc' := 9) rfl ?_
  refine e_aload_n C (x := p1) rfl dX7_isWord_9 (pc' := 10) rfl ?_
  refine f_length C hst dX7_isWord_10 (pc' := 13) rfl gX7_isWord_J0_length_8abf5 ⟨by decide, by decide⟩ (Nat.le_of_ble_eq_true rfl) ⟨by decide, by decide⟩ h (fun v3 h => ?_)
  refine e_icmp_ne C (tg := 20) dX7_isWord_13 (by decide) (pc' := 16) rfl (fun hc => ?_) (fun hc => ?_)
  · replace h := h.1 hc
    refine e_iconst C (v := (0 : Int32)) (by decide) dX7_isWord_20 (pc' := 21) rfl ?_
    exact h
  · replace h := h.2 hc
    refine e_iconst C (v := (1 : Int32)) (by decide) dX7_isWord_16 (pc' := 17) rfl ?_
    refine e_goto C (tg := 21) dX7_isWord_17 (by decide) ?_
    exact h
