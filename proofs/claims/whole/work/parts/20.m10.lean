abbrev rm_X7_field : Room := { frames := 1, cells := 0, slots := 0, locals := 22 }
set_option maxRecDepth 20000 in
theorem in_X7_field_X7 : ∀ w ∈ wsX70, w ∈ wsX7_field := by decide +kernel
set_option maxRecDepth 20000 in
theorem fl_X7_field_88 : Cond.fieldLink RX7 88 (TX7 0).1 (TX7 0).2.1 (TX7 0).2.2.1 ∈ wsX7_field := by decide +kernel
set_option maxRecDepth 20000 in
theorem fl_X7_field_233 : Cond.fieldLink RX7 233 (TX7 34).1 (TX7 34).2.1 (TX7 34).2.2.1 ∈ wsX7_field := by decide +kernel
set_option maxRecDepth 20000 in
theorem fl_X7_field_76 : Cond.fieldLink RX7 76 (TX7 31).1 (TX7 31).2.1 (TX7 31).2.2.1 ∈ wsX7_field := by decide +kernel
set_option maxRecDepth 20000 in
theorem fl_X7_field_79 : Cond.fieldLink RX7 79 (TX7 32).1 (TX7 32).2.1 (TX7 32).2.2.1 ∈ wsX7_field := by decide +kernel
set_option maxRecDepth 20000 in
theorem fl_X7_field_82 : Cond.fieldLink RX7 82 (TX7 33).1 (TX7 33).2.1 (TX7 33).2.2.1 ∈ wsX7_field := by decide +kernel
def F_X7_field (G : Gx) (p0 : Nat) (p1 : Int32) (p2 : Int32) (p3 : Int32) (ws : va_W) (Q : Int32 → va_W → Prop) : Prop := ∀ (J38 : Nat → va_W → Prop), ∀ (J43 : Int32 → Nat → va_W → Prop), (∀ (t0 : Nat) (ws : va_W), J43 (1 : Int32) t0 ws → J38 t0 ws) → (∀ (t0 : Int32) (t1 : Nat) (ws : va_W), (qV 7 t1 ws ∧ F_X7_throwsIf G t1 t0 (1 : Int32) ws (fun v4 ws => ((v4 = 0 → qI 7 34 p0 ws (fun v5 => ((¬ v5 = (9 : Int32) → qR 7 31 p0 ws (fun v6 => qI 7 34 p0 ws (fun v7 => qS (gc G 1) v6 v7 p1 ws (fun ws => qR 7 32 p0 ws (fun v8 => qI 7 34 p0 ws (fun v9 => qS (gc G 1) v8 v9 p2 ws (fun ws => qR 7 33 p0 ws (fun v10 => qI 7 34 p0 ws (fun v11 => qS (gc G 1) v10 v11 p3 ws (fun ws => qI 7 34 p0 ws (fun v12 => qP 7 34 p0 (.int (v12 + (1 : Int32))) ws (fun ws => qI 7 34 p0 ws (fun v13 => Q v13 ws))))))))))))) ∧ (v5 = (9 : Int32) → Q (-1 : Int32) ws)))) ∧ (¬ v4 = 0 → Q (0 : Int32) ws)))) → J43 t0 t1 ws) → qP 7 0 p0 (.int (0 : Int32)) ws (fun ws => (F_X7_in G p1 (1 : Int32) (1000 : Int32) ws (fun v1 ws => ((v1 = 0 → J38 p0 ws) ∧ (¬ v1 = 0 → (F_X7_in G p2 (0 : Int32) (10000 : Int32) ws (fun v2 ws => ((v2 = 0 → J38 p0 ws) ∧ (¬ v2 = 0 → (F_X7_in G p3 (0 : Int32) (100 : Int32) ws (fun v3 ws => ((¬ v3 = 0 → J43 (0 : Int32) p0 ws) ∧ (v3 = 0 → J38 p0 ws)))))))))))))
set_option maxRecDepth 20000 in
set_option maxHeartbeats 4000000 in
theorem m_X7_field {G : Gx} (hst : (gl G).stackTraces = false) {p0 : Nat} {p1 : Int32} {p2 : Int32} {p3 : Int32} {ws : va_W} {Q : Int32 → va_W → Prop} (h : F_X7_field G p0 p1 p2 p3 ws Q) : Mt G yX7_field wsX7_field rm_X7_field [.ref p0, .int p1, .int p2, .int p3] ws (QtI G Q) := by
  refine mk_Mt (cc := cX7_field) (nL := 4) (own := RX7) (ret := (some .int)) (lv0 := [some (.ref p0), some (.int p1), some (.int p2), some (.int p3)]) hst (by decide) rfl rfl (Nat.le_of_ble_eq_true rfl) rfl ?_
  intro K C F
  replace h := h (fun t0 ws => Ev K G 4 0 0 38 [some (.ref p0), some (.int p1), some (.int p2), some (.int p3)] [.ref t0] ws) (fun t0 t1 ws => Ev K G 4 0 0 43 [some (.ref p0), some (.int p1), some (.int p2), some (.int p3)] [.int t0, .ref t1] ws)
  replace h := h (by
    intro t0 ws h
    show Ev K G 4 0 0 38 [some (.ref p0), some (.int p1), some (.int p2), some (.int p3)] [.ref t0] ws
    refine e_iconst C (v := (1 : Int32)) (by decide) dX7_field_38 (pc' := 39) rfl ?_
    refine e_goto C (tg := 43) dX7_field_39 (by decide) ?_
    exact h)
  replace h := h (by
    intro t0 t1 ws h
    show Ev K G 4 0 0 43 [some (.ref p0), some (.int p1), some (.int p2), some (.int p3)] [.int t0, .ref t1] ws
    refine e_iconst C (v := (1 : Int32)) (by decide) dX7_field_43 (pc' := 44) rfl ?_
    obtain ⟨hv, h⟩ := h
    refine e_calli (run_V (n := 2) C (m_X7_throwsIf hst h) gX7_field_X7_throwsIf rfl ⟨rfl, by decide, by decide, by decide +kernel⟩ ⟨by decide, by decide⟩ (ci := 7) rfl rfl hv rfl (Nat.le_of_ble_eq_true rfl) dX7_field_44 ⟨by decide, by decide⟩ (As := [.int t0, .int (1 : Int32)]) rfl) (pc' := 47) rfl (cn' := 0) (sn' := 0) rfl rfl (fun v4 ws h => ?_)
    refine e_if_eq C (tg := 52) dX7_field_47 (by decide) (pc' := 50) rfl (fun hc => ?_) (fun hc => ?_)
    · replace h := h.1 hc
      refine e_aload_n C (x := p0) rfl dX7_field_52 (pc' := 53) rfl ?_
      refine f_getI C (ci := 7) (CN := RX7) (TT := TX7) (N := 36) 34 dX7_field_53 (pc' := 56) rfl in_X7_field_X7 rfl (by decide) fl_X7_field_233 h (fun v5 h => ?_)
      refine e_bipush C (v := (9 : Int32)) (by decide) dX7_field_56 (pc' := 58) rfl ?_
      refine e_icmp_ne C (tg := 63) dX7_field_58 (by decide) (pc' := 61) rfl (fun hc => ?_) (fun hc => ?_)
      · replace h := h.1 hc
        refine e_aload_n C (x := p0) rfl dX7_field_63 (pc' := 64) rfl ?_
        refine f_getR C (ci := 7) (CN := RX7) (TT := TX7) (N := 36) 31 dX7_field_64 (pc' := 67) rfl in_X7_field_X7 rfl (by decide) fl_X7_field_76 h (fun v6 h => ?_)
        refine e_aload_n C (x := p0) rfl dX7_field_67 (pc' := 68) rfl ?_
        refine f_getI C (ci := 7) (CN := RX7) (TT := TX7) (N := 36) 34 dX7_field_68 (pc' := 71) rfl in_X7_field_X7 rfl (by decide) fl_X7_field_233 h (fun v7 h => ?_)
        refine e_iload_n C (x := p1) rfl dX7_field_71 (pc' := 72) rfl ?_
        refine f_iastore C dX7_field_72 (pc' := 73) rfl h (fun ws h => ?_)
        refine e_aload_n C (x := p0) rfl dX7_field_73 (pc' := 74) rfl ?_
        refine f_getR C (ci := 7) (CN := RX7) (TT := TX7) (N := 36) 32 dX7_field_74 (pc' := 77) rfl in_X7_field_X7 rfl (by decide) fl_X7_field_79 h (fun v8 h => ?_)
        refine e_aload_n C (x := p0) rfl dX7_field_77 (pc' := 78) rfl ?_
        refine f_getI C (ci := 7) (CN := RX7) (TT := TX7) (N := 36) 34 dX7_field_78 (pc' := 81) rfl in_X7_field_X7 rfl (by decide) fl_X7_field_233 h (fun v9 h => ?_)
        refine e_iload_n C (x := p2) rfl dX7_field_81 (pc' := 82) rfl ?_
        refine f_iastore C dX7_field_82 (pc' := 83) rfl h (fun ws h => ?_)
        refine e_aload_n C (x := p0) rfl dX7_field_83 (pc' := 84) rfl ?_
        refine f_getR C (ci := 7) (CN := RX7) (TT := TX7) (N := 36) 33 dX7_field_84 (pc' := 87) rfl in_X7_field_X7 rfl (by decide) fl_X7_field_82 h (fun v10 h => ?_)
        refine e_aload_n C (x := p0) rfl dX7_field_87 (pc' := 88) rfl ?_
        refine f_getI C (ci := 7) (CN := RX7) (TT := TX7) (N := 36) 34 dX7_field_88 (pc' := 91) rfl in_X7_field_X7 rfl (by decide) fl_X7_field_233 h (fun v11 h => ?_)
        refine e_iload_n C (x := p3) rfl dX7_field_91 (pc' := 92) rfl ?_
        refine f_iastore C dX7_field_92 (pc' := 93) rfl h (fun ws h => ?_)
        refine e_aload_n C (x := p0) rfl dX7_field_93 (pc' := 94) rfl ?_
        refine e_dup C rfl dX7_field_94 (pc' := 95) rfl ?_
        refine f_getI C (ci := 7) (CN := RX7) (TT := TX7) (N := 36) 34 dX7_field_95 (pc' := 98) rfl in_X7_field_X7 rfl (by decide) fl_X7_field_233 h (fun v12 h => ?_)
        refine e_iconst C (v := (1 : Int32)) (by decide) dX7_field_98 (pc' := 99) rfl ?_
        refine e_iadd C dX7_field_99 (pc' := 100) rfl ?_
        refine f_putI C (ci := 7) (CN := RX7) (TT := TX7) (N := 36) 34 tyX7 dX7_field_100 (pc' := 103) rfl in_X7_field_X7 tyX7_ok nmX7 rfl (by decide) fl_X7_field_233 rfl (by decide +kernel) h (fun ws h => ?_)
        refine e_aload_n C (x := p0) rfl dX7_field_103 (pc' := 104) rfl ?_
        refine f_getI C (ci := 7) (CN := RX7) (TT := TX7) (N := 36) 34 dX7_field_104 (pc' := 107) rfl in_X7_field_X7 rfl (by decide) fl_X7_field_233 h (fun v13 h => ?_)
        exact r_int C F dX7_field_107 (by decide) (by decide) h
      · replace h := h.2 hc
        refine e_iconst C (v := (-1 : Int32)) (by decide) dX7_field_61 (pc' := 62) rfl ?_
        exact r_int C F dX7_field_62 (by decide) (by decide) h
    · replace h := h.2 hc
      refine e_iconst C (v := (0 : Int32)) (by decide) dX7_field_50 (pc' := 51) rfl ?_
      exact r_int C F dX7_field_51 (by decide) (by decide) h)
  refine e_aload_n C (x := p0) rfl dX7_field_0 (pc' := 1) rfl ?_
  refine e_iconst C (v := (0 : Int32)) (by decide) dX7_field_1 (pc' := 2) rfl ?_
  refine f_putI C (ci := 7) (CN := RX7) (TT := TX7) (N := 36) 0 tyX7 dX7_field_2 (pc' := 5) rfl in_X7_field_X7 tyX7_ok nmX7 rfl (by decide) fl_X7_field_88 rfl (by decide +kernel) h (fun ws h => ?_)
  refine e_aload_n C (x := p0) rfl dX7_field_5 (pc' := 6) rfl ?_
  refine e_iload_n C (x := p1) rfl dX7_field_6 (pc' := 7) rfl ?_
  refine e_iconst C (v := (1 : Int32)) (by decide) dX7_field_7 (pc' := 8) rfl ?_
  refine e_sipush C (v := (1000 : Int32)) (by decide) dX7_field_8 (pc' := 11) rfl ?_
  refine e_calli (run_S (n := 3) C (m_X7_in hst h) gX7_field_X7_in rfl ⟨rfl, by decide, by decide, by decide +kernel⟩ ⟨by decide, by decide⟩ rfl (Nat.le_of_ble_eq_true rfl) dX7_field_11 ⟨by decide, by decide⟩ (As := [.int p1, .int (1 : Int32), .int (1000 : Int32)]) rfl) (pc' := 14) rfl (cn' := 0) (sn' := 0) rfl rfl (fun v1 ws h => ?_)
  refine e_if_eq C (tg := 38) dX7_field_14 (by decide) (pc' := 17) rfl (fun hc => ?_) (fun hc => ?_)
  · replace h := h.1 hc
    exact h
  · replace h := h.2 hc
    refine e_iload_n C (x := p2) rfl dX7_field_17 (pc' := 18) rfl ?_
    refine e_iconst C (v := (0 : Int32)) (by decide) dX7_field_18 (pc' := 19) rfl ?_
    refine e_sipush C (v := (10000 : Int32)) (by decide) dX7_field_19 (pc' := 22) rfl ?_
    refine e_calli (run_S (n := 3) C (m_X7_in hst h) gX7_field_X7_in rfl ⟨rfl, by decide, by decide, by decide +kernel⟩ ⟨by decide, by decide⟩ rfl (Nat.le_of_ble_eq_true rfl) dX7_field_22 ⟨by decide, by decide⟩ (As := [.int p2, .int (0 : Int32), .int (10000 : Int32)]) rfl) (pc' := 25) rfl (cn' := 0) (sn' := 0) rfl rfl (fun v2 ws h => ?_)
    refine e_if_eq C (tg := 38) dX7_field_25 (by decide) (pc' := 28) rfl (fun hc => ?_) (fun hc => ?_)
    · replace h := h.1 hc
      exact h
    · replace h := h.2 hc
      refine e_iload_n C (x := p3) rfl dX7_field_28 (pc' := 29) rfl ?_
      refine e_iconst C (v := (0 : Int32)) (by decide) dX7_field_29 (pc' := 30) rfl ?_
      refine e_bipush C (v := (100 : Int32)) (by decide) dX7_field_30 (pc' := 32) rfl ?_
      refine e_calli (run_S (n := 3) C (m_X7_in hst h) gX7_field_X7_in rfl ⟨rfl, by decide, by decide, by decide +kernel⟩ ⟨by decide, by decide⟩ rfl (Nat.le_of_ble_eq_true rfl) dX7_field_32 ⟨by decide, by decide⟩ (As := [.int p3, .int (0 : Int32), .int (100 : Int32)]) rfl) (pc' := 35) rfl (cn' := 0) (sn' := 0) rfl rfl (fun v3 ws h => ?_)
      refine e_if_ne C (tg := 42) dX7_field_35 (by decide) (pc' := 38) rfl (fun hc => ?_) (fun hc => ?_)
      · replace h := h.1 hc
        refine e_iconst C (v := (0 : Int32)) (by decide) dX7_field_42 (pc' := 43) rfl ?_
        exact h
      · replace h := h.2 hc
        exact h
abbrev rm_X7_least : Room := { frames := 1, cells := 0, slots := 0, locals := 16 }
set_option maxRecDepth 20000 in
theorem in_X7_least_X7 : ∀ w ∈ wsX70, w ∈ wsX7_least := by decide +kernel
set_option maxRecDepth 20000 in
theorem fl_X7_least_88 : Cond.fieldLink RX7 88 (TX7 0).1 (TX7 0).2.1 (TX7 0).2.2.1 ∈ wsX7_least := by decide +kernel
set_option maxRecDepth 20000 in
theorem fl_X7_least_85 : Cond.fieldLink RX7 85 (TX7 35).1 (TX7 35).2.1 (TX7 35).2.2.1 ∈ wsX7_least := by decide +kernel
set_option maxRecDepth 20000 in
theorem fl_X7_least_233 : Cond.fieldLink RX7 233 (TX7 34).1 (TX7 34).2.1 (TX7 34).2.2.1 ∈ wsX7_least := by decide +kernel
set_option maxRecDepth 20000 in
theorem w_X7_least_c238 : Cond.constant RX7 238 (2147483647 : Int32) ∈ wsX7_least := by decide +kernel
set_option maxRecDepth 20000 in
theorem fl_X7_least_76 : Cond.fieldLink RX7 76 (TX7 31).1 (TX7 31).2.1 (TX7 31).2.2.1 ∈ wsX7_least := by decide +kernel
set_option maxRecDepth 20000 in
theorem fl_X7_least_82 : Cond.fieldLink RX7 82 (TX7 33).1 (TX7 33).2.1 (TX7 33).2.2.1 ∈ wsX7_least := by decide +kernel
set_option maxRecDepth 20000 in
theorem fl_X7_least_79 : Cond.fieldLink RX7 79 (TX7 32).1 (TX7 32).2.1 (TX7 32).2.2.1 ∈ wsX7_least := by decide +kernel
set_option maxRecDepth 20000 in
theorem w_X7_least_ml115 : Cond.methodLink RX7 115 Lib.Math.max.name ∈ wsX7_least := by decide +kernel
set_option maxRecDepth 20000 in
theorem w_X7_least_ms_max : Cond.static Lib.Math.max.name ∈ wsX7_least := by decide +kernel
set_option maxRecDepth 20000 in
theorem w_X7_least_mi : Cond.initialized "java/lang/Math" ∈ wsX7_least := by decide +kernel
set_option maxRecDepth 20000 in
theorem w_X7_least_mc_max : Cond.code Lib.Math.max.name Lib.Math.max.code 2 (some .int) ∈ wsX7_least := by decide +kernel
set_option maxRecDepth 20000 in
theorem w_X7_least_ml147 : Cond.methodLink RX7 147 Lib.Math.min.name ∈ wsX7_least := by decide +kernel
set_option maxRecDepth 20000 in
theorem w_X7_least_ms_min : Cond.static Lib.Math.min.name ∈ wsX7_least := by decide +kernel
set_option maxRecDepth 20000 in
theorem w_X7_least_mc_min : Cond.code Lib.Math.min.name Lib.Math.min.code 2 (some .int) ∈ wsX7_least := by decide +kernel
def F_X7_least (G : Gx) (p0 : Nat) (ws : va_W) (Q : Int32 → va_W → Prop) : Prop := ∀ (J14 : Int32 → va_W → Prop), ∀ (J28 : Int32 → Int32 → Int32 → va_W → Prop), ∀ (J70 : Int32 → Int32 → Int32 → Int32 → va_W → Prop), ∀ (J56 : Int32 → Int32 → Int32 → Int32 → va_W → Prop), ∀ (J129 : Int32 → Int32 → Int32 → Int32 → va_W → Prop), (∀ (x1 : Int32) (ws : va_W), qI 7 34 p0 ws (fun v2 => ((((1 : Int32) <<< (v2 &&& 31)) ≤ x1 → qR 7 35 p0 ws (fun v3 => qI 7 34 p0 ws (fun v4 => qA (gc G 1) v3 (((1 : Int32) <<< (v4 &&& 31)) - (1 : Int32)) ws (fun v5 => qP 7 34 p0 (.int (0 : Int32)) ws (fun ws => Q v5 ws))))) ∧ (¬ ((1 : Int32) <<< (v2 &&& 31)) ≤ x1 → J28 x1 (0 : Int32) (0 : Int32) ws))) → J14 x1 ws) → (∀ (x1 : Int32) (x2 : Int32) (x3 : Int32) (ws : va_W), qI 7 34 p0 ws (fun v6 => ((v6 ≤ x3 → J70 x1 x2 (2147483647 : Int32) (0 : Int32) ws) ∧ (¬ v6 ≤ x3 → ((¬ ((x1 >>> (x3 &&& 31)) &&& (1 : Int32)) = (1 : Int32) → J56 x1 x3 (0 : Int32) x2 ws) ∧ (((x1 >>> (x3 &&& 31)) &&& (1 : Int32)) = (1 : Int32) → qR 7 31 p0 ws (fun v7 => qA (gc G 1) v7 x3 ws (fun v8 => J56 x1 x3 v8 x2 ws))))))) → J28 x1 x2 x3 ws) → (∀ (x1 : Int32) (x2 : Int32) (x3 : Int32) (x4 : Int32) (ws : va_W), qI 7 34 p0 ws (fun v9 => ((v9 ≤ x4 → qR 7 35 p0 ws (fun v10 => qS (gc G 1) v10 x1 x3 ws (fun ws => J14 (x1 + (1 : Int32)) ws))) ∧ (¬ v9 ≤ x4 → ((¬ ((x1 >>> (x4 &&& 31)) &&& (1 : Int32)) = (1 : Int32) → J129 x1 x2 x3 x4 ws) ∧ (((x1 >>> (x4 &&& 31)) &&& (1 : Int32)) = (1 : Int32) → qR 7 35 p0 ws (fun v11 => qA (gc G 1) v11 (x1 &&& (((1 : Int32) <<< (x4 &&& 31)) ^^^ (-1 : Int32))) ws (fun v12 => qR 7 33 p0 ws (fun v13 => qA (gc G 1) v13 x4 ws (fun v14 => qR 7 32 p0 ws (fun v15 => qA (gc G 1) v15 x4 ws (fun v16 => J129 x1 x2 (if (v12 + (v14 * (if (0 : Int32) < (x2 - v16) then (x2 - v16) else (0 : Int32)))) < x3 then (v12 + (v14 * (if (0 : Int32) < (x2 - v16) then (x2 - v16) else (0 : Int32)))) else x3) x4 ws))))))))))) → J70 x1 x2 x3 x4 ws) → (∀ (x1 : Int32) (x3 : Int32) (t0 : Int32) (t1 : Int32) (ws : va_W), J28 x1 (t1 + t0) (x3 + (1 : Int32)) ws → J56 x1 x3 t0 t1 ws) → (∀ (x1 : Int32) (x2 : Int32) (x3 : Int32) (x4 : Int32) (ws : va_W), J70 x1 x2 x3 (x4 + (1 : Int32)) ws → J129 x1 x2 x3 x4 ws) → qP 7 0 p0 (.int (0 : Int32)) ws (fun ws => qR 7 35 p0 ws (fun v1 => qS (gc G 1) v1 (0 : Int32) (0 : Int32) ws (fun ws => J14 (1 : Int32) ws)))
set_option maxRecDepth 20000 in
set_option maxHeartbeats 4000000 in
theorem m_X7_least {G : Gx} (hst : (gl G).stackTraces = false) {p0 : Nat} {ws : va_W} {Q : Int32 → va_W → Prop} (h : F_X7_least G p0 ws Q) : Mt G yX7_least wsX7_least rm_X7_least [.ref p0] ws (QtI G Q) := by
  refine mk_Mt (cc := cX7_least) (nL := 5) (own := RX7) (ret := (some .int)) (lv0 := [some (.ref p0), none, none, none, none]) hst (by decide) rfl rfl (Nat.le_of_ble_eq_true rfl) rfl ?_
  intro K C F
  replace h := h (fun x1 ws => Ev K G 5 0 0 14 [some (.ref p0), some (.int x1), none, none, none] [] ws) (fun x1 x2 x3 ws => Ev K G 5 0 0 28 [some (.ref p0), some (.int x1), some (.int x2), some (.int x3), none] [] ws) (fun x1 x2 x3 x4 ws => Ev K G 5 0 0 70 [some (.ref p0), some (.int x1), some (.int x2), some (.int x3), some (.int x4)] [] ws) (fun x1 x3 t0 t1 ws => Ev K G 5 0 0 56 [some (.ref p0), some (.int x1), none, some (.int x3), none] [.int t0, .int t1] ws) (fun x1 x2 x3 x4 ws => Ev K G 5 0 0 129 [some (.ref p0), some (.int x1), some (.int x2), some (.int x3), some (.int x4)] [] ws)
  replace h := h (by
    intro x1 ws h
    show Ev K G 5 0 0 14 [some (.ref p0), some (.int x1), none, none, none] [] ws
    refine e_iload_n C (x := x1) rfl dX7_least_14 (pc' := 15) rfl ?_
    refine e_iconst C (v := (1 : Int32)) (by decide) dX7_least_15 (pc' := 16) rfl ?_
    refine e_aload_n C (x := p0) rfl dX7_least_16 (pc' := 17) rfl ?_
    refine f_getI C (ci := 7) (CN := RX7) (TT := TX7) (N := 36) 34 dX7_least_17 (pc' := 20) rfl in_X7_least_X7 rfl (by decide) fl_X7_least_233 h (fun v2 h => ?_)
    refine e_ishl C dX7_least_20 (pc' := 21) rfl ?_
    refine e_icmp_ge C (tg := 148) dX7_least_21 (by decide) (pc' := 24) rfl (fun hc => ?_) (fun hc => ?_)
    · replace h := h.1 hc
      refine e_aload_n C (x := p0) rfl dX7_least_148 (pc' := 149) rfl ?_
      refine f_getR C (ci := 7) (CN := RX7) (TT := TX7) (N := 36) 35 dX7_least_149 (pc' := 152) rfl in_X7_least_X7 rfl (by decide) fl_X7_least_85 h (fun v3 h => ?_)
      refine e_iconst C (v := (1 : Int32)) (by decide) dX7_least_152 (pc' := 153) rfl ?_
      refine e_aload_n C (x := p0) rfl dX7_least_153 (pc' := 154) rfl ?_
      refine f_getI C (ci := 7) (CN := RX7) (TT := TX7) (N := 36) 34 dX7_least_154 (pc' := 157) rfl in_X7_least_X7 rfl (by decide) fl_X7_least_233 h (fun v4 h => ?_)
      refine e_ishl C dX7_least_157 (pc' := 158) rfl ?_
      refine e_iconst C (v := (1 : Int32)) (by decide) dX7_least_158 (pc' := 159) rfl ?_
      refine e_isub C dX7_least_159 (pc' := 160) rfl ?_
      refine f_iaload C dX7_least_160 (pc' := 161) rfl h (fun v5 h => ?_)
      refine e_istore_n C (by decide) dX7_least_161 (pc' := 162) rfl (lv' := [some (.ref p0), some (.int v5), none, none, none]) rfl ?_
      refine e_aload_n C (x := p0) rfl dX7_least_162 (pc' := 163) rfl ?_
      refine e_iconst C (v := (0 : Int32)) (by decide) dX7_least_163 (pc' := 164) rfl ?_
      refine f_putI C (ci := 7) (CN := RX7) (TT := TX7) (N := 36) 34 tyX7 dX7_least_164 (pc' := 167) rfl in_X7_least_X7 tyX7_ok nmX7 rfl (by decide) fl_X7_least_233 rfl (by decide +kernel) h (fun ws h => ?_)
      refine e_iload_n C (x := v5) rfl dX7_least_167 (pc' := 168) rfl ?_
      exact r_int C F dX7_least_168 (by decide) (by decide) h
    · replace h := h.2 hc
      refine e_iconst C (v := (0 : Int32)) (by decide) dX7_least_24 (pc' := 25) rfl ?_
      refine e_istore_n C (by decide) dX7_least_25 (pc' := 26) rfl (lv' := [some (.ref p0), some (.int x1), some (.int (0 : Int32)), none, none]) rfl ?_
      refine e_iconst C (v := (0 : Int32)) (by decide) dX7_least_26 (pc' := 27) rfl ?_
      refine e_istore_n C (by decide) dX7_least_27 (pc' := 28) rfl (lv' := [some (.ref p0), some (.int x1), some (.int (0 : Int32)), some (.int (0 : Int32)), none]) rfl ?_
      exact h)
  replace h := h (by
    intro x1 x2 x3 ws h
    show Ev K G 5 0 0 28 [some (.ref p0), some (.int x1), some (.int x2), some (.int x3), none] [] ws
    refine e_iload_n C (x := x3) rfl dX7_least_28 (pc' := 29) rfl ?_
    refine e_aload_n C (x := p0) rfl dX7_least_29 (pc' := 30) rfl ?_
    refine f_getI C (ci := 7) (CN := RX7) (TT := TX7) (N := 36) 34 dX7_least_30 (pc' := 33) rfl in_X7_least_X7 rfl (by decide) fl_X7_least_233 h (fun v6 h => ?_)
    refine e_icmp_ge C (tg := 64) dX7_least_33 (by decide) (pc' := 36) rfl (fun hc => ?_) (fun hc => ?_)
    · replace h := h.1 hc
      refine e_ldc C (v := (2147483647 : Int32)) w_X7_least_c238 dX7_least_64 (pc' := 66) rfl ?_
      refine e_istore_n C (by decide) dX7_least_66 (pc' := 67) rfl (lv' := [some (.ref p0), some (.int x1), some (.int x2), some (.int (2147483647 : Int32)), none]) rfl ?_
      refine e_iconst C (v := (0 : Int32)) (by decide) dX7_least_67 (pc' := 68) rfl ?_
      refine e_istore C (by decide) dX7_least_68 (pc' := 70) rfl (lv' := [some (.ref p0), some (.int x1), some (.int x2), some (.int (2147483647 : Int32)), some (.int (0 : Int32))]) rfl ?_
      exact h
    · replace h := h.2 hc
      refine e_iload_n C (x := x2) rfl dX7_least_36 (pc' := 37) rfl ?_
      refine e_iload_n C (x := x1) rfl dX7_least_37 (pc' := 38) rfl ?_
      refine e_iload_n C (x := x3) rfl dX7_least_38 (pc' := 39) rfl ?_
      refine e_ishr C dX7_least_39 (pc' := 40) rfl ?_
      refine e_iconst C (v := (1 : Int32)) (by decide) dX7_least_40 (pc' := 41) rfl ?_
      refine e_iand C dX7_least_41 (pc' := 42) rfl ?_
      refine e_iconst C (v := (1 : Int32)) (by decide) dX7_least_42 (pc' := 43) rfl ?_
      refine e_icmp_ne C (tg := 55) dX7_least_43 (by decide) (pc' := 46) rfl (fun hc => ?_) (fun hc => ?_)
      · replace h := h.1 hc
        refine e_iconst C (v := (0 : Int32)) (by decide) dX7_least_55 (pc' := 56) rfl ?_
        refine e_mask [true, true, false, true, false] (lv' := [some (.ref p0), some (.int x1), none, some (.int x3), none]) rfl ?_
        exact h
      · replace h := h.2 hc
        refine e_aload_n C (x := p0) rfl dX7_least_46 (pc' := 47) rfl ?_
        refine f_getR C (ci := 7) (CN := RX7) (TT := TX7) (N := 36) 31 dX7_least_47 (pc' := 50) rfl in_X7_least_X7 rfl (by decide) fl_X7_least_76 h (fun v7 h => ?_)
        refine e_iload_n C (x := x3) rfl dX7_least_50 (pc' := 51) rfl ?_
        refine f_iaload C dX7_least_51 (pc' := 52) rfl h (fun v8 h => ?_)
        refine e_goto C (tg := 56) dX7_least_52 (by decide) ?_
        refine e_mask [true, true, false, true, false] (lv' := [some (.ref p0), some (.int x1), none, some (.int x3), none]) rfl ?_
        exact h)
  replace h := h (by
    intro x1 x2 x3 x4 ws h
    show Ev K G 5 0 0 70 [some (.ref p0), some (.int x1), some (.int x2), some (.int x3), some (.int x4)] [] ws
    refine e_iload C (x := x4) rfl dX7_least_70 (pc' := 72) rfl ?_
    refine e_aload_n C (x := p0) rfl dX7_least_72 (pc' := 73) rfl ?_
    refine f_getI C (ci := 7) (CN := RX7) (TT := TX7) (N := 36) 34 dX7_least_73 (pc' := 76) rfl in_X7_least_X7 rfl (by decide) fl_X7_least_233 h (fun v9 h => ?_)
    refine e_icmp_ge C (tg := 135) dX7_least_76 (by decide) (pc' := 79) rfl (fun hc => ?_) (fun hc => ?_)
    · replace h := h.1 hc
      refine e_aload_n C (x := p0) rfl dX7_least_135 (pc' := 136) rfl ?_
      refine f_getR C (ci := 7) (CN := RX7) (TT := TX7) (N := 36) 35 dX7_least_136 (pc' := 139) rfl in_X7_least_X7 rfl (by decide) fl_X7_least_85 h (fun v10 h => ?_)
      refine e_iload_n C (x := x1) rfl dX7_least_139 (pc' := 140) rfl ?_
      refine e_iload_n C (x := x3) rfl dX7_least_140 (pc' := 141) rfl ?_
      refine f_iastore C dX7_least_141 (pc' := 142) rfl h (fun ws h => ?_)
      refine e_iinc C dX7_least_142 (x := x1) (v := (x1 + (1 : Int32))) rfl rfl (by decide) (pc' := 145) rfl (lv' := [some (.ref p0), some (.int (x1 + (1 : Int32))), some (.int x2), some (.int x3), some (.int x4)]) rfl ?_
      refine e_goto C (tg := 14) dX7_least_145 (by decide) ?_
      refine e_mask [true, true, false, false, false] (lv' := [some (.ref p0), some (.int (x1 + (1 : Int32))), none, none, none]) rfl ?_
      exact h
    · replace h := h.2 hc
      refine e_iload_n C (x := x1) rfl dX7_least_79 (pc' := 80) rfl ?_
      refine e_iload C (x := x4) rfl dX7_least_80 (pc' := 82) rfl ?_
      refine e_ishr C dX7_least_82 (pc' := 83) rfl ?_
      refine e_iconst C (v := (1 : Int32)) (by decide) dX7_least_83 (pc' := 84) rfl ?_
      refine e_iand C dX7_least_84 (pc' := 85) rfl ?_
      refine e_iconst C (v := (1 : Int32)) (by decide) dX7_least_85 (pc' := 86) rfl ?_
      refine e_icmp_ne C (tg := 129) dX7_least_86 (by decide) (pc' := 89) rfl (fun hc => ?_) (fun hc => ?_)
      · replace h := h.1 hc
        exact h
      · replace h := h.2 hc
        refine e_iload_n C (x := x3) rfl dX7_least_89 (pc' := 90) rfl ?_
        refine e_aload_n C (x := p0) rfl dX7_least_90 (pc' := 91) rfl ?_
        refine f_getR C (ci := 7) (CN := RX7) (TT := TX7) (N := 36) 35 dX7_least_91 (pc' := 94) rfl in_X7_least_X7 rfl (by decide) fl_X7_least_85 h (fun v11 h => ?_)
        refine e_iload_n C (x := x1) rfl dX7_least_94 (pc' := 95) rfl ?_
        refine e_iconst C (v := (1 : Int32)) (by decide) dX7_least_95 (pc' := 96) rfl ?_
        refine e_iload C (x := x4) rfl dX7_least_96 (pc' := 98) rfl ?_
        refine e_ishl C dX7_least_98 (pc' := 99) rfl ?_
        refine e_iconst C (v := (-1 : Int32)) (by decide) dX7_least_99 (pc' := 100) rfl ?_
        refine e_ixor C dX7_least_100 (pc' := 101) rfl ?_
        refine e_iand C dX7_least_101 (pc' := 102) rfl ?_
        refine f_iaload C dX7_least_102 (pc' := 103) rfl h (fun v12 h => ?_)
        refine e_aload_n C (x := p0) rfl dX7_least_103 (pc' := 104) rfl ?_
        refine f_getR C (ci := 7) (CN := RX7) (TT := TX7) (N := 36) 33 dX7_least_104 (pc' := 107) rfl in_X7_least_X7 rfl (by decide) fl_X7_least_82 h (fun v13 h => ?_)
        refine e_iload C (x := x4) rfl dX7_least_107 (pc' := 109) rfl ?_
        refine f_iaload C dX7_least_109 (pc' := 110) rfl h (fun v14 h => ?_)
        refine e_iconst C (v := (0 : Int32)) (by decide) dX7_least_110 (pc' := 111) rfl ?_
        refine e_iload_n C (x := x2) rfl dX7_least_111 (pc' := 112) rfl ?_
        refine e_aload_n C (x := p0) rfl dX7_least_112 (pc' := 113) rfl ?_
        refine f_getR C (ci := 7) (CN := RX7) (TT := TX7) (N := 36) 32 dX7_least_113 (pc' := 116) rfl in_X7_least_X7 rfl (by decide) fl_X7_least_79 h (fun v15 h => ?_)
        refine e_iload C (x := x4) rfl dX7_least_116 (pc' := 118) rfl ?_
        refine f_iaload C dX7_least_118 (pc' := 119) rfl h (fun v16 h => ?_)
        refine e_isub C dX7_least_119 (pc' := 120) rfl ?_
        refine e_mmax C dX7_least_120 (pc' := 123) rfl w_X7_least_ml115 w_X7_least_ms_max w_X7_least_mi w_X7_least_mc_max (by decide) (Nat.le_of_ble_eq_true rfl) (by decide) (by decide) ?_
        refine e_imul C dX7_least_123 (pc' := 124) rfl ?_
        refine e_iadd C dX7_least_124 (pc' := 125) rfl ?_
        refine e_mmin C dX7_least_125 (pc' := 128) rfl w_X7_least_ml147 w_X7_least_ms_min w_X7_least_mi w_X7_least_mc_min (by decide) (Nat.le_of_ble_eq_true rfl) (by decide) (by decide) ?_
        refine e_istore_n C (by decide) dX7_least_128 (pc' := 129) rfl (lv' := [some (.ref p0), some (.int x1), some (.int x2), some (.int (if (v12 + (v14 * (if (0 : Int32) < (x2 - v16) then (x2 - v16) else (0 : Int32)))) < x3 then (v12 + (v14 * (if (0 : Int32) < (x2 - v16) then (x2 - v16) else (0 : Int32)))) else x3)), some (.int x4)]) rfl ?_
        exact h)
  replace h := h (by
    intro x1 x3 t0 t1 ws h
    show Ev K G 5 0 0 56 [some (.ref p0), some (.int x1), none, some (.int x3), none] [.int t0, .int t1] ws
    refine e_iadd C dX7_least_56 (pc' := 57) rfl ?_
    refine e_istore_n C (by decide) dX7_least_57 (pc' := 58) rfl (lv' := [some (.ref p0), some (.int x1), some (.int (t1 + t0)), some (.int x3), none]) rfl ?_
    refine e_iinc C dX7_least_58 (x := x3) (v := (x3 + (1 : Int32))) rfl rfl (by decide) (pc' := 61) rfl (lv' := [some (.ref p0), some (.int x1), some (.int (t1 + t0)), some (.int (x3 + (1 : Int32))), none]) rfl ?_
    refine e_goto C (tg := 28) dX7_least_61 (by decide) ?_
    exact h)
  replace h := h (by
    intro x1 x2 x3 x4 ws h
    show Ev K G 5 0 0 129 [some (.ref p0), some (.int x1), some (.int x2), some (.int x3), some (.int x4)] [] ws
    refine e_iinc C dX7_least_129 (x := x4) (v := (x4 + (1 : Int32))) rfl rfl (by decide) (pc' := 132) rfl (lv' := [some (.ref p0), some (.int x1), some (.int x2), some (.int x3), some (.int (x4 + (1 : Int32)))]) rfl ?_
    refine e_goto C (tg := 70) dX7_least_132 (by decide) ?_
    exact h)
  refine e_aload_n C (x := p0) rfl dX7_least_0 (pc' := 1) rfl ?_
  refine e_iconst C (v := (0 : Int32)) (by decide) dX7_least_1 (pc' := 2) rfl ?_
  refine f_putI C (ci := 7) (CN := RX7) (TT := TX7) (N := 36) 0 tyX7 dX7_least_2 (pc' := 5) rfl in_X7_least_X7 tyX7_ok nmX7 rfl (by decide) fl_X7_least_88 rfl (by decide +kernel) h (fun ws h => ?_)
  refine e_aload_n C (x := p0) rfl dX7_least_5 (pc' := 6) rfl ?_
  refine f_getR C (ci := 7) (CN := RX7) (TT := TX7) (N := 36) 35 dX7_least_6 (pc' := 9) rfl in_X7_least_X7 rfl (by decide) fl_X7_least_85 h (fun v1 h => ?_)
  refine e_iconst C (v := (0 : Int32)) (by decide) dX7_least_9 (pc' := 10) rfl ?_
  refine e_iconst C (v := (0 : Int32)) (by decide) dX7_least_10 (pc' := 11) rfl ?_
  refine f_iastore C dX7_least_11 (pc' := 12) rfl h (fun ws h => ?_)
  refine e_iconst C (v := (1 : Int32)) (by decide) dX7_least_12 (pc' := 13) rfl ?_
  refine e_istore_n C (by decide) dX7_least_13 (pc' := 14) rfl (lv' := [some (.ref p0), some (.int (1 : Int32)), none, none, none]) rfl ?_
  exact h
abbrev rm_X7_count : Room := { frames := 5, cells := 0, slots := 0, locals := 113 }
set_option maxRecDepth 20000 in
theorem in_X7_count_X7 : ∀ w ∈ wsX70, w ∈ wsX7_count := by decide +kernel
set_option maxRecDepth 20000 in
theorem fl_X7_count_88 : Cond.fieldLink RX7 88 (TX7 0).1 (TX7 0).2.1 (TX7 0).2.2.1 ∈ wsX7_count := by decide +kernel
set_option maxRecDepth 20000 in
theorem fl_X7_count_91 : Cond.fieldLink RX7 91 (TX7 10).1 (TX7 10).2.1 (TX7 10).2.2.1 ∈ wsX7_count := by decide +kernel
set_option maxRecDepth 20000 in
theorem fl_X7_count_129 : Cond.fieldLink RX7 129 (TX7 11).1 (TX7 11).2.1 (TX7 11).2.2.1 ∈ wsX7_count := by decide +kernel
set_option maxRecDepth 20000 in
theorem fl_X7_count_126 : Cond.fieldLink RX7 126 (TX7 3).1 (TX7 3).2.1 (TX7 3).2.2.1 ∈ wsX7_count := by decide +kernel
set_option maxRecDepth 20000 in
theorem fl_X7_count_159 : Cond.fieldLink RX7 159 (TX7 4).1 (TX7 4).2.1 (TX7 4).2.2.1 ∈ wsX7_count := by decide +kernel
set_option maxRecDepth 20000 in
theorem fl_X7_count_102 : Cond.fieldLink RX7 102 (TX7 17).1 (TX7 17).2.1 (TX7 17).2.2.1 ∈ wsX7_count := by decide +kernel
set_option maxRecDepth 20000 in
theorem fl_X7_count_233 : Cond.fieldLink RX7 233 (TX7 34).1 (TX7 34).2.1 (TX7 34).2.2.1 ∈ wsX7_count := by decide +kernel
set_option maxRecDepth 20000 in
theorem fl_X7_count_20 : Cond.fieldLink RX7 20 (TX7 6).1 (TX7 6).2.1 (TX7 6).2.2.1 ∈ wsX7_count := by decide +kernel
def F_X7_count (G : Gx) (p0 : Nat) (p1 : Int32) (ws : va_W) (Q : Int32 → va_W → Prop) : Prop := ∀ (J83 : Int32 → Int32 → va_W → Prop), ∀ (J122 : Int32 → Int32 → va_W → Prop), ∀ (J105 : Int32 → Int32 → Int32 → va_W → Prop), ∀ (J151 : Int32 → Int32 → Int32 → va_W → Prop), (∀ (x2 : Int32) (x3 : Int32) (ws : va_W), qI 7 17 p0 ws (fun v7 => ((v7 ≤ x3 → Q x2 ws) ∧ (¬ v7 ≤ x3 → (qV 7 p0 ws ∧ F_X7_isLet G p0 x3 ws (fun v8 ws => ((v8 = 0 → J105 x3 (0 : Int32) x2 ws) ∧ (¬ v8 = 0 → J105 x3 (1 : Int32) x2 ws))))))) → J83 x2 x3 ws) → (∀ (x2 : Int32) (x3 : Int32) (ws : va_W), qI 7 10 p0 ws (fun v9 => ((v9 ≤ x3 → Q x2 ws) ∧ (¬ v9 ≤ x3 → qR 7 6 p0 ws (fun v10 => qA (gc G 2) v10 x3 ws (fun v11 => ((v11 = 0 → J151 x3 (0 : Int32) x2 ws) ∧ (¬ v11 = 0 → (qV 7 p0 ws ∧ F_X7_flows G p0 x3 (8 : Int32) ws (fun v12 ws => J151 x3 v12 x2 ws))))))))) → J122 x2 x3 ws) → (∀ (x3 : Int32) (t0 : Int32) (t1 : Int32) (ws : va_W), J83 (t1 + t0) (x3 + (1 : Int32)) ws → J105 x3 t0 t1 ws) → (∀ (x3 : Int32) (t0 : Int32) (t1 : Int32) (ws : va_W), J122 (t1 + t0) (x3 + (1 : Int32)) ws → J151 x3 t0 t1 ws) → qP 7 0 p0 (.int (0 : Int32)) ws (fun ws => ((p1 = (0 : Int32) → qI 7 10 p0 ws (fun v1 => Q v1 ws)) ∧ (p1 = (1 : Int32) → qI 7 11 p0 ws (fun v2 => Q v2 ws)) ∧ (p1 = (2 : Int32) → qI 7 3 p0 ws (fun v3 => Q v3 ws)) ∧ (p1 = (3 : Int32) → qI 7 4 p0 ws (fun v4 => Q v4 ws)) ∧ (p1 = (4 : Int32) → qI 7 17 p0 ws (fun v5 => Q v5 ws)) ∧ (p1 = (5 : Int32) → J83 (0 : Int32) (0 : Int32) ws) ∧ (p1 = (6 : Int32) → qI 7 34 p0 ws (fun v6 => Q v6 ws)) ∧ (p1 = (7 : Int32) → J122 (0 : Int32) (0 : Int32) ws) ∧ ((p1.toInt < 0 ∨ (7 : Int) < p1.toInt) → Q (-1 : Int32) ws)))
set_option maxRecDepth 20000 in
set_option maxHeartbeats 4000000 in
theorem m_X7_count {G : Gx} (hst : (gl G).stackTraces = false) {p0 : Nat} {p1 : Int32} {ws : va_W} {Q : Int32 → va_W → Prop} (h : F_X7_count G p0 p1 ws Q) : Mt G yX7_count wsX7_count rm_X7_count [.ref p0, .int p1] ws (QtI G Q) := by
  refine mk_Mt (cc := cX7_count) (nL := 4) (own := RX7) (ret := (some .int)) (lv0 := [some (.ref p0), some (.int p1), none, none]) hst (by decide) rfl rfl (Nat.le_of_ble_eq_true rfl) rfl ?_
  intro K C F
  replace h := h (fun x2 x3 ws => Ev K G 4 0 0 83 [some (.ref p0), none, some (.int x2), some (.int x3)] [] ws) (fun x2 x3 ws => Ev K G 4 0 0 122 [some (.ref p0), none, some (.int x2), some (.int x3)] [] ws) (fun x3 t0 t1 ws => Ev K G 4 0 0 105 [some (.ref p0), none, none, some (.int x3)] [.int t0, .int t1] ws) (fun x3 t0 t1 ws => Ev K G 4 0 0 151 [some (.ref p0), none, none, some (.int x3)] [.int t0, .int t1] ws)
  replace h := h (by
    intro x2 x3 ws h
    show Ev K G 4 0 0 83 [some (.ref p0), none, some (.int x2), some (.int x3)] [] ws
    refine e_iload_n C (x := x3) rfl dX7_count_83 (pc' := 84) rfl ?_
    refine e_aload_n C (x := p0) rfl dX7_count_84 (pc' := 85) rfl ?_
    refine f_getI C (ci := 7) (CN := RX7) (TT := TX7) (N := 36) 17 dX7_count_85 (pc' := 88) rfl in_X7_count_X7 rfl (by decide) fl_X7_count_102 h (fun v7 h => ?_)
    refine e_icmp_ge C (tg := 113) dX7_count_88 (by decide) (pc' := 91) rfl (fun hc => ?_) (fun hc => ?_)
    · replace h := h.1 hc
      refine e_iload_n C (x := x2) rfl dX7_count_113 (pc' := 114) rfl ?_
      exact r_int C F dX7_count_114 (by decide) (by decide) h
    · replace h := h.2 hc
      refine e_iload_n C (x := x2) rfl dX7_count_91 (pc' := 92) rfl ?_
      refine e_aload_n C (x := p0) rfl dX7_count_92 (pc' := 93) rfl ?_
      refine e_iload_n C (x := x3) rfl dX7_count_93 (pc' := 94) rfl ?_
      obtain ⟨hv, h⟩ := h
      refine e_calli (run_V (n := 1) C (m_X7_isLet hst h) gX7_count_X7_isLet rfl ⟨rfl, by decide, by decide, by decide +kernel⟩ ⟨by decide, by decide⟩ (ci := 7) rfl rfl hv rfl (Nat.le_of_ble_eq_true rfl) dX7_count_94 ⟨by decide, by decide⟩ (As := [.int x3]) rfl) (pc' := 97) rfl (cn' := 0) (sn' := 0) rfl rfl (fun v8 ws h => ?_)
      refine e_if_eq C (tg := 104) dX7_count_97 (by decide) (pc' := 100) rfl (fun hc => ?_) (fun hc => ?_)
      · replace h := h.1 hc
        refine e_iconst C (v := (0 : Int32)) (by decide) dX7_count_104 (pc' := 105) rfl ?_
        refine e_mask [true, false, false, true] (lv' := [some (.ref p0), none, none, some (.int x3)]) rfl ?_
        exact h
      · replace h := h.2 hc
        refine e_iconst C (v := (1 : Int32)) (by decide) dX7_count_100 (pc' := 101) rfl ?_
        refine e_goto C (tg := 105) dX7_count_101 (by decide) ?_
        refine e_mask [true, false, false, true] (lv' := [some (.ref p0), none, none, some (.int x3)]) rfl ?_
        exact h)
  replace h := h (by
    intro x2 x3 ws h
    show Ev K G 4 0 0 122 [some (.ref p0), none, some (.int x2), some (.int x3)] [] ws
    refine e_iload_n C (x := x3) rfl dX7_count_122 (pc' := 123) rfl ?_
    refine e_aload_n C (x := p0) rfl dX7_count_123 (pc' := 124) rfl ?_
    refine f_getI C (ci := 7) (CN := RX7) (TT := TX7) (N := 36) 10 dX7_count_124 (pc' := 127) rfl in_X7_count_X7 rfl (by decide) fl_X7_count_91 h (fun v9 h => ?_)
    refine e_icmp_ge C (tg := 159) dX7_count_127 (by decide) (pc' := 130) rfl (fun hc => ?_) (fun hc => ?_)
    · replace h := h.1 hc
      refine e_iload_n C (x := x2) rfl dX7_count_159 (pc' := 160) rfl ?_
      exact r_int C F dX7_count_160 (by decide) (by decide) h
    · replace h := h.2 hc
      refine e_iload_n C (x := x2) rfl dX7_count_130 (pc' := 131) rfl ?_
      refine e_aload_n C (x := p0) rfl dX7_count_131 (pc' := 132) rfl ?_
      refine f_getR C (ci := 7) (CN := RX7) (TT := TX7) (N := 36) 6 dX7_count_132 (pc' := 135) rfl in_X7_count_X7 rfl (by decide) fl_X7_count_20 h (fun v10 h => ?_)
      refine e_iload_n C (x := x3) rfl dX7_count_135 (pc' := 136) rfl ?_
      refine f_zaload C dX7_count_136 (pc' := 137) rfl h (fun v11 h => ?_)
      refine e_if_eq C (tg := 150) dX7_count_137 (by decide) (pc' := 140) rfl (fun hc => ?_) (fun hc => ?_)
      · replace h := h.1 hc
        refine e_iconst C (v := (0 : Int32)) (by decide) dX7_count_150 (pc' := 151) rfl ?_
        refine e_mask [true, false, false, true] (lv' := [some (.ref p0), none, none, some (.int x3)]) rfl ?_
        exact h
      · replace h := h.2 hc
        refine e_aload_n C (x := p0) rfl dX7_count_140 (pc' := 141) rfl ?_
        refine e_iload_n C (x := x3) rfl dX7_count_141 (pc' := 142) rfl ?_
        refine e_bipush C (v := (8 : Int32)) (by decide) dX7_count_142 (pc' := 144) rfl ?_
        obtain ⟨hv, h⟩ := h
        refine e_calli (run_V (n := 2) C (m_X7_flows hst h) gX7_count_X7_flows rfl ⟨rfl, by decide, by decide, by decide +kernel⟩ ⟨by decide, by decide⟩ (ci := 7) rfl rfl hv rfl (Nat.le_of_ble_eq_true rfl) dX7_count_144 ⟨by decide, by decide⟩ (As := [.int x3, .int (8 : Int32)]) rfl) (pc' := 147) rfl (cn' := 0) (sn' := 0) rfl rfl (fun v12 ws h => ?_)
        refine e_goto C (tg := 151) dX7_count_147 (by decide) ?_
        refine e_mask [true, false, false, true] (lv' := [some (.ref p0), none, none, some (.int x3)]) rfl ?_
        exact h)
  replace h := h (by
    intro x3 t0 t1 ws h
    show Ev K G 4 0 0 105 [some (.ref p0), none, none, some (.int x3)] [.int t0, .int t1] ws
    refine e_iadd C dX7_count_105 (pc' := 106) rfl ?_
    refine e_istore_n C (by decide) dX7_count_106 (pc' := 107) rfl (lv' := [some (.ref p0), none, some (.int (t1 + t0)), some (.int x3)]) rfl ?_
    refine e_iinc C dX7_count_107 (x := x3) (v := (x3 + (1 : Int32))) rfl rfl (by decide) (pc' := 110) rfl (lv' := [some (.ref p0), none, some (.int (t1 + t0)), some (.int (x3 + (1 : Int32)))]) rfl ?_
    refine e_goto C (tg := 83) dX7_count_110 (by decide) ?_
    exact h)
  replace h := h (by
    intro x3 t0 t1 ws h
    show Ev K G 4 0 0 151 [some (.ref p0), none, none, some (.int x3)] [.int t0, .int t1] ws
    refine e_iadd C dX7_count_151 (pc' := 152) rfl ?_
    refine e_istore_n C (by decide) dX7_count_152 (pc' := 153) rfl (lv' := [some (.ref p0), none, some (.int (t1 + t0)), some (.int x3)]) rfl ?_
    refine e_iinc C dX7_count_153 (x := x3) (v := (x3 + (1 : Int32))) rfl rfl (by decide) (pc' := 156) rfl (lv' := [some (.ref p0), none, some (.int (t1 + t0)), some (.int (x3 + (1 : Int32)))]) rfl ?_
    refine e_goto C (tg := 122) dX7_count_156 (by decide) ?_
    exact h)
  refine e_aload_n C (x := p0) rfl dX7_count_0 (pc' := 1) rfl ?_
  refine e_iconst C (v := (0 : Int32)) (by decide) dX7_count_1 (pc' := 2) rfl ?_
  refine f_putI C (ci := 7) (CN := RX7) (TT := TX7) (N := 36) 0 tyX7 dX7_count_2 (pc' := 5) rfl in_X7_count_X7 tyX7_ok nmX7 rfl (by decide) fl_X7_count_88 rfl (by decide +kernel) h (fun ws h => ?_)
  refine e_iconst C (v := (0 : Int32)) (by decide) dX7_count_5 (pc' := 6) rfl ?_
  refine e_istore_n C (by decide) dX7_count_6 (pc' := 7) rfl (lv' := [some (.ref p0), some (.int p1), some (.int (0 : Int32)), none]) rfl ?_
  refine e_iload_n C (x := p1) rfl dX7_count_7 (pc' := 8) rfl ?_
  obtain ⟨h0, h1, h2, h3, h4, h5, h6, h7, hd⟩ := h
  rcases sw_cases (p1) 7 with hc | hc
  · replace h := hd hc
    refine e_tabOut C (tg := 161) dX7_count_8 hc (by decide) ?_
    refine e_iconst C (v := (-1 : Int32)) (by decide) dX7_count_161 (pc' := 162) rfl ?_
    exact r_int C F dX7_count_162 (by decide) (by decide) h
  · obtain ⟨q9, hq9, hc⟩ := hc
    rcases (show q9 = 0 ∨ q9 = 1 ∨ q9 = 2 ∨ q9 = 3 ∨ q9 = 4 ∨ q9 = 5 ∨ q9 = 6 ∨ q9 = 7 by omega) with rfl | rfl | rfl | rfl | rfl | rfl | rfl | rfl
    · replace h := h0 hc
      refine e_tabIn C (tg := 56) dX7_count_8 (by rw [hc]; decide) (by rw [hc]; decide) (by rw [hc]; rfl) (by decide) ?_
      refine e_aload_n C (x := p0) rfl dX7_count_56 (pc' := 57) rfl ?_
      refine f_getI C (ci := 7) (CN := RX7) (TT := TX7) (N := 36) 10 dX7_count_57 (pc' := 60) rfl in_X7_count_X7 rfl (by decide) fl_X7_count_91 h (fun v1 h => ?_)
      exact r_int C F dX7_count_60 (by decide) (by decide) h
    · replace h := h1 hc
      refine e_tabIn C (tg := 61) dX7_count_8 (by rw [hc]; decide) (by rw [hc]; decide) (by rw [hc]; rfl) (by decide) ?_
      refine e_aload_n C (x := p0) rfl dX7_count_61 (pc' := 62) rfl ?_
      refine f_getI C (ci := 7) (CN := RX7) (TT := TX7) (N := 36) 11 dX7_count_62 (pc' := 65) rfl in_X7_count_X7 rfl (by decide) fl_X7_count_129 h (fun v2 h => ?_)
      exact r_int C F dX7_count_65 (by decide) (by decide) h
    · replace h := h2 hc
      refine e_tabIn C (tg := 66) dX7_count_8 (by rw [hc]; decide) (by rw [hc]; decide) (by rw [hc]; rfl) (by decide) ?_
      refine e_aload_n C (x := p0) rfl dX7_count_66 (pc' := 67) rfl ?_
      refine f_getI C (ci := 7) (CN := RX7) (TT := TX7) (N := 36) 3 dX7_count_67 (pc' := 70) rfl in_X7_count_X7 rfl (by decide) fl_X7_count_126 h (fun v3 h => ?_)
      exact r_int C F dX7_count_70 (by decide) (by decide) h
    · replace h := h3 hc
      refine e_tabIn C (tg := 71) dX7_count_8 (by rw [hc]; decide) (by rw [hc]; decide) (by rw [hc]; rfl) (by decide) ?_
      refine e_aload_n C (x := p0) rfl dX7_count_71 (pc' := 72) rfl ?_
      refine f_getI C (ci := 7) (CN := RX7) (TT := TX7) (N := 36) 4 dX7_count_72 (pc' := 75) rfl in_X7_count_X7 rfl (by decide) fl_X7_count_159 h (fun v4 h => ?_)
      exact r_int C F dX7_count_75 (by decide) (by decide) h
    · replace h := h4 hc
      refine e_tabIn C (tg := 76) dX7_count_8 (by rw [hc]; decide) (by rw [hc]; decide) (by rw [hc]; rfl) (by decide) ?_
      refine e_aload_n C (x := p0) rfl dX7_count_76 (pc' := 77) rfl ?_
      refine f_getI C (ci := 7) (CN := RX7) (TT := TX7) (N := 36) 17 dX7_count_77 (pc' := 80) rfl in_X7_count_X7 rfl (by decide) fl_X7_count_102 h (fun v5 h => ?_)
      exact r_int C F dX7_count_80 (by decide) (by decide) h
    · replace h := h5 hc
      refine e_tabIn C (tg := 81) dX7_count_8 (by rw [hc]; decide) (by rw [hc]; decide) (by rw [hc]; rfl) (by decide) ?_
      refine e_iconst C (v := (0 : Int32)) (by decide) dX7_count_81 (pc' := 82) rfl ?_
      refine e_istore_n C (by decide) dX7_count_82 (pc' := 83) rfl (lv' := [some (.ref p0), some (.int p1), some (.int (0 : Int32)), some (.int (0 : Int32))]) rfl ?_
      refine e_mask [true, false, true, true] (lv' := [some (.ref p0), none, some (.int (0 : Int32)), some (.int (0 : Int32))]) rfl ?_
      exact h
    · replace h := h6 hc
      refine e_tabIn C (tg := 115) dX7_count_8 (by rw [hc]; decide) (by rw [hc]; decide) (by rw [hc]; rfl) (by decide) ?_
      refine e_aload_n C (x := p0) rfl dX7_count_115 (pc' := 116) rfl ?_
      refine f_getI C (ci := 7) (CN := RX7) (TT := TX7) (N := 36) 34 dX7_count_116 (pc' := 119) rfl in_X7_count_X7 rfl (by decide) fl_X7_count_233 h (fun v6 h => ?_)
      exact r_int C F dX7_count_119 (by decide) (by decide) h
    · replace h := h7 hc
      refine e_tabIn C (tg := 120) dX7_count_8 (by rw [hc]; decide) (by rw [hc]; decide) (by rw [hc]; rfl) (by decide) ?_
      refine e_iconst C (v := (0 : Int32)) (by decide) dX7_count_120 (pc' := 121) rfl ?_
      refine e_istore_n C (by decide) dX7_count_121 (pc' := 122) rfl (lv' := [some (.ref p0), some (.int p1), some (.int (0 : Int32)), some (.int (0 : Int32))]) rfl ?_
      refine e_mask [true, false, true, true] (lv' := [some (.ref p0), none, some (.int (0 : Int32)), some (.int (0 : Int32))]) rfl ?_
      exact h
abbrev rm_L_ground : Room := { frames := 7, cells := 1, slots := 6, locals := 104 }
set_option maxRecDepth 20000 in
theorem w_L_ground_k13 : Cond.classLink RL 13 "java/lang/IllegalArgumentException" ∈ wsL_ground := by decide +kernel
def F_L_ground (G : Gx) (p0 : Nat) (p1 : Int32) (p2 : Int32) (ws : va_W) (Q : Int32 → va_W → Prop) : Prop := (qV 6 p0 ws ∧ F_X6_ground G p0 p1 p2 ws (fun ws => Q (0 : Int32) ws) (fun E ws => (E = "java/lang/IllegalArgumentException" ∧ Q (1 : Int32) ws)))
set_option maxRecDepth 20000 in
set_option maxHeartbeats 4000000 in
theorem m_L_ground {G : Gx} (hst : (gl G).stackTraces = false) {p0 : Nat} {p1 : Int32} {p2 : Int32} {ws : va_W} {Q : Int32 → va_W → Prop} (h : F_L_ground G p0 p1 p2 ws Q) : Mt G yL_ground wsL_ground rm_L_ground [.ref p0, .int p1, .int p2] ws (QtI G Q) := by
  refine mk_Mw (cc := cL_ground) (nL := 4) (own := RL) (ret := (some .int)) (lv0 := [some (.ref p0), some (.int p1), some (.int p2), none]) hst (by decide) rfl rfl (Nat.le_of_ble_eq_true rfl) rfl ?_
  intro K C F hT
  refine e_aload_n C (x := p0) rfl dL_ground_0 (pc' := 1) rfl ?_
  refine e_iload_n C (x := p1) rfl dL_ground_1 (pc' := 2) rfl ?_
  refine e_iload_n C (x := p2) rfl dL_ground_2 (pc' := 3) rfl ?_
  obtain ⟨hv, h⟩ := h
  refine e_xcallv (run_XV (n := 2) C (m_X6_ground hst h) gL_ground_X6_ground rfl ⟨rfl, by decide, by decide, by decide +kernel⟩ ⟨by decide, by decide⟩ (ci := 6) rfl rfl hv rfl (Nat.le_of_ble_eq_true rfl) dL_ground_3 ⟨by decide, by decide⟩ (As := [.int p1, .int p2]) rfl) (pc' := 6) rfl (cn' := 1) (sn' := 6) rfl rfl (fun E ws h => ?_) (fun ws h => ?_)
  · obtain ⟨rfl, h⟩ := h
    refine e_catch C hT [] ⟨0, 6, 9, 13⟩ [] rfl (by decide) (by decide +kernel) (by decide) (by decide) w_L_ground_k13 (fun q2 => ?_)
    refine e_astore_n C (by decide) dL_ground_9 (pc' := 10) rfl (lv' := [some (.ref p0), some (.int p1), some (.int p2), some (.ref q2)]) rfl ?_
    refine e_iconst C (v := (1 : Int32)) (by decide) dL_ground_10 (pc' := 11) rfl ?_
    exact r_int C F dL_ground_11 (by decide) (by decide) h
  refine e_goto C (tg := 12) dL_ground_6 (by decide) ?_
  refine e_iconst C (v := (0 : Int32)) (by decide) dL_ground_12 (pc' := 13) rfl ?_
  exact r_int C F dL_ground_13 (by decide) (by decide) h
abbrev rm_L_channel : Room := { frames := 7, cells := 1, slots := 6, locals := 102 }
set_option maxRecDepth 20000 in
theorem w_L_channel_k19 : Cond.classLink RL 19 "java/lang/UnsupportedOperationException" ∈ wsL_channel := by decide +kernel
def F_L_channel (G : Gx) (p0 : Nat) (p1 : Nat) (ws : va_W) (Q : Int32 → va_W → Prop) : Prop := (qV 6 p0 ws ∧ F_X6_channel G p0 ws (fun v1 ws => qLs (gc G 5) p1 (0 : Int32) (v1.toInt64) ws (fun ws => Q (0 : Int32) ws)) (fun E ws => (E = "java/lang/UnsupportedOperationException" ∧ Q (1 : Int32) ws)))
set_option maxRecDepth 20000 in
set_option maxHeartbeats 4000000 in
theorem m_L_channel {G : Gx} (hst : (gl G).stackTraces = false) {p0 : Nat} {p1 : Nat} {ws : va_W} {Q : Int32 → va_W → Prop} (h : F_L_channel G p0 p1 ws Q) : Mt G yL_channel wsL_channel rm_L_channel [.ref p0, .ref p1] ws (QtI G Q) := by
  refine mk_Mw (cc := cL_channel) (nL := 3) (own := RL) (ret := (some .int)) (lv0 := [some (.ref p0), some (.ref p1), none]) hst (by decide) rfl rfl (Nat.le_of_ble_eq_true rfl) rfl ?_
  intro K C F hT
  refine e_aload_n C (x := p1) rfl dL_channel_0 (pc' := 1) rfl ?_
  refine e_iconst C (v := (0 : Int32)) (by decide) dL_channel_1 (pc' := 2) rfl ?_
  refine e_aload_n C (x := p0) rfl dL_channel_2 (pc' := 3) rfl ?_
  obtain ⟨hv, h⟩ := h
  refine e_xcalli (run_XV (n := 0) C (m_X6_channel hst h) gL_channel_X6_channel rfl ⟨rfl, by decide, by decide, by decide +kernel⟩ ⟨by decide, by decide⟩ (ci := 6) rfl rfl hv rfl (Nat.le_of_ble_eq_true rfl) dL_channel_3 ⟨by decide, by decide⟩ (As := []) rfl) (pc' := 6) rfl (cn' := 1) (sn' := 6) rfl rfl (fun E ws h => ?_) (fun v1 ws h => ?_)
  · obtain ⟨rfl, h⟩ := h
    refine e_catch C hT [] ⟨0, 8, 11, 19⟩ [] rfl (by decide) (by decide +kernel) (by decide) (by decide) w_L_channel_k19 (fun q2 => ?_)
    refine e_astore_n C (by decide) dL_channel_11 (pc' := 12) rfl (lv' := [some (.ref p0), some (.ref p1), some (.ref q2)]) rfl ?_
    refine e_iconst C (v := (1 : Int32)) (by decide) dL_channel_12 (pc' := 13) rfl ?_
    exact r_int C F dL_channel_13 (by decide) (by decide) h
  refine e_i2l C dL_channel_6 (pc' := 7) rfl ?_
  refine f_lastore C dL_channel_7 (pc' := 8) rfl h (fun ws h => ?_)
  refine e_goto C (tg := 14) dL_channel_8 (by decide) ?_
  refine e_iconst C (v := (0 : Int32)) (by decide) dL_channel_14 (pc' := 15) rfl ?_
  exact r_int C F dL_channel_15 (by decide) (by decide) h
abbrev rm_L_well : Room := { frames := 9, cells := 3, slots := 18, locals := 150 }
set_option maxRecDepth 20000 in
theorem w_L_well_k25 : Cond.classLink RL 25 "java/lang/IndexOutOfBoundsException" ∈ wsL_well := by decide +kernel
set_option maxRecDepth 20000 in
theorem w_L_well_k27 : Cond.classLink RL 27 "java/lang/IllegalStateException" ∈ wsL_well := by decide +kernel
set_option maxRecDepth 20000 in
theorem w_L_well_k13 : Cond.classLink RL 13 "java/lang/IllegalArgumentException" ∈ wsL_well := by decide +kernel
set_option maxRecDepth 20000 in
theorem w_L_well_k19 : Cond.classLink RL 19 "java/lang/UnsupportedOperationException" ∈ wsL_well := by decide +kernel
def F_L_well (G : Gx) (p0 : Nat) (p1 : Int32) (p2 : Int32) (p3 : Int32) (p4 : Int32) (p5 : Nat) (ws : va_W) (Q : Int32 → va_W → Prop) : Prop := (qV 6 p0 ws ∧ F_X6_well G p0 p1 p2 p3 p4 ws (fun v1 ws => qLs (gc G 5) p5 (0 : Int32) (v1.toInt64) ws (fun ws => Q (0 : Int32) ws)) (fun E ws => (E = "java/lang/IndexOutOfBoundsException" ∧ Q (1 : Int32) ws) ∨ (E = "java/lang/IllegalStateException" ∧ Q (2 : Int32) ws) ∨ (E = "java/lang/IllegalArgumentException" ∧ Q (3 : Int32) ws) ∨ (E = "java/lang/UnsupportedOperationException" ∧ Q (4 : Int32) ws)))
set_option maxRecDepth 20000 in
set_option maxHeartbeats 4000000 in
theorem m_L_well {G : Gx} (hst : (gl G).stackTraces = false) {p0 : Nat} {p1 : Int32} {p2 : Int32} {p3 : Int32} {p4 : Int32} {p5 : Nat} {ws : va_W} {Q : Int32 → va_W → Prop} (h : F_L_well G p0 p1 p2 p3 p4 p5 ws Q) : Mt G yL_well wsL_well rm_L_well [.ref p0, .int p1, .int p2, .int p3, .int p4, .ref p5] ws (QtI G Q) := by
  refine mk_Mw (cc := cL_well) (nL := 7) (own := RL) (ret := (some .int)) (lv0 := [some (.ref p0), some (.int p1), some (.int p2), some (.int p3), some (.int p4), some (.ref p5), none]) hst (by decide) rfl rfl (Nat.le_of_ble_eq_true rfl) rfl ?_
  intro K C F hT
  refine e_aload C (x := p5) rfl dL_well_0 (pc' := 2) rfl ?_
  refine e_iconst C (v := (0 : Int32)) (by decide) dL_well_2 (pc' := 3) rfl ?_
  refine e_aload_n C (x := p0) rfl dL_well_3 (pc' := 4) rfl ?_
  refine e_iload_n C (x := p1) rfl dL_well_4 (pc' := 5) rfl ?_
  refine e_iload_n C (x := p2) rfl dL_well_5 (pc' := 6) rfl ?_
  refine e_iload_n C (x := p3) rfl dL_well_6 (pc' := 7) rfl ?_
  refine e_iload C (x := p4) rfl dL_well_7 (pc' := 9) rfl ?_
  obtain ⟨hv, h⟩ := h
  refine e_xcalli (run_XV (n := 4) C (m_X6_well hst h) gL_well_X6_well rfl ⟨rfl, by decide, by decide, by decide +kernel⟩ ⟨by decide, by decide⟩ (ci := 6) rfl rfl hv rfl (Nat.le_of_ble_eq_true rfl) dL_well_9 ⟨by decide, by decide⟩ (As := [.int p1, .int p2, .int p3, .int p4]) rfl) (pc' := 12) rfl (cn' := 3) (sn' := 18) rfl rfl (fun E ws h => ?_) (fun v1 ws h => ?_)
  · rcases h with ⟨rfl, h⟩ | ⟨rfl, h⟩ | ⟨rfl, h⟩ | ⟨rfl, h⟩
    · refine e_catch C hT [] ⟨0, 14, 17, 25⟩ [⟨0, 14, 21, 27⟩, ⟨0, 14, 25, 13⟩, ⟨0, 14, 29, 19⟩] rfl (by decide) (by decide +kernel) (by decide) (by decide) w_L_well_k25 (fun q2 => ?_)
      refine e_astore C (by decide) dL_well_17 (pc' := 19) rfl (lv' := [some (.ref p0), some (.int p1), some (.int p2), some (.int p3), some (.int p4), some (.ref p5), some (.ref q2)]) rfl ?_
      refine e_iconst C (v := (1 : Int32)) (by decide) dL_well_19 (pc' := 20) rfl ?_
      exact r_int C F dL_well_20 (by decide) (by decide) h
    · refine e_catch C hT [⟨0, 14, 17, 25⟩] ⟨0, 14, 21, 27⟩ [⟨0, 14, 25, 13⟩, ⟨0, 14, 29, 19⟩] rfl (by decide) (by decide +kernel) (by decide) (by decide) w_L_well_k27 (fun q3 => ?_)
      refine e_astore C (by decide) dL_well_21 (pc' := 23) rfl (lv' := [some (.ref p0), some (.int p1), some (.int p2), some (.int p3), some (.int p4), some (.ref p5), some (.ref q3)]) rfl ?_
      refine e_iconst C (v := (2 : Int32)) (by decide) dL_well_23 (pc' := 24) rfl ?_
      exact r_int C F dL_well_24 (by decide) (by decide) h
    · refine e_catch C hT [⟨0, 14, 17, 25⟩, ⟨0, 14, 21, 27⟩] ⟨0, 14, 25, 13⟩ [⟨0, 14, 29, 19⟩] rfl (by decide) (by decide +kernel) (by decide) (by decide) w_L_well_k13 (fun q4 => ?_)
      refine e_astore C (by decide) dL_well_25 (pc' := 27) rfl (lv' := [some (.ref p0), some (.int p1), some (.int p2), some (.int p3), some (.int p4), some (.ref p5), some (.ref q4)]) rfl ?_
      refine e_iconst C (v := (3 : Int32)) (by decide) dL_well_27 (pc' := 28) rfl ?_
      exact r_int C F dL_well_28 (by decide) (by decide) h
    · refine e_catch C hT [⟨0, 14, 17, 25⟩, ⟨0, 14, 21, 27⟩, ⟨0, 14, 25, 13⟩] ⟨0, 14, 29, 19⟩ [] rfl (by decide) (by decide +kernel) (by decide) (by decide) w_L_well_k19 (fun q5 => ?_)
      refine e_astore C (by decide) dL_well_29 (pc' := 31) rfl (lv' := [some (.ref p0), some (.int p1), some (.int p2), some (.int p3), some (.int p4), some (.ref p5), some (.ref q5)]) rfl ?_
      refine e_iconst C (v := (4 : Int32)) (by decide) dL_well_31 (pc' := 32) rfl ?_
      exact r_int C F dL_well_32 (by decide) (by decide) h
  refine e_i2l C dL_well_12 (pc' := 13) rfl ?_
  refine f_lastore C dL_well_13 (pc' := 14) rfl h (fun ws h => ?_)
  refine e_goto C (tg := 33) dL_well_14 (by decide) ?_
  refine e_iconst C (v := (0 : Int32)) (by decide) dL_well_33 (pc' := 34) rfl ?_
  exact r_int C F dL_well_34 (by decide) (by decide) h
abbrev rm_L_may : Room := { frames := 9, cells := 2, slots := 12, locals := 146 }
set_option maxRecDepth 20000 in
theorem w_L_may_k25 : Cond.classLink RL 25 "java/lang/IndexOutOfBoundsException" ∈ wsL_may := by decide +kernel
set_option maxRecDepth 20000 in
theorem w_L_may_k27 : Cond.classLink RL 27 "java/lang/IllegalStateException" ∈ wsL_may := by decide +kernel
def F_L_may (G : Gx) (p0 : Nat) (p1 : Int32) (p2 : Nat) (ws : va_W) (Q : Int32 → va_W → Prop) : Prop := ∀ (J15 : Int64 → Int32 → Nat → va_W → Prop), (∀ (t0 : Int64) (t1 : Int32) (t2 : Nat) (ws : va_W), qLs (gc G 5) t2 t1 t0 ws (fun ws => Q (0 : Int32) ws) → J15 t0 t1 t2 ws) → (qV 6 p0 ws ∧ F_X6_may G p0 p1 ws (fun v1 ws => ((v1 = 0 → J15 (0 : Int64) (0 : Int32) p2 ws) ∧ (¬ v1 = 0 → J15 (1 : Int64) (0 : Int32) p2 ws))) (fun E ws => (E = "java/lang/IndexOutOfBoundsException" ∧ Q (1 : Int32) ws) ∨ (E = "java/lang/IllegalStateException" ∧ Q (2 : Int32) ws)))
set_option maxRecDepth 20000 in
set_option maxHeartbeats 4000000 in
theorem m_L_may {G : Gx} (hst : (gl G).stackTraces = false) {p0 : Nat} {p1 : Int32} {p2 : Nat} {ws : va_W} {Q : Int32 → va_W → Prop} (h : F_L_may G p0 p1 p2 ws Q) : Mt G yL_may wsL_may rm_L_may [.ref p0, .int p1, .ref p2] ws (QtI G Q) := by
  refine mk_Mw (cc := cL_may) (nL := 4) (own := RL) (ret := (some .int)) (lv0 := [some (.ref p0), some (.int p1), some (.ref p2), none]) hst (by decide) rfl rfl (Nat.le_of_ble_eq_true rfl) rfl ?_
  intro K C F hT
  replace h := h (fun t0 t1 t2 ws => Ev K G 4 2 12 15 [none, none, none, none] [.long t0, .int t1, .ref t2] ws)
  replace h := h (by
    intro t0 t1 t2 ws h
    show Ev K G 4 2 12 15 [none, none, none, none] [.long t0, .int t1, .ref t2] ws
    refine f_lastore C dL_may_15 (pc' := 16) rfl h (fun ws h => ?_)
    refine e_goto C (tg := 25) dL_may_16 (by decide) ?_
    refine e_iconst C (v := (0 : Int32)) (by decide) dL_may_25 (pc' := 26) rfl ?_
    exact r_int C F dL_may_26 (by decide) (by decide) h)
  refine e_aload_n C (x := p2) rfl dL_may_0 (pc' := 1) rfl ?_
  refine e_iconst C (v := (0 : Int32)) (by decide) dL_may_1 (pc' := 2) rfl ?_
  refine e_aload_n C (x := p0) rfl dL_may_2 (pc' := 3) rfl ?_
  refine e_iload_n C (x := p1) rfl dL_may_3 (pc' := 4) rfl ?_
  obtain ⟨hv, h⟩ := h
  refine e_xcalli (run_XV (n := 1) C (m_X6_may hst h) gL_may_X6_may rfl ⟨rfl, by decide, by decide, by decide +kernel⟩ ⟨by decide, by decide⟩ (ci := 6) rfl rfl hv rfl (Nat.le_of_ble_eq_true rfl) dL_may_4 ⟨by decide, by decide⟩ (As := [.int p1]) rfl) (pc' := 7) rfl (cn' := 2) (sn' := 12) rfl rfl (fun E ws h => ?_) (fun v1 ws h => ?_)
  · rcases h with ⟨rfl, h⟩ | ⟨rfl, h⟩
    · refine e_catch C hT [] ⟨0, 16, 19, 25⟩ [⟨0, 16, 22, 27⟩] rfl (by decide) (by decide +kernel) (by decide) (by decide) w_L_may_k25 (fun q2 => ?_)
      refine e_astore_n C (by decide) dL_may_19 (pc' := 20) rfl (lv' := [some (.ref p0), some (.int p1), some (.ref p2), some (.ref q2)]) rfl ?_
      refine e_iconst C (v := (1 : Int32)) (by decide) dL_may_20 (pc' := 21) rfl ?_
      exact r_int C F dL_may_21 (by decide) (by decide) h
    · refine e_catch C hT [⟨0, 16, 19, 25⟩] ⟨0, 16, 22, 27⟩ [] rfl (by decide) (by decide +kernel) (by decide) (by decide) w_L_may_k27 (fun q3 => ?_)
      refine e_astore_n C (by decide) dL_may_22 (pc' := 23) rfl (lv' := [some (.ref p0), some (.int p1), some (.ref p2), some (.ref q3)]) rfl ?_
      refine e_iconst C (v := (2 : Int32)) (by decide) dL_may_23 (pc' := 24) rfl ?_
      exact r_int C F dL_may_24 (by decide) (by decide) h
  refine e_if_eq C (tg := 14) dL_may_7 (by decide) (pc' := 10) rfl (fun hc => ?_) (fun hc => ?_)
  · replace h := h.1 hc
    refine e_lconst C (v := (0 : Int64)) (by decide) dL_may_14 (pc' := 15) rfl ?_
    refine e_mask [false, false, false, false] (lv' := [none, none, none, none]) rfl ?_
    exact h
  · replace h := h.2 hc
    refine e_lconst C (v := (1 : Int64)) (by decide) dL_may_10 (pc' := 11) rfl ?_
    refine e_goto C (tg := 15) dL_may_11 (by decide) ?_
    refine e_mask [false, false, false, false] (lv' := [none, none, none, none]) rfl ?_
    exact h
abbrev rm_L_dig : Room := { frames := 9, cells := 3, slots := 18, locals := 149 }
set_option maxRecDepth 20000 in
theorem w_L_dig_k25 : Cond.classLink RL 25 "java/lang/IndexOutOfBoundsException" ∈ wsL_dig := by decide +kernel
set_option maxRecDepth 20000 in
theorem w_L_dig_k27 : Cond.classLink RL 27 "java/lang/IllegalStateException" ∈ wsL_dig := by decide +kernel
set_option maxRecDepth 20000 in
theorem w_L_dig_k13 : Cond.classLink RL 13 "java/lang/IllegalArgumentException" ∈ wsL_dig := by decide +kernel
def F_L_dig (G : Gx) (p0 : Nat) (p1 : Int32) (p2 : Int32) (p3 : Int32) (p4 : Nat) (ws : va_W) (Q : Int32 → va_W → Prop) : Prop := (qV 6 p0 ws ∧ F_X6_dig G p0 p1 p2 p3 ws (fun v1 ws => qLs (gc G 5) p4 (0 : Int32) (v1.toInt64) ws (fun ws => Q (0 : Int32) ws)) (fun E ws => (E = "java/lang/IndexOutOfBoundsException" ∧ Q (1 : Int32) ws) ∨ (E = "java/lang/IllegalStateException" ∧ Q (2 : Int32) ws) ∨ (E = "java/lang/IllegalArgumentException" ∧ Q (3 : Int32) ws)))
set_option maxRecDepth 20000 in
set_option maxHeartbeats 4000000 in
theorem m_L_dig {G : Gx} (hst : (gl G).stackTraces = false) {p0 : Nat} {p1 : Int32} {p2 : Int32} {p3 : Int32} {p4 : Nat} {ws : va_W} {Q : Int32 → va_W → Prop} (h : F_L_dig G p0 p1 p2 p3 p4 ws Q) : Mt G yL_dig wsL_dig rm_L_dig [.ref p0, .int p1, .int p2, .int p3, .ref p4] ws (QtI G Q) := by
  refine mk_Mw (cc := cL_dig) (nL := 6) (own := RL) (ret := (some .int)) (lv0 := [some (.ref p0), some (.int p1), some (.int p2), some (.int p3), some (.ref p4), none]) hst (by decide) rfl rfl (Nat.le_of_ble_eq_true rfl) rfl ?_
  intro K C F hT
  refine e_aload C (x := p4) rfl dL_dig_0 (pc' := 2) rfl ?_
  refine e_iconst C (v := (0 : Int32)) (by decide) dL_dig_2 (pc' := 3) rfl ?_
  refine e_aload_n C (x := p0) rfl dL_dig_3 (pc' := 4) rfl ?_
  refine e_iload_n C (x := p1) rfl dL_dig_4 (pc' := 5) rfl ?_
  refine e_iload_n C (x := p2) rfl dL_dig_5 (pc' := 6) rfl ?_
  refine e_iload_n C (x := p3) rfl dL_dig_6 (pc' := 7) rfl ?_
  obtain ⟨hv, h⟩ := h
  refine e_xcalli (run_XV (n := 3) C (m_X6_dig hst h) gL_dig_X6_dig rfl ⟨rfl, by decide, by decide, by decide +kernel⟩ ⟨by decide, by decide⟩ (ci := 6) rfl rfl hv rfl (Nat.le_of_ble_eq_true rfl) dL_dig_7 ⟨by decide, by decide⟩ (As := [.int p1, .int p2, .int p3]) rfl) (pc' := 10) rfl (cn' := 3) (sn' := 18) rfl rfl (fun E ws h => ?_) (fun v1 ws h => ?_)
  · rcases h with ⟨rfl, h⟩ | ⟨rfl, h⟩ | ⟨rfl, h⟩
    · refine e_catch C hT [] ⟨0, 12, 15, 25⟩ [⟨0, 12, 19, 27⟩, ⟨0, 12, 23, 13⟩] rfl (by decide) (by decide +kernel) (by decide) (by decide) w_L_dig_k25 (fun q2 => ?_)
      refine e_astore C (by decide) dL_dig_15 (pc' := 17) rfl (lv' := [some (.ref p0), some (.int p1), some (.int p2), some (.int p3), some (.ref p4), some (.ref q2)]) rfl ?_
      refine e_iconst C (v := (1 : Int32)) (by decide) dL_dig_17 (pc' := 18) rfl ?_
      exact r_int C F dL_dig_18 (by decide) (by decide) h
    · refine e_catch C hT [⟨0, 12, 15, 25⟩] ⟨0, 12, 19, 27⟩ [⟨0, 12, 23, 13⟩] rfl (by decide) (by decide +kernel) (by decide) (by decide) w_L_dig_k27 (fun q3 => ?_)
      refine e_astore C (by decide) dL_dig_19 (pc' := 21) rfl (lv' := [some (.ref p0), some (.int p1), some (.int p2), some (.int p3), some (.ref p4), some (.ref q3)]) rfl ?_
      refine e_iconst C (v := (2 : Int32)) (by decide) dL_dig_21 (pc' := 22) rfl ?_
      exact r_int C F dL_dig_22 (by decide) (by decide) h
    · refine e_catch C hT [⟨0, 12, 15, 25⟩, ⟨0, 12, 19, 27⟩] ⟨0, 12, 23, 13⟩ [] rfl (by decide) (by decide +kernel) (by decide) (by decide) w_L_dig_k13 (fun q4 => ?_)
      refine e_astore C (by decide) dL_dig_23 (pc' := 25) rfl (lv' := [some (.ref p0), some (.int p1), some (.int p2), some (.int p3), some (.ref p4), some (.ref q4)]) rfl ?_
      refine e_iconst C (v := (3 : Int32)) (by decide) dL_dig_25 (pc' := 26) rfl ?_
      exact r_int C F dL_dig_26 (by decide) (by decide) h
  refine e_i2l C dL_dig_10 (pc' := 11) rfl ?_
  refine f_lastore C dL_dig_11 (pc' := 12) rfl h (fun ws h => ?_)
  refine e_goto C (tg := 27) dL_dig_12 (by decide) ?_
  refine e_iconst C (v := (0 : Int32)) (by decide) dL_dig_27 (pc' := 28) rfl ?_
  exact r_int C F dL_dig_28 (by decide) (by decide) h
abbrev rm_L_years : Room := { frames := 7, cells := 1, slots := 6, locals := 103 }
set_option maxRecDepth 20000 in
theorem w_L_years_k13 : Cond.classLink RL 13 "java/lang/IllegalArgumentException" ∈ wsL_years := by decide +kernel
def F_L_years (G : Gx) (p0 : Nat) (p1 : Int32) (p2 : Nat) (ws : va_W) (Q : Int32 → va_W → Prop) : Prop := (qV 6 p0 ws ∧ F_X6_years G p0 p1 ws (fun v1 ws => qLs (gc G 5) p2 (0 : Int32) (v1.toInt64) ws (fun ws => Q (0 : Int32) ws)) (fun E ws => (E = "java/lang/IllegalArgumentException" ∧ Q (1 : Int32) ws)))
set_option maxRecDepth 20000 in
set_option maxHeartbeats 4000000 in
theorem m_L_years {G : Gx} (hst : (gl G).stackTraces = false) {p0 : Nat} {p1 : Int32} {p2 : Nat} {ws : va_W} {Q : Int32 → va_W → Prop} (h : F_L_years G p0 p1 p2 ws Q) : Mt G yL_years wsL_years rm_L_years [.ref p0, .int p1, .ref p2] ws (QtI G Q) := by
  refine mk_Mw (cc := cL_years) (nL := 4) (own := RL) (ret := (some .int)) (lv0 := [some (.ref p0), some (.int p1), some (.ref p2), none]) hst (by decide) rfl rfl (Nat.le_of_ble_eq_true rfl) rfl ?_
  intro K C F hT
  refine e_aload_n C (x := p2) rfl dL_years_0 (pc' := 1) rfl ?_
  refine e_iconst C (v := (0 : Int32)) (by decide) dL_years_1 (pc' := 2) rfl ?_
  refine e_aload_n C (x := p0) rfl dL_years_2 (pc' := 3) rfl ?_
  refine e_iload_n C (x := p1) rfl dL_years_3 (pc' := 4) rfl ?_
  obtain ⟨hv, h⟩ := h
  refine e_xcalli (run_XV (n := 1) C (m_X6_years hst h) gL_years_X6_years rfl ⟨rfl, by decide, by decide, by decide +kernel⟩ ⟨by decide, by decide⟩ (ci := 6) rfl rfl hv rfl (Nat.le_of_ble_eq_true rfl) dL_years_4 ⟨by decide, by decide⟩ (As := [.int p1]) rfl) (pc' := 7) rfl (cn' := 1) (sn' := 6) rfl rfl (fun E ws h => ?_) (fun v1 ws h => ?_)
  · obtain ⟨rfl, h⟩ := h
    refine e_catch C hT [] ⟨0, 9, 12, 13⟩ [] rfl (by decide) (by decide +kernel) (by decide) (by decide) w_L_years_k13 (fun q2 => ?_)
    refine e_astore_n C (by decide) dL_years_12 (pc' := 13) rfl (lv' := [some (.ref p0), some (.int p1), some (.ref p2), some (.ref q2)]) rfl ?_
    refine e_iconst C (v := (1 : Int32)) (by decide) dL_years_13 (pc' := 14) rfl ?_
    exact r_int C F dL_years_14 (by decide) (by decide) h
  refine e_i2l C dL_years_7 (pc' := 8) rfl ?_
  refine f_lastore C dL_years_8 (pc' := 9) rfl h (fun ws h => ?_)
  refine e_goto C (tg := 15) dL_years_9 (by decide) ?_
  refine e_iconst C (v := (0 : Int32)) (by decide) dL_years_15 (pc' := 16) rfl ?_
  exact r_int C F dL_years_16 (by decide) (by decide) h
abbrev rm_L_collapse : Room := { frames := 9, cells := 2, slots := 12, locals := 151 }
set_option maxRecDepth 20000 in
theorem w_L_collapse_k25 : Cond.classLink RL 25 "java/lang/IndexOutOfBoundsException" ∈ wsL_collapse := by decide +kernel
set_option maxRecDepth 20000 in
theorem w_L_collapse_k27 : Cond.classLink RL 27 "java/lang/IllegalStateException" ∈ wsL_collapse := by decide +kernel
def F_L_collapse (G : Gx) (p0 : Nat) (p1 : Int32) (p2 : Int32) (p3 : Int32) (p4 : Nat) (ws : va_W) (Q : Int32 → va_W → Prop) : Prop := ∀ (J18 : Int64 → Int32 → Nat → va_W → Prop), (∀ (t0 : Int64) (t1 : Int32) (t2 : Nat) (ws : va_W), qLs (gc G 5) t2 t1 t0 ws (fun ws => Q (0 : Int32) ws) → J18 t0 t1 t2 ws) → (qV 6 p0 ws ∧ F_X6_collapse G p0 p1 p2 p3 ws (fun v1 ws => ((v1 = 0 → J18 (0 : Int64) (0 : Int32) p4 ws) ∧ (¬ v1 = 0 → J18 (1 : Int64) (0 : Int32) p4 ws))) (fun E ws => (E = "java/lang/IndexOutOfBoundsException" ∧ Q (1 : Int32) ws) ∨ (E = "java/lang/IllegalStateException" ∧ Q (2 : Int32) ws)))
set_option maxRecDepth 20000 in
set_option maxHeartbeats 4000000 in
theorem m_L_collapse {G : Gx} (hst : (gl G).stackTraces = false) {p0 : Nat} {p1 : Int32} {p2 : Int32} {p3 : Int32} {p4 : Nat} {ws : va_W} {Q : Int32 → va_W → Prop} (h : F_L_collapse G p0 p1 p2 p3 p4 ws Q) : Mt G yL_collapse wsL_collapse rm_L_collapse [.ref p0, .int p1, .int p2, .int p3, .ref p4] ws (QtI G Q) := by
  refine mk_Mw (cc := cL_collapse) (nL := 6) (own := RL) (ret := (some .int)) (lv0 := [some (.ref p0), some (.int p1), some (.int p2), some (.int p3), some (.ref p4), none]) hst (by decide) rfl rfl (Nat.le_of_ble_eq_true rfl) rfl ?_
  intro K C F hT
  replace h := h (fun t0 t1 t2 ws => Ev K G 6 2 12 18 [none, none, none, none, none, none] [.long t0, .int t1, .ref t2] ws)
  replace h := h (by
    intro t0 t1 t2 ws h
    show Ev K G 6 2 12 18 [none, none, none, none, none, none] [.long t0, .int t1, .ref t2] ws
    refine f_lastore C dL_collapse_18 (pc' := 19) rfl h (fun ws h => ?_)
    refine e_goto C (tg := 30) dL_collapse_19 (by decide) ?_
    refine e_iconst C (v := (0 : Int32)) (by decide) dL_collapse_30 (pc' := 31) rfl ?_
    exact r_int C F dL_collapse_31 (by decide) (by decide) h)
  refine e_aload C (x := p4) rfl dL_collapse_0 (pc' := 2) rfl ?_
  refine e_iconst C (v := (0 : Int32)) (by decide) dL_collapse_2 (pc' := 3) rfl ?_
  refine e_aload_n C (x := p0) rfl dL_collapse_3 (pc' := 4) rfl ?_
  refine e_iload_n C (x := p1) rfl dL_collapse_4 (pc' := 5) rfl ?_
  refine e_iload_n C (x := p2) rfl dL_collapse_5 (pc' := 6) rfl ?_
  refine e_iload_n C (x := p3) rfl dL_collapse_6 (pc' := 7) rfl ?_
  obtain ⟨hv, h⟩ := h
  refine e_xcalli (run_XV (n := 3) C (m_X6_collapse hst h) gL_collapse_X6_collapse rfl ⟨rfl, by decide, by decide, by decide +kernel⟩ ⟨by decide, by decide⟩ (ci := 6) rfl rfl hv rfl (Nat.le_of_ble_eq_true rfl) dL_collapse_7 ⟨by decide, by decide⟩ (As := [.int p1, .int p2, .int p3]) rfl) (pc' := 10) rfl (cn' := 2) (sn' := 12) rfl rfl (fun E ws h => ?_) (fun v1 ws h => ?_)
  · rcases h with ⟨rfl, h⟩ | ⟨rfl, h⟩
    · refine e_catch C hT [] ⟨0, 19, 22, 25⟩ [⟨0, 19, 26, 27⟩] rfl (by decide) (by decide +kernel) (by decide) (by decide) w_L_collapse_k25 (fun q2 => ?_)
      refine e_astore C (by decide) dL_collapse_22 (pc' := 24) rfl (lv' := [some (.ref p0), some (.int p1), some (.int p2), some (.int p3), some (.ref p4), some (.ref q2)]) rfl ?_
      refine e_iconst C (v := (1 : Int32)) (by decide) dL_collapse_24 (pc' := 25) rfl ?_
      exact r_int C F dL_collapse_25 (by decide) (by decide) h
    · refine e_catch C hT [⟨0, 19, 22, 25⟩] ⟨0, 19, 26, 27⟩ [] rfl (by decide) (by decide +kernel) (by decide) (by decide) w_L_collapse_k27 (fun q3 => ?_)
      refine e_astore C (by decide) dL_collapse_26 (pc' := 28) rfl (lv' := [some (.ref p0), some (.int p1), some (.int p2), some (.int p3), some (.ref p4), some (.ref q3)]) rfl ?_
      refine e_iconst C (v := (2 : Int32)) (by decide) dL_collapse_28 (pc' := 29) rfl ?_
      exact r_int C F dL_collapse_29 (by decide) (by decide) h
  refine e_if_eq C (tg := 17) dL_collapse_10 (by decide) (pc' := 13) rfl (fun hc => ?_) (fun hc => ?_)
  · replace h := h.1 hc
    refine e_lconst C (v := (0 : Int64)) (by decide) dL_collapse_17 (pc' := 18) rfl ?_
    refine e_mask [false, false, false, false, false, false] (lv' := [none, none, none, none, none, none]) rfl ?_
    exact h
  · replace h := h.2 hc
    refine e_lconst C (v := (1 : Int64)) (by decide) dL_collapse_13 (pc' := 14) rfl ?_
    refine e_goto C (tg := 18) dL_collapse_14 (by decide) ?_
    refine e_mask [false, false, false, false, false, false] (lv' := [none, none, none, none, none, none]) rfl ?_
    exact h
abbrev rm_L_flow : Room := { frames := 9, cells := 2, slots := 12, locals := 146 }
set_option maxRecDepth 20000 in
theorem w_L_flow_k25 : Cond.classLink RL 25 "java/lang/IndexOutOfBoundsException" ∈ wsL_flow := by decide +kernel
set_option maxRecDepth 20000 in
theorem w_L_flow_k27 : Cond.classLink RL 27 "java/lang/IllegalStateException" ∈ wsL_flow := by decide +kernel
def F_L_flow (G : Gx) (p0 : Nat) (p1 : Int32) (p2 : Nat) (ws : va_W) (Q : Int32 → va_W → Prop) : Prop := (qV 6 p0 ws ∧ F_X6_flow G p0 p1 ws (fun v1 ws => qLs (gc G 5) p2 (0 : Int32) (v1.toInt64) ws (fun ws => Q (0 : Int32) ws)) (fun E ws => (E = "java/lang/IndexOutOfBoundsException" ∧ Q (1 : Int32) ws) ∨ (E = "java/lang/IllegalStateException" ∧ Q (2 : Int32) ws)))
set_option maxRecDepth 20000 in
set_option maxHeartbeats 4000000 in
theorem m_L_flow {G : Gx} (hst : (gl G).stackTraces = false) {p0 : Nat} {p1 : Int32} {p2 : Nat} {ws : va_W} {Q : Int32 → va_W → Prop} (h : F_L_flow G p0 p1 p2 ws Q) : Mt G yL_flow wsL_flow rm_L_flow [.ref p0, .int p1, .ref p2] ws (QtI G Q) := by
  refine mk_Mw (cc := cL_flow) (nL := 4) (own := RL) (ret := (some .int)) (lv0 := [some (.ref p0), some (.int p1), some (.ref p2), none]) hst (by decide) rfl rfl (Nat.le_of_ble_eq_true rfl) rfl ?_
  intro K C F hT
  refine e_aload_n C (x := p2) rfl dL_flow_0 (pc' := 1) rfl ?_
  refine e_iconst C (v := (0 : Int32)) (by decide) dL_flow_1 (pc' := 2) rfl ?_
  refine e_aload_n C (x := p0) rfl dL_flow_2 (pc' := 3) rfl ?_
  refine e_iload_n C (x := p1) rfl dL_flow_3 (pc' := 4) rfl ?_
  obtain ⟨hv, h⟩ := h
  refine e_xcalli (run_XV (n := 1) C (m_X6_flow hst h) gL_flow_X6_flow rfl ⟨rfl, by decide, by decide, by decide +kernel⟩ ⟨by decide, by decide⟩ (ci := 6) rfl rfl hv rfl (Nat.le_of_ble_eq_true rfl) dL_flow_4 ⟨by decide, by decide⟩ (As := [.int p1]) rfl) (pc' := 7) rfl (cn' := 2) (sn' := 12) rfl rfl (fun E ws h => ?_) (fun v1 ws h => ?_)
  · rcases h with ⟨rfl, h⟩ | ⟨rfl, h⟩
    · refine e_catch C hT [] ⟨0, 9, 12, 25⟩ [⟨0, 9, 15, 27⟩] rfl (by decide) (by decide +kernel) (by decide) (by decide) w_L_flow_k25 (fun q2 => ?_)
      refine e_astore_n C (by decide) dL_flow_12 (pc' := 13) rfl (lv' := [some (.ref p0), some (.int p1), some (.ref p2), some (.ref q2)]) rfl ?_
      refine e_iconst C (v := (1 : Int32)) (by decide) dL_flow_13 (pc' := 14) rfl ?_
      exact r_int C F dL_flow_14 (by decide) (by decide) h
    · refine e_catch C hT [⟨0, 9, 12, 25⟩] ⟨0, 9, 15, 27⟩ [] rfl (by decide) (by decide +kernel) (by decide) (by decide) w_L_flow_k27 (fun q3 => ?_)
      refine e_astore_n C (by decide) dL_flow_15 (pc' := 16) rfl (lv' := [some (.ref p0), some (.int p1), some (.ref p2), some (.ref q3)]) rfl ?_
      refine e_iconst C (v := (2 : Int32)) (by decide) dL_flow_16 (pc' := 17) rfl ?_
      exact r_int C F dL_flow_17 (by decide) (by decide) h
  refine e_i2l C dL_flow_7 (pc' := 8) rfl ?_
  refine f_lastore C dL_flow_8 (pc' := 9) rfl h (fun ws h => ?_)
  refine e_goto C (tg := 18) dL_flow_9 (by decide) ?_
  refine e_iconst C (v := (0 : Int32)) (by decide) dL_flow_18 (pc' := 19) rfl ?_
  exact r_int C F dL_flow_19 (by decide) (by decide) h
abbrev rm_L_harm : Room := { frames := 9, cells := 2, slots := 12, locals := 147 }
set_option maxRecDepth 20000 in
theorem w_L_harm_k25 : Cond.classLink RL 25 "java/lang/IndexOutOfBoundsException" ∈ wsL_harm := by decide +kernel
set_option maxRecDepth 20000 in
theorem w_L_harm_k27 : Cond.classLink RL 27 "java/lang/IllegalStateException" ∈ wsL_harm := by decide +kernel
def F_L_harm (G : Gx) (p0 : Nat) (p1 : Int32) (p2 : Nat) (ws : va_W) (Q : Int32 → va_W → Prop) : Prop := (qV 6 p0 ws ∧ F_X6_harm G p0 p1 ws (fun v1 ws => qLs (gc G 5) p2 (0 : Int32) (v1.toInt64) ws (fun ws => Q (0 : Int32) ws)) (fun E ws => (E = "java/lang/IndexOutOfBoundsException" ∧ Q (1 : Int32) ws) ∨ (E = "java/lang/IllegalStateException" ∧ Q (2 : Int32) ws)))
set_option maxRecDepth 20000 in
set_option maxHeartbeats 4000000 in
theorem m_L_harm {G : Gx} (hst : (gl G).stackTraces = false) {p0 : Nat} {p1 : Int32} {p2 : Nat} {ws : va_W} {Q : Int32 → va_W → Prop} (h : F_L_harm G p0 p1 p2 ws Q) : Mt G yL_harm wsL_harm rm_L_harm [.ref p0, .int p1, .ref p2] ws (QtI G Q) := by
  refine mk_Mw (cc := cL_harm) (nL := 4) (own := RL) (ret := (some .int)) (lv0 := [some (.ref p0), some (.int p1), some (.ref p2), none]) hst (by decide) rfl rfl (Nat.le_of_ble_eq_true rfl) rfl ?_
  intro K C F hT
  refine e_aload_n C (x := p2) rfl dL_harm_0 (pc' := 1) rfl ?_
  refine e_iconst C (v := (0 : Int32)) (by decide) dL_harm_1 (pc' := 2) rfl ?_
  refine e_aload_n C (x := p0) rfl dL_harm_2 (pc' := 3) rfl ?_
  refine e_iload_n C (x := p1) rfl dL_harm_3 (pc' := 4) rfl ?_
  obtain ⟨hv, h⟩ := h
  refine e_xcalli (run_XV (n := 1) C (m_X6_harm hst h) gL_harm_X6_harm rfl ⟨rfl, by decide, by decide, by decide +kernel⟩ ⟨by decide, by decide⟩ (ci := 6) rfl rfl hv rfl (Nat.le_of_ble_eq_true rfl) dL_harm_4 ⟨by decide, by decide⟩ (As := [.int p1]) rfl) (pc' := 7) rfl (cn' := 2) (sn' := 12) rfl rfl (fun E ws h => ?_) (fun v1 ws h => ?_)
  · rcases h with ⟨rfl, h⟩ | ⟨rfl, h⟩
    · refine e_catch C hT [] ⟨0, 9, 12, 25⟩ [⟨0, 9, 15, 27⟩] rfl (by decide) (by decide +kernel) (by decide) (by decide) w_L_harm_k25 (fun q2 => ?_)
      refine e_astore_n C (by decide) dL_harm_12 (pc' := 13) rfl (lv' := [some (.ref p0), some (.int p1), some (.ref p2), some (.ref q2)]) rfl ?_
      refine e_iconst C (v := (1 : Int32)) (by decide) dL_harm_13 (pc' := 14) rfl ?_
      exact r_int C F dL_harm_14 (by decide) (by decide) h
    · refine e_catch C hT [⟨0, 9, 12, 25⟩] ⟨0, 9, 15, 27⟩ [] rfl (by decide) (by decide +kernel) (by decide) (by decide) w_L_harm_k27 (fun q3 => ?_)
      refine e_astore_n C (by decide) dL_harm_15 (pc' := 16) rfl (lv' := [some (.ref p0), some (.int p1), some (.ref p2), some (.ref q3)]) rfl ?_
      refine e_iconst C (v := (2 : Int32)) (by decide) dL_harm_16 (pc' := 17) rfl ?_
      exact r_int C F dL_harm_17 (by decide) (by decide) h
  refine e_i2l C dL_harm_7 (pc' := 8) rfl ?_
  refine f_lastore C dL_harm_8 (pc' := 9) rfl h (fun ws h => ?_)
  refine e_goto C (tg := 18) dL_harm_9 (by decide) ?_
  refine e_iconst C (v := (0 : Int32)) (by decide) dL_harm_18 (pc' := 19) rfl ?_
  exact r_int C F dL_harm_19 (by decide) (by decide) h
abbrev rm_L_seep : Room := { frames := 9, cells := 2, slots := 12, locals := 149 }
set_option maxRecDepth 20000 in
theorem w_L_seep_k25 : Cond.classLink RL 25 "java/lang/IndexOutOfBoundsException" ∈ wsL_seep := by decide +kernel
set_option maxRecDepth 20000 in
theorem w_L_seep_k27 : Cond.classLink RL 27 "java/lang/IllegalStateException" ∈ wsL_seep := by decide +kernel
def F_L_seep (G : Gx) (p0 : Nat) (p1 : Int32) (p2 : Int32) (p3 : Nat) (ws : va_W) (Q : Int32 → va_W → Prop) : Prop := (qV 6 p0 ws ∧ F_X6_seep G p0 p1 p2 ws (fun v1 ws => qLs (gc G 5) p3 (0 : Int32) (v1.toInt64) ws (fun ws => Q (0 : Int32) ws)) (fun E ws => (E = "java/lang/IndexOutOfBoundsException" ∧ Q (1 : Int32) ws) ∨ (E = "java/lang/IllegalStateException" ∧ Q (2 : Int32) ws)))
set_option maxRecDepth 20000 in
set_option maxHeartbeats 4000000 in
theorem m_L_seep {G : Gx} (hst : (gl G).stackTraces = false) {p0 : Nat} {p1 : Int32} {p2 : Int32} {p3 : Nat} {ws : va_W} {Q : Int32 → va_W → Prop} (h : F_L_seep G p0 p1 p2 p3 ws Q) : Mt G yL_seep wsL_seep rm_L_seep [.ref p0, .int p1, .int p2, .ref p3] ws (QtI G Q) := by
  refine mk_Mw (cc := cL_seep) (nL := 5) (own := RL) (ret := (some .int)) (lv0 := [some (.ref p0), some (.int p1), some (.int p2), some (.ref p3), none]) hst (by decide) rfl rfl (Nat.le_of_ble_eq_true rfl) rfl ?_
  intro K C F hT
  refine e_aload_n C (x := p3) rfl dL_seep_0 (pc' := 1) rfl ?_
  refine e_iconst C (v := (0 : Int32)) (by decide) dL_seep_1 (pc' := 2) rfl ?_
  refine e_aload_n C (x := p0) rfl dL_seep_2 (pc' := 3) rfl ?_
  refine e_iload_n C (x := p1) rfl dL_seep_3 (pc' := 4) rfl ?_
  refine e_iload_n C (x := p2) rfl dL_seep_4 (pc' := 5) rfl ?_
  obtain ⟨hv, h⟩ := h
  refine e_xcalli (run_XV (n := 2) C (m_X6_seep hst h) gL_seep_X6_seep rfl ⟨rfl, by decide, by decide, by decide +kernel⟩ ⟨by decide, by decide⟩ (ci := 6) rfl rfl hv rfl (Nat.le_of_ble_eq_true rfl) dL_seep_5 ⟨by decide, by decide⟩ (As := [.int p1, .int p2]) rfl) (pc' := 8) rfl (cn' := 2) (sn' := 12) rfl rfl (fun E ws h => ?_) (fun v1 ws h => ?_)
  · rcases h with ⟨rfl, h⟩ | ⟨rfl, h⟩
    · refine e_catch C hT [] ⟨0, 10, 13, 25⟩ [⟨0, 10, 17, 27⟩] rfl (by decide) (by decide +kernel) (by decide) (by decide) w_L_seep_k25 (fun q2 => ?_)
      refine e_astore C (by decide) dL_seep_13 (pc' := 15) rfl (lv' := [some (.ref p0), some (.int p1), some (.int p2), some (.ref p3), some (.ref q2)]) rfl ?_
      refine e_iconst C (v := (1 : Int32)) (by decide) dL_seep_15 (pc' := 16) rfl ?_
      exact r_int C F dL_seep_16 (by decide) (by decide) h
    · refine e_catch C hT [⟨0, 10, 13, 25⟩] ⟨0, 10, 17, 27⟩ [] rfl (by decide) (by decide +kernel) (by decide) (by decide) w_L_seep_k27 (fun q3 => ?_)
      refine e_astore C (by decide) dL_seep_17 (pc' := 19) rfl (lv' := [some (.ref p0), some (.int p1), some (.int p2), some (.ref p3), some (.ref q3)]) rfl ?_
      refine e_iconst C (v := (2 : Int32)) (by decide) dL_seep_19 (pc' := 20) rfl ?_
      exact r_int C F dL_seep_20 (by decide) (by decide) h
  refine e_i2l C dL_seep_8 (pc' := 9) rfl ?_
  refine f_lastore C dL_seep_9 (pc' := 10) rfl h (fun ws h => ?_)
  refine e_goto C (tg := 21) dL_seep_10 (by decide) ?_
  refine e_iconst C (v := (0 : Int32)) (by decide) dL_seep_21 (pc' := 22) rfl ?_
  exact r_int C F dL_seep_22 (by decide) (by decide) h
