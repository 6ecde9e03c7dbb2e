abbrev rm_X7_seep : Room := { frames := 4, cells := 0, slots := 0, locals := 88 }
set_option maxRecDepth 20000 in
theorem in_X7_seep_X7 : ∀ w ∈ wsX70, w ∈ wsX7_seep := by decide +kernel
set_option maxRecDepth 20000 in
theorem fl_X7_seep_88 : Cond.fieldLink RX7 88 (TX7 0).1 (TX7 0).2.1 (TX7 0).2.2.1 ∈ wsX7_seep := by decide +kernel
set_option maxRecDepth 20000 in
theorem fl_X7_seep_20 : Cond.fieldLink RX7 20 (TX7 6).1 (TX7 6).2.1 (TX7 6).2.2.1 ∈ wsX7_seep := by decide +kernel
def F_X7_seep (G : Gx) (p0 : Nat) (p1 : Int32) (p2 : Int32) (ws : va_W) (Q : Int32 → va_W → Prop) : Prop := ∀ (J34 : Int32 → Nat → va_W → Prop), (∀ (t0 : Int32) (t1 : Nat) (ws : va_W), (qV 7 t1 ws ∧ F_X7_throwsIf G t1 t0 (2 : Int32) ws (fun v5 ws => ((v5 = 0 → (qV 7 p0 ws ∧ F_X7_runs G p0 p1 ws (fun v6 ws => ((v6 ≤ p2 → Q (0 : Int32) ws) ∧ (¬ v6 ≤ p2 → (qV 7 p0 ws ∧ F_X7_seeps G p0 p1 p2 (8 : Int32) ws (fun v7 ws => Q v7 ws))))))) ∧ (¬ v5 = 0 → Q (0 : Int32) ws)))) → J34 t0 t1 ws) → qP 7 0 p0 (.int (0 : Int32)) ws (fun ws => (qV 7 p0 ws ∧ F_X7_noWell G p0 p1 p2 ws (fun v1 ws => (qV 7 p0 ws ∧ F_X7_throwsIf G p0 v1 (1 : Int32) ws (fun v2 ws => ((¬ v2 = 0 → Q (0 : Int32) ws) ∧ (v2 = 0 → qR 7 6 p0 ws (fun v3 => qA (gc G 2) v3 p1 ws (fun v4 => ((¬ v4 = 0 → J34 (0 : Int32) p0 ws) ∧ (v4 = 0 → J34 (1 : Int32) p0 ws)))))))))))
set_option maxRecDepth 20000 in
set_option maxHeartbeats 4000000 in
theorem m_X7_seep {G : Gx} (hst : (gl G).stackTraces = false) {p0 : Nat} {p1 : Int32} {p2 : Int32} {ws : va_W} {Q : Int32 → va_W → Prop} (h : F_X7_seep G p0 p1 p2 ws Q) : Mt G yX7_seep wsX7_seep rm_X7_seep [.ref p0, .int p1, .int p2] ws (QtI G Q) := by
  refine mk_Mt (cc := cX7_seep) (nL := 3) (own := RX7) (ret := (some .int)) (lv0 := [some (.ref p0), some (.int p1), some (.int p2)]) hst (by decide) rfl rfl (Nat.le_of_ble_eq_true rfl) rfl ?_
  intro K C F
  replace h := h (fun t0 t1 ws => Ev K G 3 0 0 34 [some (.ref p0), some (.int p1), some (.int p2)] [.int t0, .ref t1] ws)
  replace h := h (by
    intro t0 t1 ws h
    show Ev K G 3 0 0 34 [some (.ref p0), some (.int p1), some (.int p2)] [.int t0, .ref t1] ws
    refine e_iconst C (v := (2 : Int32)) (by decide) dX7_seep_34 (pc' := 35) rfl ?_
    obtain ⟨hv, h⟩ := h
    refine e_calli (run_V (n := 2) C (m_X7_throwsIf hst h) gX7_seep_X7_throwsIf rfl ⟨rfl, by decide, by decide, by decide +kernel⟩ ⟨by decide, by decide⟩ (ci := 7) rfl rfl hv rfl (Nat.le_of_ble_eq_true rfl) dX7_seep_35 ⟨by decide, by decide⟩ (As := [.int t0, .int (2 : Int32)]) rfl) (pc' := 38) rfl (cn' := 0) (sn' := 0) rfl rfl (fun v5 ws h => ?_)
    refine e_if_eq C (tg := 43) dX7_seep_38 (by decide) (pc' := 41) rfl (fun hc => ?_) (fun hc => ?_)
    · replace h := h.1 hc
      refine e_iload_n C (x := p2) rfl dX7_seep_43 (pc' := 44) rfl ?_
      refine e_aload_n C (x := p0) rfl dX7_seep_44 (pc' := 45) rfl ?_
      refine e_iload_n C (x := p1) rfl dX7_seep_45 (pc' := 46) rfl ?_
      obtain ⟨hv, h⟩ := h
      refine e_calli (run_V (n := 1) C (m_X7_runs hst h) gX7_seep_X7_runs rfl ⟨rfl, by decide, by decide, by decide +kernel⟩ ⟨by decide, by decide⟩ (ci := 7) rfl rfl hv rfl (Nat.le_of_ble_eq_true rfl) dX7_seep_46 ⟨by decide, by decide⟩ (As := [.int p1]) rfl) (pc' := 49) rfl (cn' := 0) (sn' := 0) rfl rfl (fun v6 ws h => ?_)
      refine e_icmp_ge C (tg := 63) dX7_seep_49 (by decide) (pc' := 52) rfl (fun hc => ?_) (fun hc => ?_)
      · replace h := h.1 hc
        refine e_iconst C (v := (0 : Int32)) (by decide) dX7_seep_63 (pc' := 64) rfl ?_
        exact r_int C F dX7_seep_64 (by decide) (by decide) h
      · replace h := h.2 hc
        refine e_aload_n C (x := p0) rfl dX7_seep_52 (pc' := 53) rfl ?_
        refine e_iload_n C (x := p1) rfl dX7_seep_53 (pc' := 54) rfl ?_
        refine e_iload_n C (x := p2) rfl dX7_seep_54 (pc' := 55) rfl ?_
        refine e_bipush C (v := (8 : Int32)) (by decide) dX7_seep_55 (pc' := 57) rfl ?_
        obtain ⟨hv, h⟩ := h
        refine e_calli (run_V (n := 3) C (m_X7_seeps hst h) gX7_seep_X7_seeps rfl ⟨rfl, by decide, by decide, by decide +kernel⟩ ⟨by decide, by decide⟩ (ci := 7) rfl rfl hv rfl (Nat.le_of_ble_eq_true rfl) dX7_seep_57 ⟨by decide, by decide⟩ (As := [.int p1, .int p2, .int (8 : Int32)]) rfl) (pc' := 60) rfl (cn' := 0) (sn' := 0) rfl rfl (fun v7 ws h => ?_)
        refine e_goto C (tg := 64) dX7_seep_60 (by decide) ?_
        exact r_int C F dX7_seep_64 (by decide) (by decide) h
    · replace h := h.2 hc
      refine e_iconst C (v := (0 : Int32)) (by decide) dX7_seep_41 (pc' := 42) rfl ?_
      exact r_int C F dX7_seep_42 (by decide) (by decide) h)
  refine e_aload_n C (x := p0) rfl dX7_seep_0 (pc' := 1) rfl ?_
  refine e_iconst C (v := (0 : Int32)) (by decide) dX7_seep_1 (pc' := 2) rfl ?_
  refine f_putI C (ci := 7) (CN := RX7) (TT := TX7) (N := 36) 0 tyX7 dX7_seep_2 (pc' := 5) rfl in_X7_seep_X7 tyX7_ok nmX7 rfl (by decide) fl_X7_seep_88 rfl (by decide +kernel) h (fun ws h => ?_)
  refine e_aload_n C (x := p0) rfl dX7_seep_5 (pc' := 6) rfl ?_
  refine e_aload_n C (x := p0) rfl dX7_seep_6 (pc' := 7) rfl ?_
  refine e_iload_n C (x := p1) rfl dX7_seep_7 (pc' := 8) rfl ?_
  refine e_iload_n C (x := p2) rfl dX7_seep_8 (pc' := 9) rfl ?_
  obtain ⟨hv, h⟩ := h
  refine e_calli (run_V (n := 2) C (m_X7_noWell hst h) gX7_seep_X7_noWell rfl ⟨rfl, by decide, by decide, by decide +kernel⟩ ⟨by decide, by decide⟩ (ci := 7) rfl rfl hv rfl (Nat.le_of_ble_eq_true rfl) dX7_seep_9 ⟨by decide, by decide⟩ (As := [.int p1, .int p2]) rfl) (pc' := 12) rfl (cn' := 0) (sn' := 0) rfl rfl (fun v1 ws h => ?_)
  refine e_iconst C (v := (1 : Int32)) (by decide) dX7_seep_12 (pc' := 13) rfl ?_
  obtain ⟨hv, h⟩ := h
  refine e_calli (run_V (n := 2) C (m_X7_throwsIf hst h) gX7_seep_X7_throwsIf rfl ⟨rfl, by decide, by decide, by decide +kernel⟩ ⟨by decide, by decide⟩ (ci := 7) rfl rfl hv rfl (Nat.le_of_ble_eq_true rfl) dX7_seep_13 ⟨by decide, by decide⟩ (As := [.int v1, .int (1 : Int32)]) rfl) (pc' := 16) rfl (cn' := 0) (sn' := 0) rfl rfl (fun v2 ws h => ?_)
  refine e_if_ne C (tg := 41) dX7_seep_16 (by decide) (pc' := 19) rfl (fun hc => ?_) (fun hc => ?_)
  · replace h := h.1 hc
    refine e_iconst C (v := (0 : Int32)) (by decide) dX7_seep_41 (pc' := 42) rfl ?_
    exact r_int C F dX7_seep_42 (by decide) (by decide) h
  · replace h := h.2 hc
    refine e_aload_n C (x := p0) rfl dX7_seep_19 (pc' := 20) rfl ?_
    refine e_aload_n C (x := p0) rfl dX7_seep_20 (pc' := 21) rfl ?_
    refine f_getR C (ci := 7) (CN := RX7) (TT := TX7) (N := 36) 6 dX7_seep_21 (pc' := 24) rfl in_X7_seep_X7 rfl (by decide) fl_X7_seep_20 h (fun v3 h => ?_)
    refine e_iload_n C (x := p1) rfl dX7_seep_24 (pc' := 25) rfl ?_
    refine f_zaload C dX7_seep_25 (pc' := 26) rfl h (fun v4 h => ?_)
    refine e_if_ne C (tg := 33) dX7_seep_26 (by decide) (pc' := 29) rfl (fun hc => ?_) (fun hc => ?_)
    · replace h := h.1 hc
      refine e_iconst C (v := (0 : Int32)) (by decide) dX7_seep_33 (pc' := 34) rfl ?_
      exact h
    · replace h := h.2 hc
      refine e_iconst C (v := (1 : Int32)) (by decide) dX7_seep_29 (pc' := 30) rfl ?_
      refine e_goto C (tg := 34) dX7_seep_30 (by decide) ?_
      exact h
abbrev rm_X7_isLet : Room := { frames := 0, cells := 0, slots := 0, locals := 0 }
set_option maxRecDepth 20000 in
theorem in_X7_isLet_X7 : ∀ w ∈ wsX70, w ∈ wsX7_isLet := by decide +kernel
set_option maxRecDepth 20000 in
theorem fl_X7_isLet_45 : Cond.fieldLink RX7 45 (TX7 16).1 (TX7 16).2.1 (TX7 16).2.2.1 ∈ wsX7_isLet := by decide +kernel
set_option maxRecDepth 20000 in
theorem fl_X7_isLet_159 : Cond.fieldLink RX7 159 (TX7 4).1 (TX7 4).2.1 (TX7 4).2.2.1 ∈ wsX7_isLet := by decide +kernel
def F_X7_isLet (G : Gx) (p0 : Nat) (p1 : Int32) (ws : va_W) (Q : Int32 → va_W → Prop) : Prop := qR 7 16 p0 ws (fun v1 => qA (gc G 1) v1 (((7 : Int32) * p1) + (6 : Int32)) ws (fun v2 => qI 7 4 p0 ws (fun v3 => ((v2 ≤ v3 → Q (0 : Int32) ws) ∧ (¬ v2 ≤ v3 → Q (1 : Int32) ws)))))
set_option maxRecDepth 20000 in
set_option maxHeartbeats 4000000 in
theorem m_X7_isLet {G : Gx} (hst : (gl G).stackTraces = false) {p0 : Nat} {p1 : Int32} {ws : va_W} {Q : Int32 → va_W → Prop} (h : F_X7_isLet G p0 p1 ws Q) : Mt G yX7_isLet wsX7_isLet rm_X7_isLet [.ref p0, .int p1] ws (QtI G Q) := by
  refine mk_Mt (cc := cX7_isLet) (nL := 2) (own := RX7) (ret := (some .boolean)) (lv0 := [some (.ref p0), some (.int p1)]) hst (by decide) rfl rfl (Nat.le_of_ble_eq_true rfl) rfl ?_
  intro K C F
  refine e_aload_n C (x := p0) rfl dX7_isLet_0 (pc' := 1) rfl ?_
  refine f_getR C (ci := 7) (CN := RX7) (TT := TX7) (N := 36) 16 dX7_isLet_1 (pc' := 4) rfl in_X7_isLet_X7 rfl (by decide) fl_X7_isLet_45 h (fun v1 h => ?_)
  refine e_bipush C (v := (7 : Int32)) (by decide) dX7_isLet_4 (pc' := 6) rfl ?_
  refine e_iload_n C (x := p1) rfl dX7_isLet_6 (pc' := 7) rfl ?_
  refine e_imul C dX7_isLet_7 (pc' := 8) rfl ?_
  refine e_bipush C (v := (6 : Int32)) (by decide) dX7_isLet_8 (pc' := 10) rfl ?_
  refine e_iadd C dX7_isLet_10 (pc' := 11) rfl ?_
  refine f_iaload C dX7_isLet_11 (pc' := 12) rfl h (fun v2 h => ?_)
  refine e_aload_n C (x := p0) rfl dX7_isLet_12 (pc' := 13) rfl ?_
  refine f_getI C (ci := 7) (CN := RX7) (TT := TX7) (N := 36) 4 dX7_isLet_13 (pc' := 16) rfl in_X7_isLet_X7 rfl (by decide) fl_X7_isLet_159 h (fun v3 h => ?_)
  refine e_icmp_le C (tg := 23) dX7_isLet_16 (by decide) (pc' := 19) rfl (fun hc => ?_) (fun hc => ?_)
  · replace h := h.1 hc
    refine e_iconst C (v := (0 : Int32)) (by decide) dX7_isLet_23 (pc' := 24) rfl ?_
    exact r_bool C F dX7_isLet_24 (by decide) (by decide) (Or.inl rfl) h
  · replace h := h.2 hc
    refine e_iconst C (v := (1 : Int32)) (by decide) dX7_isLet_19 (pc' := 20) rfl ?_
    refine e_goto C (tg := 24) dX7_isLet_20 (by decide) ?_
    exact r_bool C F dX7_isLet_24 (by decide) (by decide) (Or.inr rfl) h
abbrev rm_X7_noOwner : Room := { frames := 1, cells := 0, slots := 0, locals := 22 }
def F_X7_noOwner (G : Gx) (p0 : Int32) (ws : va_W) (Q : Int32 → va_W → Prop) : Prop := (F_X7_in G p0 (0 : Int32) (30 : Int32) ws (fun v1 ws => ((¬ v1 = 0 → Q (0 : Int32) ws) ∧ (v1 = 0 → Q (1 : Int32) ws))))
set_option maxRecDepth 20000 in
set_option maxHeartbeats 4000000 in
theorem m_X7_noOwner {G : Gx} (hst : (gl G).stackTraces = false) {p0 : Int32} {ws : va_W} {Q : Int32 → va_W → Prop} (h : F_X7_noOwner G p0 ws Q) : Mt G yX7_noOwner wsX7_noOwner rm_X7_noOwner [.int p0] ws (QtI G Q) := by
  refine mk_Mt (cc := cX7_noOwner) (nL := 1) (own := RX7) (ret := (some .boolean)) (lv0 := [some (.int p0)]) hst (by decide) rfl rfl (Nat.le_of_ble_eq_true rfl) rfl ?_
  intro K C F
  refine e_iload_n C (x := p0) rfl dX7_noOwner_0 (pc' := 1) rfl ?_
  refine e_iconst C (v := (0 : Int32)) (by decide) dX7_noOwner_1 (pc' := 2) rfl ?_
  refine e_bipush C (v := (30 : Int32)) (by decide) dX7_noOwner_2 (pc' := 4) rfl ?_
  refine e_calli (run_S (n := 3) C (m_X7_in hst h) gX7_noOwner_X7_in rfl ⟨rfl, by decide, by decide, by decide +kernel⟩ ⟨by decide, by decide⟩ rfl (Nat.le_of_ble_eq_true rfl) dX7_noOwner_4 ⟨by decide, by decide⟩ (As := [.int p0, .int (0 : Int32), .int (30 : Int32)]) rfl) (pc' := 7) rfl (cn' := 0) (sn' := 0) rfl rfl (fun v1 ws h => ?_)
  refine e_if_ne C (tg := 14) dX7_noOwner_7 (by decide) (pc' := 10) rfl (fun hc => ?_) (fun hc => ?_)
  · replace h := h.1 hc
    refine e_iconst C (v := (0 : Int32)) (by decide) dX7_noOwner_14 (pc' := 15) rfl ?_
    exact r_bool C F dX7_noOwner_15 (by decide) (by decide) (Or.inl rfl) h
  · replace h := h.2 hc
    refine e_iconst C (v := (1 : Int32)) (by decide) dX7_noOwner_10 (pc' := 11) rfl ?_
    refine e_goto C (tg := 15) dX7_noOwner_11 (by decide) ?_
    exact r_bool C F dX7_noOwner_15 (by decide) (by decide) (Or.inr rfl) h
abbrev rm_X7_sell : Room := { frames := 2, cells := 0, slots := 0, locals := 49 }
set_option maxRecDepth 20000 in
theorem in_X7_sell_X7 : ∀ w ∈ wsX70, w ∈ wsX7_sell := by decide +kernel
set_option maxRecDepth 20000 in
theorem fl_X7_sell_88 : Cond.fieldLink RX7 88 (TX7 0).1 (TX7 0).2.1 (TX7 0).2.2.1 ∈ wsX7_sell := by decide +kernel
set_option maxRecDepth 20000 in
theorem fl_X7_sell_45 : Cond.fieldLink RX7 45 (TX7 16).1 (TX7 16).2.1 (TX7 16).2.2.1 ∈ wsX7_sell := by decide +kernel
set_option maxRecDepth 20000 in
theorem fl_X7_sell_102 : Cond.fieldLink RX7 102 (TX7 17).1 (TX7 17).2.1 (TX7 17).2.2.1 ∈ wsX7_sell := by decide +kernel
def F_X7_sell (G : Gx) (p0 : Nat) (p1 : Int32) (p2 : Int32) (p3 : Int32) (p4 : Int32) (ws : va_W) (Q : va_W → Prop) : Prop := ∀ (J100 : Int32 → Int32 → Int32 → Int32 → va_W → Prop), ∀ (J101 : Int32 → Int32 → Int32 → Int32 → Int32 → va_W → Prop), ∀ (J114 : Int32 → Int32 → Int32 → Int32 → Int32 → Int32 → va_W → Prop), ∀ (J125 : Int32 → Int32 → Int32 → Int32 → Int32 → Int32 → Int32 → va_W → Prop), ∀ (J139 : Int32 → Int32 → Int32 → Int32 → Int32 → Int32 → Nat → va_W → Prop), ∀ (J164 : Int32 → Int32 → Int32 → Int32 → Int32 → Nat → va_W → Prop), ∀ (J203 : Int32 → Int32 → Int32 → va_W → Prop), (∀ (x5 : Int32) (x6 : Int32) (x7 : Int32) (x8 : Int32) (ws : va_W), J101 x5 x6 x7 x8 (0 : Int32) ws → J100 x5 x6 x7 x8 ws) → (∀ (x5 : Int32) (x6 : Int32) (x7 : Int32) (x8 : Int32) (t0 : Int32) (ws : va_W), ((p2 ≤ x6 → J114 x5 x6 x7 x8 t0 (0 : Int32) ws) ∧ (¬ p2 ≤ x6 → J114 x5 x6 x7 x8 t0 (1 : Int32) ws)) → J101 x5 x6 x7 x8 t0 ws) → (∀ (x5 : Int32) (x6 : Int32) (x7 : Int32) (x8 : Int32) (x9 : Int32) (t0 : Int32) (ws : va_W), ((x7 ≤ p3 → J125 x5 x6 x7 x8 x9 (0 : Int32) t0 ws) ∧ (¬ x7 ≤ p3 → J125 x5 x6 x7 x8 x9 (1 : Int32) t0 ws)) → J114 x5 x6 x7 x8 x9 t0 ws) → (∀ (x5 : Int32) (x6 : Int32) (x7 : Int32) (x8 : Int32) (x9 : Int32) (t0 : Int32) (t1 : Int32) (ws : va_W), ((¬ x9 = 0 → J139 x5 x6 x7 x8 (t1 + t0) (0 : Int32) p0 ws) ∧ (x9 = 0 → J139 x5 x6 x7 x8 (t1 + t0) (1 : Int32) p0 ws)) → J125 x5 x6 x7 x8 x9 t0 t1 ws) → (∀ (x5 : Int32) (x6 : Int32) (x7 : Int32) (x8 : Int32) (x10 : Int32) (t0 : Int32) (t1 : Nat) (ws : va_W), (qV 7 t1 ws ∧ F_X7_throwsIf G t1 t0 (3 : Int32) ws (fun v12 ws => ((¬ v12 = 0 → Q ws) ∧ (v12 = 0 → qI 7 17 p0 ws (fun v13 => (((v13 + x10) ≤ (60 : Int32) → J164 x5 x6 x7 x8 (0 : Int32) p0 ws) ∧ (¬ (v13 + x10) ≤ (60 : Int32) → J164 x5 x6 x7 x8 (1 : Int32) p0 ws))))))) → J139 x5 x6 x7 x8 x10 t0 t1 ws) → (∀ (x5 : Int32) (x6 : Int32) (x7 : Int32) (x8 : Int32) (t0 : Int32) (t1 : Nat) (ws : va_W), (qV 7 t1 ws ∧ F_X7_throwsIf G t1 t0 (4 : Int32) ws (fun v14 ws => ((v14 = 0 → (qV 7 p0 ws ∧ F_X7_sets G p0 p1 p2 p3 p4 ws (fun ws => ((p2 ≤ x6 → J203 x5 x7 x8 ws) ∧ (¬ p2 ≤ x6 → qR 7 16 p0 ws (fun v16 => qA (gc G 1) v16 x5 ws (fun v17 => (qV 7 p0 ws ∧ F_X7_adds G p0 v17 x6 p2 x8 ws (fun ws => J203 x5 x7 x8 ws))))))))) ∧ (¬ v14 = 0 → Q ws)))) → J164 x5 x6 x7 x8 t0 t1 ws) → (∀ (x5 : Int32) (x7 : Int32) (x8 : Int32) (ws : va_W), ((x7 ≤ p3 → Q ws) ∧ (¬ x7 ≤ p3 → qR 7 16 p0 ws (fun v19 => qA (gc G 1) v19 x5 ws (fun v20 => (qV 7 p0 ws ∧ F_X7_adds G p0 v20 p3 x7 x8 ws (fun ws => Q ws)))))) → J203 x5 x7 x8 ws) → qP 7 0 p0 (.int (0 : Int32)) ws (fun ws => (qV 7 p0 ws ∧ F_X7_noShare G p0 p1 ws (fun v1 ws => (qV 7 p0 ws ∧ F_X7_throwsIf G p0 v1 (1 : Int32) ws (fun v2 ws => ((¬ v2 = 0 → Q ws) ∧ (v2 = 0 → (qV 7 p0 ws ∧ F_X7_isLet G p0 p1 ws (fun v3 ws => (qV 7 p0 ws ∧ F_X7_throwsIf G p0 v3 (2 : Int32) ws (fun v4 ws => ((v4 = 0 → qR 7 16 p0 ws (fun v5 => qA (gc G 1) v5 (((7 : Int32) * p1) + (1 : Int32)) ws (fun v6 => qR 7 16 p0 ws (fun v7 => qA (gc G 1) v7 (((7 : Int32) * p1) + (2 : Int32)) ws (fun v8 => qR 7 16 p0 ws (fun v9 => qA (gc G 1) v9 (((7 : Int32) * p1) + (3 : Int32)) ws (fun v10 => (F_X7_noOwner G p4 ws (fun v11 ws => ((¬ v11 = 0 → J100 ((7 : Int32) * p1) v6 v8 v10 ws) ∧ (v11 = 0 → ((p2 < v6 → J100 ((7 : Int32) * p1) v6 v8 v10 ws) ∧ (¬ p2 < v6 → ((p3 ≤ p2 → J100 ((7 : Int32) * p1) v6 v8 v10 ws) ∧ (¬ p3 ≤ p2 → ((v8 < p3 → J100 ((7 : Int32) * p1) v6 v8 v10 ws) ∧ (¬ v8 < p3 → J101 ((7 : Int32) * p1) v6 v8 v10 (1 : Int32) ws))))))))))))))))) ∧ (¬ v4 = 0 → Q ws)))))))))))))
set_option maxRecDepth 20000 in
set_option maxHeartbeats 4000000 in
theorem m_X7_sell {G : Gx} (hst : (gl G).stackTraces = false) {p0 : Nat} {p1 : Int32} {p2 : Int32} {p3 : Int32} {p4 : Int32} {ws : va_W} {Q : va_W → Prop} (h : F_X7_sell G p0 p1 p2 p3 p4 ws Q) : Mt G yX7_sell wsX7_sell rm_X7_sell [.ref p0, .int p1, .int p2, .int p3, .int p4] ws (QtV G Q) := by
  refine mk_Mt (cc := cX7_sell) (nL := 11) (own := RX7) (ret := none) (lv0 := [some (.ref p0), some (.int p1), some (.int p2), some (.int p3), some (.int p4), none, none, none, none, none, none]) hst (by decide) rfl rfl (Nat.le_of_ble_eq_true rfl) rfl ?_
  intro K C F
  replace h := h (fun x5 x6 x7 x8 ws => Ev K G 11 0 0 100 [some (.ref p0), some (.int p1), some (.int p2), some (.int p3), some (.int p4), some (.int x5), some (.int x6), some (.int x7), some (.int x8), none, none] [] ws) (fun x5 x6 x7 x8 t0 ws => Ev K G 11 0 0 101 [some (.ref p0), some (.int p1), some (.int p2), some (.int p3), some (.int p4), some (.int x5), some (.int x6), some (.int x7), some (.int x8), none, none] [.int t0] ws) (fun x5 x6 x7 x8 x9 t0 ws => Ev K G 11 0 0 114 [some (.ref p0), some (.int p1), some (.int p2), some (.int p3), some (.int p4), some (.int x5), some (.int x6), some (.int x7), some (.int x8), some (.int x9), none] [.int t0] ws) (fun x5 x6 x7 x8 x9 t0 t1 ws => Ev K G 11 0 0 125 [some (.ref p0), some (.int p1), some (.int p2), some (.int p3), some (.int p4), some (.int x5), some (.int x6), some (.int x7), some (.int x8), some (.int x9), none] [.int t0, .int t1] ws) (fun x5 x6 x7 x8 x10 t0 t1 ws => Ev K G 11 0 0 139 [some (.ref p0), some (.int p1), some (.int p2), some (.int p3), some (.int p4), some (.int x5), some (.int x6), some (.int x7), some (.int x8), none, some (.int x10)] [.int t0, .ref t1] ws) (fun x5 x6 x7 x8 t0 t1 ws => Ev K G 11 0 0 164 [some (.ref p0), some (.int p1), some (.int p2), some (.int p3), some (.int p4), some (.int x5), some (.int x6), some (.int x7), some (.int x8), none, none] [.int t0, .ref t1] ws) (fun x5 x7 x8 ws => Ev K G 11 0 0 203 [some (.ref p0), none, none, some (.int p3), none, some (.int x5), none, some (.int x7), some (.int x8), none, none] [] ws)
  replace h := h (by
    intro x5 x6 x7 x8 ws h
    show Ev K G 11 0 0 100 [some (.ref p0), some (.int p1), some (.int p2), some (.int p3), some (.int p4), some (.int x5), some (.int x6), some (.int x7), some (.int x8), none, none] [] ws
    refine e_iconst C (v := (0 : Int32)) (by decide) dX7_sell_100 (pc' := 101) rfl ?_
    exact h)
  replace h := h (by
    intro x5 x6 x7 x8 t0 ws h
    show Ev K G 11 0 0 101 [some (.ref p0), some (.int p1), some (.int p2), some (.int p3), some (.int p4), some (.int x5), some (.int x6), some (.int x7), some (.int x8), none, none] [.int t0] ws
    refine e_istore C (by decide) dX7_sell_101 (pc' := 103) rfl (lv' := [some (.ref p0), some (.int p1), some (.int p2), some (.int p3), some (.int p4), some (.int x5), some (.int x6), some (.int x7), some (.int x8), some (.int t0), none]) rfl ?_
    refine e_iload_n C (x := p2) rfl dX7_sell_103 (pc' := 104) rfl ?_
    refine e_iload C (x := x6) rfl dX7_sell_104 (pc' := 106) rfl ?_
    refine e_icmp_le C (tg := 113) dX7_sell_106 (by decide) (pc' := 109) rfl (fun hc => ?_) (fun hc => ?_)
    · replace h := h.1 hc
      refine e_iconst C (v := (0 : Int32)) (by decide) dX7_sell_113 (pc' := 114) rfl ?_
      exact h
    · replace h := h.2 hc
      refine e_iconst C (v := (1 : Int32)) (by decide) dX7_sell_109 (pc' := 110) rfl ?_
      refine e_goto C (tg := 114) dX7_sell_110 (by decide) ?_
      exact h)
  replace h := h (by
    intro x5 x6 x7 x8 x9 t0 ws h
    show Ev K G 11 0 0 114 [some (.ref p0), some (.int p1), some (.int p2), some (.int p3), some (.int p4), some (.int x5), some (.int x6), some (.int x7), some (.int x8), some (.int x9), none] [.int t0] ws
    refine e_iload_n C (x := p3) rfl dX7_sell_114 (pc' := 115) rfl ?_
    refine e_iload C (x := x7) rfl dX7_sell_115 (pc' := 117) rfl ?_
    refine e_icmp_ge C (tg := 124) dX7_sell_117 (by decide) (pc' := 120) rfl (fun hc => ?_) (fun hc => ?_)
    · replace h := h.1 hc
      refine e_iconst C (v := (0 : Int32)) (by decide) dX7_sell_124 (pc' := 125) rfl ?_
      exact h
    · replace h := h.2 hc
      refine e_iconst C (v := (1 : Int32)) (by decide) dX7_sell_120 (pc' := 121) rfl ?_
      refine e_goto C (tg := 125) dX7_sell_121 (by decide) ?_
      exact h)
  replace h := h (by
    intro x5 x6 x7 x8 x9 t0 t1 ws h
    show Ev K G 11 0 0 125 [some (.ref p0), some (.int p1), some (.int p2), some (.int p3), some (.int p4), some (.int x5), some (.int x6), some (.int x7), some (.int x8), some (.int x9), none] [.int t0, .int t1] ws
    refine e_iadd C dX7_sell_125 (pc' := 126) rfl ?_
    refine e_istore C (by decide) dX7_sell_126 (pc' := 128) rfl (lv' := [some (.ref p0), some (.int p1), some (.int p2), some (.int p3), some (.int p4), some (.int x5), some (.int x6), some (.int x7), some (.int x8), some (.int x9), some (.int (t1 + t0))]) rfl ?_
    refine e_aload_n C (x := p0) rfl dX7_sell_128 (pc' := 129) rfl ?_
    refine e_iload C (x := x9) rfl dX7_sell_129 (pc' := 131) rfl ?_
    refine e_if_ne C (tg := 138) dX7_sell_131 (by decide) (pc' := 134) rfl (fun hc => ?_) (fun hc => ?_)
    · replace h := h.1 hc
      refine e_iconst C (v := (0 : Int32)) (by decide) dX7_sell_138 (pc' := 139) rfl ?_
      refine e_mask [true, true, true, true, true, true, true, true, true, false, true] (lv' := [some (.ref p0), some (.int p1), some (.int p2), some (.int p3), some (.int p4), some (.int x5), some (.int x6), some (.int x7), some (.int x8), none, some (.int (t1 + t0))]) rfl ?_
      exact h
    · replace h := h.2 hc
      refine e_iconst C (v := (1 : Int32)) (by decide) dX7_sell_134 (pc' := 135) rfl ?_
      refine e_goto C (tg := 139) dX7_sell_135 (by decide) ?_
      refine e_mask [true, true, true, true, true, true, true, true, true, false, true] (lv' := [some (.ref p0), some (.int p1), some (.int p2), some (.int p3), some (.int p4), some (.int x5), some (.int x6), some (.int x7), some (.int x8), none, some (.int (t1 + t0))]) rfl ?_
      exact h)
  replace h := h (by
    intro x5 x6 x7 x8 x10 t0 t1 ws h
    show Ev K G 11 0 0 139 [some (.ref p0), some (.int p1), some (.int p2), some (.int p3), some (.int p4), some (.int x5), some (.int x6), some (.int x7), some (.int x8), none, some (.int x10)] [.int t0, .ref t1] ws
    refine e_iconst C (v := (3 : Int32)) (by decide) dX7_sell_139 (pc' := 140) rfl ?_
    obtain ⟨hv, h⟩ := h
    refine e_calli (run_V (n := 2) C (m_X7_throwsIf hst h) gX7_sell_X7_throwsIf rfl ⟨rfl, by decide, by decide, by decide +kernel⟩ ⟨by decide, by decide⟩ (ci := 7) rfl rfl hv rfl (Nat.le_of_ble_eq_true rfl) dX7_sell_140 ⟨by decide, by decide⟩ (As := [.int t0, .int (3 : Int32)]) rfl) (pc' := 143) rfl (cn' := 0) (sn' := 0) rfl rfl (fun v12 ws h => ?_)
    refine e_if_ne C (tg := 171) dX7_sell_143 (by decide) (pc' := 146) rfl (fun hc => ?_) (fun hc => ?_)
    · replace h := h.1 hc
      exact r_void C F dX7_sell_171 (by decide) (by decide) h
    · replace h := h.2 hc
      refine e_aload_n C (x := p0) rfl dX7_sell_146 (pc' := 147) rfl ?_
      refine e_aload_n C (x := p0) rfl dX7_sell_147 (pc' := 148) rfl ?_
      refine f_getI C (ci := 7) (CN := RX7) (TT := TX7) (N := 36) 17 dX7_sell_148 (pc' := 151) rfl in_X7_sell_X7 rfl (by decide) fl_X7_sell_102 h (fun v13 h => ?_)
      refine e_iload C (x := x10) rfl dX7_sell_151 (pc' := 153) rfl ?_
      refine e_iadd C dX7_sell_153 (pc' := 154) rfl ?_
      refine e_bipush C (v := (60 : Int32)) (by decide) dX7_sell_154 (pc' := 156) rfl ?_
      refine e_icmp_le C (tg := 163) dX7_sell_156 (by decide) (pc' := 159) rfl (fun hc => ?_) (fun hc => ?_)
      · replace h := h.1 hc
        refine e_iconst C (v := (0 : Int32)) (by decide) dX7_sell_163 (pc' := 164) rfl ?_
        refine e_mask [true, true, true, true, true, true, true, true, true, false, false] (lv' := [some (.ref p0), some (.int p1), some (.int p2), some (.int p3), some (.int p4), some (.int x5), some (.int x6), some (.int x7), some (.int x8), none, none]) rfl ?_
        exact h
      · replace h := h.2 hc
        refine e_iconst C (v := (1 : Int32)) (by decide) dX7_sell_159 (pc' := 160) rfl ?_
        refine e_goto C (tg := 164) dX7_sell_160 (by decide) ?_
        refine e_mask [true, true, true, true, true, true, true, true, true, false, false] (lv' := [some (.ref p0), some (.int p1), some (.int p2), some (.int p3), some (.int p4), some (.int x5), some (.int x6), some (.int x7), some (.int x8), none, none]) rfl ?_
        exact h)
  replace h := h (by
    intro x5 x6 x7 x8 t0 t1 ws h
    show Ev K G 11 0 0 164 [some (.ref p0), some (.int p1), some (.int p2), some (.int p3), some (.int p4), some (.int x5), some (.int x6), some (.int x7), some (.int x8), none, none] [.int t0, .ref t1] ws
    refine e_iconst C (v := (4 : Int32)) (by decide) dX7_sell_164 (pc' := 165) rfl ?_
    obtain ⟨hv, h⟩ := h
    refine e_calli (run_V (n := 2) C (m_X7_throwsIf hst h) gX7_sell_X7_throwsIf rfl ⟨rfl, by decide, by decide, by decide +kernel⟩ ⟨by decide, by decide⟩ (ci := 7) rfl rfl hv rfl (Nat.le_of_ble_eq_true rfl) dX7_sell_165 ⟨by decide, by decide⟩ (As := [.int t0, .int (4 : Int32)]) rfl) (pc' := 168) rfl (cn' := 0) (sn' := 0) rfl rfl (fun v14 ws h => ?_)
    refine e_if_eq C (tg := 172) dX7_sell_168 (by decide) (pc' := 171) rfl (fun hc => ?_) (fun hc => ?_)
    · replace h := h.1 hc
      refine e_aload_n C (x := p0) rfl dX7_sell_172 (pc' := 173) rfl ?_
      refine e_iload_n C (x := p1) rfl dX7_sell_173 (pc' := 174) rfl ?_
      refine e_iload_n C (x := p2) rfl dX7_sell_174 (pc' := 175) rfl ?_
      refine e_iload_n C (x := p3) rfl dX7_sell_175 (pc' := 176) rfl ?_
      refine e_iload C (x := p4) rfl dX7_sell_176 (pc' := 178) rfl ?_
      obtain ⟨hv, h⟩ := h
      refine e_callv (run_V (n := 4) C (m_X7_sets hst h) gX7_sell_X7_sets rfl ⟨rfl, by decide, by decide, by decide +kernel⟩ ⟨by decide, by decide⟩ (ci := 7) rfl rfl hv rfl (Nat.le_of_ble_eq_true rfl) dX7_sell_178 ⟨by decide, by decide⟩ (As := [.int p1, .int p2, .int p3, .int p4]) rfl) (pc' := 181) rfl (cn' := 0) (sn' := 0) rfl rfl (fun ws h => ?_)
      refine e_iload_n C (x := p2) rfl dX7_sell_181 (pc' := 182) rfl ?_
      refine e_iload C (x := x6) rfl dX7_sell_182 (pc' := 184) rfl ?_
      refine e_icmp_le C (tg := 203) dX7_sell_184 (by decide) (pc' := 187) rfl (fun hc => ?_) (fun hc => ?_)
      · replace h := h.1 hc
        refine e_mask [true, false, false, true, false, true, false, true, true, false, false] (lv' := [some (.ref p0), none, none, some (.int p3), none, some (.int x5), none, some (.int x7), some (.int x8), none, none]) rfl ?_
        exact h
      · replace h := h.2 hc
        refine e_aload_n C (x := p0) rfl dX7_sell_187 (pc' := 188) rfl ?_
        refine e_aload_n C (x := p0) rfl dX7_sell_188 (pc' := 189) rfl ?_
        refine f_getR C (ci := 7) (CN := RX7) (TT := TX7) (N := 36) 16 dX7_sell_189 (pc' := 192) rfl in_X7_sell_X7 rfl (by decide) fl_X7_sell_45 h (fun v16 h => ?_)
        refine e_iload C (x := x5) rfl dX7_sell_192 (pc' := 194) rfl ?_
        refine f_iaload C dX7_sell_194 (pc' := 195) rfl h (fun v17 h => ?_)
        refine e_iload C (x := x6) rfl dX7_sell_195 (pc' := 197) rfl ?_
        refine e_iload_n C (x := p2) rfl dX7_sell_197 (pc' := 198) rfl ?_
        refine e_iload C (x := x8) rfl dX7_sell_198 (pc' := 200) rfl ?_
        obtain ⟨hv, h⟩ := h
        refine e_callv (run_V (n := 4) C (m_X7_adds hst h) gX7_sell_X7_adds rfl ⟨rfl, by decide, by decide, by decide +kernel⟩ ⟨by decide, by decide⟩ (ci := 7) rfl rfl hv rfl (Nat.le_of_ble_eq_true rfl) dX7_sell_200 ⟨by decide, by decide⟩ (As := [.int v17, .int x6, .int p2, .int x8]) rfl) (pc' := 203) rfl (cn' := 0) (sn' := 0) rfl rfl (fun ws h => ?_)
        refine e_mask [true, false, false, true, false, true, false, true, true, false, false] (lv' := [some (.ref p0), none, none, some (.int p3), none, some (.int x5), none, some (.int x7), some (.int x8), none, none]) rfl ?_
        exact h
    · replace h := h.2 hc
      exact r_void C F dX7_sell_171 (by decide) (by decide) h)
  replace h := h (by
    intro x5 x7 x8 ws h
    show Ev K G 11 0 0 203 [some (.ref p0), none, none, some (.int p3), none, some (.int x5), none, some (.int x7), some (.int x8), none, none] [] ws
    refine e_iload_n C (x := p3) rfl dX7_sell_203 (pc' := 204) rfl ?_
    refine e_iload C (x := x7) rfl dX7_sell_204 (pc' := 206) rfl ?_
    refine e_icmp_ge C (tg := 225) dX7_sell_206 (by decide) (pc' := 209) rfl (fun hc => ?_) (fun hc => ?_)
    · replace h := h.1 hc
      exact r_void C F dX7_sell_225 (by decide) (by decide) h
    · replace h := h.2 hc
      refine e_aload_n C (x := p0) rfl dX7_sell_209 (pc' := 210) rfl ?_
      refine e_aload_n C (x := p0) rfl dX7_sell_210 (pc' := 211) rfl ?_
      refine f_getR C (ci := 7) (CN := RX7) (TT := TX7) (N := 36) 16 dX7_sell_211 (pc' := 214) rfl in_X7_sell_X7 rfl (by decide) fl_X7_sell_45 h (fun v19 h => ?_)
      refine e_iload C (x := x5) rfl dX7_sell_214 (pc' := 216) rfl ?_
      refine f_iaload C dX7_sell_216 (pc' := 217) rfl h (fun v20 h => ?_)
      refine e_iload_n C (x := p3) rfl dX7_sell_217 (pc' := 218) rfl ?_
      refine e_iload C (x := x7) rfl dX7_sell_218 (pc' := 220) rfl ?_
      refine e_iload C (x := x8) rfl dX7_sell_220 (pc' := 222) rfl ?_
      obtain ⟨hv, h⟩ := h
      refine e_callv (run_V (n := 4) C (m_X7_adds hst h) gX7_sell_X7_adds rfl ⟨rfl, by decide, by decide, by decide +kernel⟩ ⟨by decide, by decide⟩ (ci := 7) rfl rfl hv rfl (Nat.le_of_ble_eq_true rfl) dX7_sell_222 ⟨by decide, by decide⟩ (As := [.int v20, .int p3, .int x7, .int x8]) rfl) (pc' := 225) rfl (cn' := 0) (sn' := 0) rfl rfl (fun ws h => ?_)
      exact r_void C F dX7_sell_225 (by decide) (by decide) h)
  refine e_aload_n C (x := p0) rfl dX7_sell_0 (pc' := 1) rfl ?_
  refine e_iconst C (v := (0 : Int32)) (by decide) dX7_sell_1 (pc' := 2) rfl ?_
  refine f_putI C (ci := 7) (CN := RX7) (TT := TX7) (N := 36) 0 tyX7 dX7_sell_2 (pc' := 5) rfl in_X7_sell_X7 tyX7_ok nmX7 rfl (by decide) fl_X7_sell_88 rfl (by decide +kernel) h (fun ws h => ?_)
  refine e_aload_n C (x := p0) rfl dX7_sell_5 (pc' := 6) rfl ?_
  refine e_aload_n C (x := p0) rfl dX7_sell_6 (pc' := 7) rfl ?_
  refine e_iload_n C (x := p1) rfl dX7_sell_7 (pc' := 8) rfl ?_
  obtain ⟨hv, h⟩ := h
  refine e_calli (run_V (n := 1) C (m_X7_noShare hst h) gX7_sell_X7_noShare rfl ⟨rfl, by decide, by decide, by decide +kernel⟩ ⟨by decide, by decide⟩ (ci := 7) rfl rfl hv rfl (Nat.le_of_ble_eq_true rfl) dX7_sell_8 ⟨by decide, by decide⟩ (As := [.int p1]) rfl) (pc' := 11) rfl (cn' := 0) (sn' := 0) rfl rfl (fun v1 ws h => ?_)
  refine e_iconst C (v := (1 : Int32)) (by decide) dX7_sell_11 (pc' := 12) rfl ?_
  obtain ⟨hv, h⟩ := h
  refine e_calli (run_V (n := 2) C (m_X7_throwsIf hst h) gX7_sell_X7_throwsIf rfl ⟨rfl, by decide, by decide, by decide +kernel⟩ ⟨by decide, by decide⟩ (ci := 7) rfl rfl hv rfl (Nat.le_of_ble_eq_true rfl) dX7_sell_12 ⟨by decide, by decide⟩ (As := [.int v1, .int (1 : Int32)]) rfl) (pc' := 15) rfl (cn' := 0) (sn' := 0) rfl rfl (fun v2 ws h => ?_)
  refine e_if_ne C (tg := 31) dX7_sell_15 (by decide) (pc' := 18) rfl (fun hc => ?_) (fun hc => ?_)
  · replace h := h.1 hc
    exact r_void C F dX7_sell_31 (by decide) (by decide) h
  · replace h := h.2 hc
    refine e_aload_n C (x := p0) rfl dX7_sell_18 (pc' := 19) rfl ?_
    refine e_aload_n C (x := p0) rfl dX7_sell_19 (pc' := 20) rfl ?_
    refine e_iload_n C (x := p1) rfl dX7_sell_20 (pc' := 21) rfl ?_
    obtain ⟨hv, h⟩ := h
    refine e_calli (run_V (n := 1) C (m_X7_isLet hst h) gX7_sell_X7_isLet rfl ⟨rfl, by decide, by decide, by decide +kernel⟩ ⟨by decide, by decide⟩ (ci := 7) rfl rfl hv rfl (Nat.le_of_ble_eq_true rfl) dX7_sell_21 ⟨by decide, by decide⟩ (As := [.int p1]) rfl) (pc' := 24) rfl (cn' := 0) (sn' := 0) rfl rfl (fun v3 ws h => ?_)
    refine e_iconst C (v := (2 : Int32)) (by decide) dX7_sell_24 (pc' := 25) rfl ?_
    obtain ⟨hv, h⟩ := h
    refine e_calli (run_V (n := 2) C (m_X7_throwsIf hst h) gX7_sell_X7_throwsIf rfl ⟨rfl, by decide, by decide, by decide +kernel⟩ ⟨by decide, by decide⟩ (ci := 7) rfl rfl hv rfl (Nat.le_of_ble_eq_true rfl) dX7_sell_25 ⟨by decide, by decide⟩ (As := [.int v3, .int (2 : Int32)]) rfl) (pc' := 28) rfl (cn' := 0) (sn' := 0) rfl rfl (fun v4 ws h => ?_)
    refine e_if_eq C (tg := 32) dX7_sell_28 (by decide) (pc' := 31) rfl (fun hc => ?_) (fun hc => ?_)
    · replace h := h.1 hc
      refine e_bipush C (v := (7 : Int32)) (by decide) dX7_sell_32 (pc' := 34) rfl ?_
      refine e_iload_n C (x := p1) rfl dX7_sell_34 (pc' := 35) rfl ?_
      refine e_imul C dX7_sell_35 (pc' := 36) rfl ?_
      refine e_istore C (by decide) dX7_sell_36 (pc' := 38) rfl (lv' := [some (.ref p0), some (.int p1), some (.int p2), some (.int p3), some (.int p4), some (.int ((7 : Int32) * p1)), none, none, none, none, none]) rfl ?_
      refine e_aload_n C (x := p0) rfl dX7_sell_38 (pc' := 39) rfl ?_
      refine f_getR C (ci := 7) (CN := RX7) (TT := TX7) (N := 36) 16 dX7_sell_39 (pc' := 42) rfl in_X7_sell_X7 rfl (by decide) fl_X7_sell_45 h (fun v5 h => ?_)
      refine e_iload C (x := ((7 : Int32) * p1)) rfl dX7_sell_42 (pc' := 44) rfl ?_
      refine e_iconst C (v := (1 : Int32)) (by decide) dX7_sell_44 (pc' := 45) rfl ?_
      refine e_iadd C dX7_sell_45 (pc' := 46) rfl ?_
      refine f_iaload C dX7_sell_46 (pc' := 47) rfl h (fun v6 h => ?_)
      refine e_istore C (by decide) dX7_sell_47 (pc' := 49) rfl (lv' := [some (.ref p0), some (.int p1), some (.int p2), some (.int p3), some (.int p4), some (.int ((7 : Int32) * p1)), some (.int v6), none, none, none, none]) rfl ?_
      refine e_aload_n C (x := p0) rfl dX7_sell_49 (pc' := 50) rfl ?_
      refine f_getR C (ci := 7) (CN := RX7) (TT := TX7) (N := 36) 16 dX7_sell_50 (pc' := 53) rfl in_X7_sell_X7 rfl (by decide) fl_X7_sell_45 h (fun v7 h => ?_)
      refine e_iload C (x := ((7 : Int32) * p1)) rfl dX7_sell_53 (pc' := 55) rfl ?_
      refine e_iconst C (v := (2 : Int32)) (by decide) dX7_sell_55 (pc' := 56) rfl ?_
      refine e_iadd C dX7_sell_56 (pc' := 57) rfl ?_
      refine f_iaload C dX7_sell_57 (pc' := 58) rfl h (fun v8 h => ?_)
      refine e_istore C (by decide) dX7_sell_58 (pc' := 60) rfl (lv' := [some (.ref p0), some (.int p1), some (.int p2), some (.int p3), some (.int p4), some (.int ((7 : Int32) * p1)), some (.int v6), some (.int v8), none, none, none]) rfl ?_
      refine e_aload_n C (x := p0) rfl dX7_sell_60 (pc' := 61) rfl ?_
      refine f_getR C (ci := 7) (CN := RX7) (TT := TX7) (N := 36) 16 dX7_sell_61 (pc' := 64) rfl in_X7_sell_X7 rfl (by decide) fl_X7_sell_45 h (fun v9 h => ?_)
      refine e_iload C (x := ((7 : Int32) * p1)) rfl dX7_sell_64 (pc' := 66) rfl ?_
      refine e_iconst C (v := (3 : Int32)) (by decide) dX7_sell_66 (pc' := 67) rfl ?_
      refine e_iadd C dX7_sell_67 (pc' := 68) rfl ?_
      refine f_iaload C dX7_sell_68 (pc' := 69) rfl h (fun v10 h => ?_)
      refine e_istore C (by decide) dX7_sell_69 (pc' := 71) rfl (lv' := [some (.ref p0), some (.int p1), some (.int p2), some (.int p3), some (.int p4), some (.int ((7 : Int32) * p1)), some (.int v6), some (.int v8), some (.int v10), none, none]) rfl ?_
      refine e_iload C (x := p4) rfl dX7_sell_71 (pc' := 73) rfl ?_
      refine e_calli (run_S (n := 1) C (m_X7_noOwner hst h) gX7_sell_X7_noOwner rfl ⟨rfl, by decide, by decide, by decide +kernel⟩ ⟨by decide, by decide⟩ rfl (Nat.le_of_ble_eq_true rfl) dX7_sell_73 ⟨by decide, by decide⟩ (As := [.int p4]) rfl) (pc' := 76) rfl (cn' := 0) (sn' := 0) rfl rfl (fun v11 ws h => ?_)
      refine e_if_ne C (tg := 100) dX7_sell_76 (by decide) (pc' := 79) rfl (fun hc => ?_) (fun hc => ?_)
      · replace h := h.1 hc
        exact h
      · replace h := h.2 hc
        refine e_iload_n C (x := p2) rfl dX7_sell_79 (pc' := 80) rfl ?_
        refine e_iload C (x := v6) rfl dX7_sell_80 (pc' := 82) rfl ?_
        refine e_icmp_lt C (tg := 100) dX7_sell_82 (by decide) (pc' := 85) rfl (fun hc => ?_) (fun hc => ?_)
        · replace h := h.1 hc
          exact h
        · replace h := h.2 hc
          refine e_iload_n C (x := p2) rfl dX7_sell_85 (pc' := 86) rfl ?_
          refine e_iload_n C (x := p3) rfl dX7_sell_86 (pc' := 87) rfl ?_
          refine e_icmp_ge C (tg := 100) dX7_sell_87 (by decide) (pc' := 90) rfl (fun hc => ?_) (fun hc => ?_)
          · replace h := h.1 hc
            exact h
          · replace h := h.2 hc
            refine e_iload_n C (x := p3) rfl dX7_sell_90 (pc' := 91) rfl ?_
            refine e_iload C (x := v8) rfl dX7_sell_91 (pc' := 93) rfl ?_
            refine e_icmp_gt C (tg := 100) dX7_sell_93 (by decide) (pc' := 96) rfl (fun hc => ?_) (fun hc => ?_)
            · replace h := h.1 hc
              exact h
            · replace h := h.2 hc
              refine e_iconst C (v := (1 : Int32)) (by decide) dX7_sell_96 (pc' := 97) rfl ?_
              refine e_goto C (tg := 101) dX7_sell_97 (by decide) ?_
              exact h
    · replace h := h.2 hc
      exact r_void C F dX7_sell_31 (by decide) (by decide) h
abbrev rm_X7_heirs : Room := { frames := 2, cells := 0, slots := 0, locals := 49 }
set_option maxRecDepth 20000 in
theorem in_X7_heirs_X7 : ∀ w ∈ wsX70, w ∈ wsX7_heirs := by decide +kernel
set_option maxRecDepth 20000 in
theorem fl_X7_heirs_88 : Cond.fieldLink RX7 88 (TX7 0).1 (TX7 0).2.1 (TX7 0).2.2.1 ∈ wsX7_heirs := by decide +kernel
set_option maxRecDepth 20000 in
theorem fl_X7_heirs_48 : Cond.fieldLink RX7 48 (TX7 18).1 (TX7 18).2.1 (TX7 18).2.2.1 ∈ wsX7_heirs := by decide +kernel
set_option maxRecDepth 20000 in
theorem fl_X7_heirs_51 : Cond.fieldLink RX7 51 (TX7 19).1 (TX7 19).2.1 (TX7 19).2.2.1 ∈ wsX7_heirs := by decide +kernel
set_option maxRecDepth 20000 in
theorem fl_X7_heirs_45 : Cond.fieldLink RX7 45 (TX7 16).1 (TX7 16).2.1 (TX7 16).2.2.1 ∈ wsX7_heirs := by decide +kernel
set_option maxRecDepth 20000 in
theorem fl_X7_heirs_54 : Cond.fieldLink RX7 54 (TX7 20).1 (TX7 20).2.1 (TX7 20).2.2.1 ∈ wsX7_heirs := by decide +kernel
set_option maxRecDepth 20000 in
theorem fl_X7_heirs_102 : Cond.fieldLink RX7 102 (TX7 17).1 (TX7 17).2.1 (TX7 17).2.2.1 ∈ wsX7_heirs := by decide +kernel
def F_X7_heirs (G : Gx) (p0 : Nat) (p1 : Int32) (p2 : Int32) (p3 : Int32) (p4 : Int32) (p5 : Int32) (p6 : Int32) (p7 : Int32) (p8 : Int32) (p9 : Int32) (p10 : Int32) (ws : va_W) (Q : Int32 → va_W → Prop) : Prop := ∀ (J107 : Int32 → Int32 → va_W → Prop), ∀ (J160 : Int32 → va_W → Prop), ∀ (J151 : Int32 → va_W → Prop), ∀ (J152 : Int32 → Int32 → va_W → Prop), ∀ (J171 : Int32 → Nat → va_W → Prop), ∀ (J217 : Int32 → Int32 → Int32 → Int32 → Int32 → va_W → Prop), ∀ (J248 : Int32 → Int32 → Int32 → Int32 → Int32 → Int32 → va_W → Prop), ∀ (J298 : Int32 → Int32 → Int32 → Int32 → Int32 → va_W → Prop), ∀ (J372 : Int32 → Int32 → Int32 → Int32 → Nat → va_W → Prop), ∀ (J324 : Int32 → Int32 → Int32 → Int32 → Int32 → Int32 → Int32 → Int32 → Nat → va_W → Prop), ∀ (J387 : Int32 → Int32 → Int32 → Int32 → Int32 → va_W → Prop), ∀ (J343 : Int32 → Int32 → Int32 → Int32 → Int32 → Int32 → va_W → Prop), ∀ (J468 : Int32 → Int32 → Int32 → Int32 → va_W → Prop), ∀ (J483 : Int32 → Int32 → Int32 → Int32 → Int32 → va_W → Prop), (∀ (x11 : Int32) (x12 : Int32) (ws : va_W), ((x11 = 0 → J160 x11 ws) ∧ (¬ x11 = 0 → ((p2 ≤ x12 → J160 x11 ws) ∧ (¬ p2 ≤ x12 → qR 7 18 p0 ws (fun v14 => qA (gc G 1) v14 x12 ws (fun v15 => (F_X7_noOwner G v15 ws (fun v16 ws => ((¬ v16 = 0 → J151 x12 ws) ∧ (v16 = 0 → qR 7 19 p0 ws (fun v17 => qA (gc G 1) v17 x12 ws (fun v18 => (F_X7_in G v18 (1 : Int32) (100 : Int32) ws (fun v19 ws => ((v19 = 0 → J151 x12 ws) ∧ (¬ v19 = 0 → J152 x12 (1 : Int32) ws)))))))))))))))) → J107 x11 x12 ws) → (∀ (x11 : Int32) (ws : va_W), ((¬ x11 = 0 → J171 (0 : Int32) p0 ws) ∧ (x11 = 0 → J171 (1 : Int32) p0 ws)) → J160 x11 ws) → (∀ (x12 : Int32) (ws : va_W), J152 x12 (0 : Int32) ws → J151 x12 ws) → (∀ (x12 : Int32) (t0 : Int32) (ws : va_W), J107 t0 (x12 + (1 : Int32)) ws → J152 x12 t0 ws) → (∀ (t0 : Int32) (t1 : Nat) (ws : va_W), (qV 7 t1 ws ∧ F_X7_throwsIf G t1 t0 (3 : Int32) ws (fun v20 ws => ((v20 = 0 → qR 7 16 p0 ws (fun v21 => qA (gc G 1) v21 (((7 : Int32) * p1) + (1 : Int32)) ws (fun v22 => qR 7 16 p0 ws (fun v23 => qA (gc G 1) v23 (((7 : Int32) * p1) + (2 : Int32)) ws (fun v24 => J217 ((7 : Int32) * p1) v22 (v24 - v22) (0 : Int32) (0 : Int32) ws))))) ∧ (¬ v20 = 0 → Q (0 : Int32) ws)))) → J171 t0 t1 ws) → (∀ (x12 : Int32) (x13 : Int32) (x14 : Int32) (x15 : Int32) (x16 : Int32) (ws : va_W), ((p2 ≤ x16 → J248 x12 x13 x14 x15 x14 (0 : Int32) ws) ∧ (¬ p2 ≤ x16 → qR 7 19 p0 ws (fun v25 => qA (gc G 1) v25 x16 ws (fun v26 => J217 x12 x13 x14 (x15 + v26) (x16 + (1 : Int32)) ws)))) → J217 x12 x13 x14 x15 x16 ws) → (∀ (x12 : Int32) (x13 : Int32) (x14 : Int32) (x15 : Int32) (x16 : Int32) (x17 : Int32) (ws : va_W), ((p2 ≤ x17 → J298 x12 x13 x16 (0 : Int32) (0 : Int32) ws) ∧ (¬ p2 ≤ x17 → qR 7 20 p0 ws (fun v27 => qR 7 19 p0 ws (fun v28 => qA (gc G 1) v28 x17 ws (fun v29 => (¬ x15 = 0 ∧ (qS (gc G 1) v27 x17 ((x14 * v29) / x15) ws (fun ws => qR 7 20 p0 ws (fun v30 => qA (gc G 1) v30 x17 ws (fun v31 => J248 x12 x13 x14 x15 (x16 - v31) (x17 + (1 : Int32)) ws)))))))))) → J248 x12 x13 x14 x15 x16 x17 ws) → (∀ (x12 : Int32) (x13 : Int32) (x16 : Int32) (x17 : Int32) (x18 : Int32) (ws : va_W), ((p2 ≤ x18 → qI 7 17 p0 ws (fun v32 => ((((v32 + x17) - (1 : Int32)) ≤ (60 : Int32) → J372 x12 x13 x17 (0 : Int32) p0 ws) ∧ (¬ ((v32 + x17) - (1 : Int32)) ≤ (60 : Int32) → J372 x12 x13 x17 (1 : Int32) p0 ws)))) ∧ (¬ p2 ≤ x18 → qR 7 20 p0 ws (fun v33 => qA (gc G 1) v33 x18 ws (fun v34 => ((x16 ≤ x18 → J324 x12 x13 x16 x17 x18 (0 : Int32) v34 x18 v33 ws) ∧ (¬ x16 ≤ x18 → J324 x12 x13 x16 x17 x18 (1 : Int32) v34 x18 v33 ws)))))) → J298 x12 x13 x16 x17 x18 ws) → (∀ (x12 : Int32) (x13 : Int32) (x17 : Int32) (t0 : Int32) (t1 : Nat) (ws : va_W), (qV 7 t1 ws ∧ F_X7_throwsIf G t1 t0 (4 : Int32) ws (fun v35 ws => ((v35 = 0 → J387 x12 x13 x17 (1 : Int32) (0 : Int32) ws) ∧ (¬ v35 = 0 → Q (0 : Int32) ws)))) → J372 x12 x13 x17 t0 t1 ws) → (∀ (x12 : Int32) (x13 : Int32) (x16 : Int32) (x17 : Int32) (x18 : Int32) (t0 : Int32) (t1 : Int32) (t2 : Int32) (t3 : Nat) (ws : va_W), qS (gc G 1) t3 t2 (t1 + t0) ws (fun ws => qR 7 20 p0 ws (fun v36 => qA (gc G 1) v36 x18 ws (fun v37 => ((v37 ≤ 0 → J343 x12 x13 x16 x18 (0 : Int32) x17 ws) ∧ (¬ v37 ≤ 0 → J343 x12 x13 x16 x18 (1 : Int32) x17 ws))))) → J324 x12 x13 x16 x17 x18 t0 t1 t2 t3 ws) → (∀ (x12 : Int32) (x13 : Int32) (x17 : Int32) (x18 : Int32) (x19 : Int32) (ws : va_W), ((p2 ≤ x19 → Q x17 ws) ∧ (¬ p2 ≤ x19 → qR 7 20 p0 ws (fun v38 => qA (gc G 1) v38 x19 ws (fun v39 => ((¬ v39 = 0 → ((x18 = 0 → qR 7 16 p0 ws (fun v40 => qA (gc G 1) v40 x12 ws (fun v41 => qR 7 20 p0 ws (fun v42 => qA (gc G 1) v42 x19 ws (fun v43 => qR 7 18 p0 ws (fun v44 => qA (gc G 1) v44 x19 ws (fun v45 => (qV 7 p0 ws ∧ F_X7_adds G p0 v41 x13 (x13 + v43) v45 ws (fun ws => J468 x12 x13 x17 x19 ws))))))))) ∧ (¬ x18 = 0 → qR 7 20 p0 ws (fun v47 => qA (gc G 1) v47 x19 ws (fun v48 => qR 7 18 p0 ws (fun v49 => qA (gc G 1) v49 x19 ws (fun v50 => (qV 7 p0 ws ∧ F_X7_sets G p0 p1 x13 (x13 + v48) v50 ws (fun ws => J468 x12 x13 x17 x19 ws))))))))) ∧ (v39 = 0 → J483 x12 x13 x17 x18 x19 ws)))))) → J387 x12 x13 x17 x18 x19 ws) → (∀ (x12 : Int32) (x13 : Int32) (x16 : Int32) (x18 : Int32) (t0 : Int32) (t1 : Int32) (ws : va_W), J298 x12 x13 x16 (t1 + t0) (x18 + (1 : Int32)) ws → J343 x12 x13 x16 x18 t0 t1 ws) → (∀ (x12 : Int32) (x13 : Int32) (x17 : Int32) (x19 : Int32) (ws : va_W), qR 7 20 p0 ws (fun v52 => qA (gc G 1) v52 x19 ws (fun v53 => J483 x12 (x13 + v53) x17 (0 : Int32) x19 ws)) → J468 x12 x13 x17 x19 ws) → (∀ (x12 : Int32) (x13 : Int32) (x17 : Int32) (x18 : Int32) (x19 : Int32) (ws : va_W), J387 x12 x13 x17 x18 (x19 + (1 : Int32)) ws → J483 x12 x13 x17 x18 x19 ws) → qP 7 0 p0 (.int (0 : Int32)) ws (fun ws => (qV 7 p0 ws ∧ F_X7_noShare G p0 p1 ws (fun v1 ws => (qV 7 p0 ws ∧ F_X7_throwsIf G p0 v1 (1 : Int32) ws (fun v2 ws => ((¬ v2 = 0 → Q (0 : Int32) ws) ∧ (v2 = 0 → (qV 7 p0 ws ∧ F_X7_isLet G p0 p1 ws (fun v3 ws => (qV 7 p0 ws ∧ F_X7_throwsIf G p0 v3 (2 : Int32) ws (fun v4 ws => ((v4 = 0 → qR 7 18 p0 ws (fun v5 => qS (gc G 1) v5 (0 : Int32) p3 ws (fun ws => qR 7 18 p0 ws (fun v6 => qS (gc G 1) v6 (1 : Int32) p5 ws (fun ws => qR 7 18 p0 ws (fun v7 => qS (gc G 1) v7 (2 : Int32) p7 ws (fun ws => qR 7 18 p0 ws (fun v8 => qS (gc G 1) v8 (3 : Int32) p9 ws (fun ws => qR 7 19 p0 ws (fun v9 => qS (gc G 1) v9 (0 : Int32) p4 ws (fun ws => qR 7 19 p0 ws (fun v10 => qS (gc G 1) v10 (1 : Int32) p6 ws (fun ws => qR 7 19 p0 ws (fun v11 => qS (gc G 1) v11 (2 : Int32) p8 ws (fun ws => qR 7 19 p0 ws (fun v12 => qS (gc G 1) v12 (3 : Int32) p10 ws (fun ws => (F_X7_in G p2 (2 : Int32) (4 : Int32) ws (fun v13 ws => J107 v13 (0 : Int32) ws))))))))))))))))))) ∧ (¬ v4 = 0 → Q (0 : Int32) ws)))))))))))))
set_option maxRecDepth 20000 in
set_option maxHeartbeats 4000000 in
theorem m_X7_heirs {G : Gx} (hst : (gl G).stackTraces = false) {p0 : Nat} {p1 : Int32} {p2 : Int32} {p3 : Int32} {p4 : Int32} {p5 : Int32} {p6 : Int32} {p7 : Int32} {p8 : Int32} {p9 : Int32} {p10 : Int32} {ws : va_W} {Q : Int32 → va_W → Prop} (h : F_X7_heirs G p0 p1 p2 p3 p4 p5 p6 p7 p8 p9 p10 ws Q) : Mt G yX7_heirs wsX7_heirs rm_X7_heirs [.ref p0, .int p1, .int p2, .int p3, .int p4, .int p5, .int p6, .int p7, .int p8, .int p9, .int p10] ws (QtI G Q) := by
  refine mk_Mt (cc := cX7_heirs) (nL := 20) (own := RX7) (ret := (some .int)) (lv0 := [some (.ref p0), some (.int p1), some (.int p2), some (.int p3), some (.int p4), some (.int p5), some (.int p6), some (.int p7), some (.int p8), some (.int p9), some (.int p10), none, none, none, none, none, none, none, none, none]) hst (by decide) rfl rfl (Nat.le_of_ble_eq_true rfl) rfl ?_
  intro K C F
  replace h := h (fun x11 x12 ws => Ev K G 20 0 0 107 [some (.ref p0), some (.int p1), some (.int p2), none, none, none, none, none, none, none, none, some (.int x11), some (.int x12), none, none, none, none, none, none, none] [] ws) (fun x11 ws => Ev K G 20 0 0 160 [some (.ref p0), some (.int p1), some (.int p2), none, none, none, none, none, none, none, none, some (.int x11), none, none, none, none, none, none, none, none] [] ws) (fun x12 ws => Ev K G 20 0 0 151 [some (.ref p0), some (.int p1), some (.int p2), none, none, none, none, none, none, none, none, none, some (.int x12), none, none, none, none, none, none, none] [] ws) (fun x12 t0 ws => Ev K G 20 0 0 152 [some (.ref p0), some (.int p1), some (.int p2), none, none, none, none, none, none, none, none, none, some (.int x12), none, none, none, none, none, none, none] [.int t0] ws) (fun t0 t1 ws => Ev K G 20 0 0 171 [some (.ref p0), some (.int p1), some (.int p2), none, none, none, none, none, none, none, none, none, none, none, none, none, none, none, none, none] [.int t0, .ref t1] ws) (fun x12 x13 x14 x15 x16 ws => Ev K G 20 0 0 217 [some (.ref p0), some (.int p1), some (.int p2), none, none, none, none, none, none, none, none, none, some (.int x12), some (.int x13), some (.int x14), some (.int x15), some (.int x16), none, none, none] [] ws) (fun x12 x13 x14 x15 x16 x17 ws => Ev K G 20 0 0 248 [some (.ref p0), some (.int p1), some (.int p2), none, none, none, none, none, none, none, none, none, some (.int x12), some (.int x13), some (.int x14), some (.int x15), some (.int x16), some (.int x17), none, none] [] ws) (fun x12 x13 x16 x17 x18 ws => Ev K G 20 0 0 298 [some (.ref p0), some (.int p1), some (.int p2), none, none, none, none, none, none, none, none, none, some (.int x12), some (.int x13), none, none, some (.int x16), some (.int x17), some (.int x18), none] [] ws) (fun x12 x13 x17 t0 t1 ws => Ev K G 20 0 0 372 [some (.ref p0), some (.int p1), some (.int p2), none, none, none, none, none, none, none, none, none, some (.int x12), some (.int x13), none, none, none, some (.int x17), none, none] [.int t0, .ref t1] ws) (fun x12 x13 x16 x17 x18 t0 t1 t2 t3 ws => Ev K G 20 0 0 324 [some (.ref p0), some (.int p1), some (.int p2), none, none, none, none, none, none, none, none, none, some (.int x12), some (.int x13), none, none, some (.int x16), some (.int x17), some (.int x18), none] [.int t0, .int t1, .int t2, .ref t3] ws) (fun x12 x13 x17 x18 x19 ws => Ev K G 20 0 0 387 [some (.ref p0), some (.int p1), some (.int p2), none, none, none, none, none, none, none, none, none, some (.int x12), some (.int x13), none, none, none, some (.int x17), some (.int x18), some (.int x19)] [] ws) (fun x12 x13 x16 x18 t0 t1 ws => Ev K G 20 0 0 343 [some (.ref p0), some (.int p1), some (.int p2), none, none, none, none, none, none, none, none, none, some (.int x12), some (.int x13), none, none, some (.int x16), none, some (.int x18), none] [.int t0, .int t1] ws) (fun x12 x13 x17 x19 ws => Ev K G 20 0 0 468 [some (.ref p0), some (.int p1), some (.int p2), none, none, none, none, none, none, none, none, none, some (.int x12), some (.int x13), none, none, none, some (.int x17), none, some (.int x19)] [] ws) (fun x12 x13 x17 x18 x19 ws => Ev K G 20 0 0 483 [some (.ref p0), some (.int p1), some (.int p2), none, none, none, none, none, none, none, none, none, some (.int x12), some (.int x13), none, none, none, some (.int x17), some (.int x18), some (.int x19)] [] ws)
  replace h := h (by
    intro x11 x12 ws h
    show Ev K G 20 0 0 107 [some (.ref p0), some (.int p1), some (.int p2), none, none, none, none, none, none, none, none, some (.int x11), some (.int x12), none, none, none, none, none, none, none] [] ws
    refine e_iload C (x := x11) rfl dX7_heirs_107 (pc' := 109) rfl ?_
    refine e_if_eq C (tg := 160) dX7_heirs_109 (by decide) (pc' := 112) rfl (fun hc => ?_) (fun hc => ?_)
    · replace h := h.1 hc
      refine e_mask [true, true, true, false, false, false, false, false, false, false, false, true, false, false, false, false, false, false, false, false] (lv' := [some (.ref p0), some (.int p1), some (.int p2), none, none, none, none, none, none, none, none, some (.int x11), none, none, none, none, none, none, none, none]) rfl ?_
      exact h
    · replace h := h.2 hc
      refine e_iload C (x := x12) rfl dX7_heirs_112 (pc' := 114) rfl ?_
      refine e_iload_n C (x := p2) rfl dX7_heirs_114 (pc' := 115) rfl ?_
      refine e_icmp_ge C (tg := 160) dX7_heirs_115 (by decide) (pc' := 118) rfl (fun hc => ?_) (fun hc => ?_)
      · replace h := h.1 hc
        refine e_mask [true, true, true, false, false, false, false, false, false, false, false, true, false, false, false, false, false, false, false, false] (lv' := [some (.ref p0), some (.int p1), some (.int p2), none, none, none, none, none, none, none, none, some (.int x11), none, none, none, none, none, none, none, none]) rfl ?_
        exact h
      · replace h := h.2 hc
        refine e_aload_n C (x := p0) rfl dX7_heirs_118 (pc' := 119) rfl ?_
        refine f_getR C (ci := 7) (CN := RX7) (TT := TX7) (N := 36) 18 dX7_heirs_119 (pc' := 122) rfl in_X7_heirs_X7 rfl (by decide) fl_X7_heirs_48 h (fun v14 h => ?_)
        refine e_iload C (x := x12) rfl dX7_heirs_122 (pc' := 124) rfl ?_
        refine f_iaload C dX7_heirs_124 (pc' := 125) rfl h (fun v15 h => ?_)
        refine e_calli (run_S (n := 1) C (m_X7_noOwner hst h) gX7_heirs_X7_noOwner rfl ⟨rfl, by decide, by decide, by decide +kernel⟩ ⟨by decide, by decide⟩ rfl (Nat.le_of_ble_eq_true rfl) dX7_heirs_125 ⟨by decide, by decide⟩ (As := [.int v15]) rfl) (pc' := 128) rfl (cn' := 0) (sn' := 0) rfl rfl (fun v16 ws h => ?_)
        refine e_if_ne C (tg := 151) dX7_heirs_128 (by decide) (pc' := 131) rfl (fun hc => ?_) (fun hc => ?_)
        · replace h := h.1 hc
          refine e_mask [true, true, true, false, false, false, false, false, false, false, false, false, true, false, false, false, false, false, false, false] (lv' := [some (.ref p0), some (.int p1), some (.int p2), none, none, none, none, none, none, none, none, none, some (.int x12), none, none, none, none, none, none, none]) rfl ?_
          exact h
        · replace h := h.2 hc
          refine e_aload_n C (x := p0) rfl dX7_heirs_131 (pc' := 132) rfl ?_
          refine f_getR C (ci := 7) (CN := RX7) (TT := TX7) (N := 36) 19 dX7_heirs_132 (pc' := 135) rfl in_X7_heirs_X7 rfl (by decide) fl_X7_heirs_51 h (fun v17 h => ?_)
          refine e_iload C (x := x12) rfl dX7_heirs_135 (pc' := 137) rfl ?_
          refine f_iaload C dX7_heirs_137 (pc' := 138) rfl h (fun v18 h => ?_)
          refine e_iconst C (v := (1 : Int32)) (by decide) dX7_heirs_138 (pc' := 139) rfl ?_
          refine e_bipush C (v := (100 : Int32)) (by decide) dX7_heirs_139 (pc' := 141) rfl ?_
          refine e_calli (run_S (n := 3) C (m_X7_in hst h) gX7_heirs_X7_in rfl ⟨rfl, by decide, by decide, by decide +kernel⟩ ⟨by decide, by decide⟩ rfl (Nat.le_of_ble_eq_true rfl) dX7_heirs_141 ⟨by decide, by decide⟩ (As := [.int v18, .int (1 : Int32), .int (100 : Int32)]) rfl) (pc' := 144) rfl (cn' := 0) (sn' := 0) rfl rfl (fun v19 ws h => ?_)
          refine e_if_eq C (tg := 151) dX7_heirs_144 (by decide) (pc' := 147) rfl (fun hc => ?_) (fun hc => ?_)
          · replace h := h.1 hc
            refine e_mask [true, true, true, false, false, false, false, false, false, false, false, false, true, false, false, false, false, false, false, false] (lv' := [some (.ref p0), some (.int p1), some (.int p2), none, none, none, none, none, none, none, none, none, some (.int x12), none, none, none, none, none, none, none]) rfl ?_
            exact h
          · replace h := h.2 hc
            refine e_iconst C (v := (1 : Int32)) (by decide) dX7_heirs_147 (pc' := 148) rfl ?_
            refine e_goto C (tg := 152) dX7_heirs_148 (by decide) ?_
            refine e_mask [true, true, true, false, false, false, false, false, false, false, false, false, true, false, false, false, false, false, false, false] (lv' := [some (.ref p0), some (.int p1), some (.int p2), none, none, none, none, none, none, none, none, none, some (.int x12), none, none, none, none, none, none, none]) rfl ?_
            exact h)
  replace h := h (by
    intro x11 ws h
    show Ev K G 20 0 0 160 [some (.ref p0), some (.int p1), some (.int p2), none, none, none, none, none, none, none, none, some (.int x11), none, none, none, none, none, none, none, none] [] ws
    refine e_aload_n C (x := p0) rfl dX7_heirs_160 (pc' := 161) rfl ?_
    refine e_iload C (x := x11) rfl dX7_heirs_161 (pc' := 163) rfl ?_
    refine e_if_ne C (tg := 170) dX7_heirs_163 (by decide) (pc' := 166) rfl (fun hc => ?_) (fun hc => ?_)
    · replace h := h.1 hc
      refine e_iconst C (v := (0 : Int32)) (by decide) dX7_heirs_170 (pc' := 171) rfl ?_
      refine e_mask [true, true, true, false, false, false, false, false, false, false, false, false, false, false, false, false, false, false, false, false] (lv' := [some (.ref p0), some (.int p1), some (.int p2), none, none, none, none, none, none, none, none, none, none, none, none, none, none, none, none, none]) rfl ?_
      exact h
    · replace h := h.2 hc
      refine e_iconst C (v := (1 : Int32)) (by decide) dX7_heirs_166 (pc' := 167) rfl ?_
      refine e_goto C (tg := 171) dX7_heirs_167 (by decide) ?_
      refine e_mask [true, true, true, false, false, false, false, false, false, false, false, false, false, false, false, false, false, false, false, false] (lv' := [some (.ref p0), some (.int p1), some (.int p2), none, none, none, none, none, none, none, none, none, none, none, none, none, none, none, none, none]) rfl ?_
      exact h)
  replace h := h (by
    intro x12 ws h
    show Ev K G 20 0 0 151 [some (.ref p0), some (.int p1), some (.int p2), none, none, none, none, none, none, none, none, none, some (.int x12), none, none, none, none, none, none, none] [] ws
    refine e_iconst C (v := (0 : Int32)) (by decide) dX7_heirs_151 (pc' := 152) rfl ?_
    exact h)
  replace h := h (by
    intro x12 t0 ws h
    show Ev K G 20 0 0 152 [some (.ref p0), some (.int p1), some (.int p2), none, none, none, none, none, none, none, none, none, some (.int x12), none, none, none, none, none, none, none] [.int t0] ws
    refine e_istore C (by decide) dX7_heirs_152 (pc' := 154) rfl (lv' := [some (.ref p0), some (.int p1), some (.int p2), none, none, none, none, none, none, none, none, some (.int t0), some (.int x12), none, none, none, none, none, none, none]) rfl ?_
    refine e_iinc C dX7_heirs_154 (x := x12) (v := (x12 + (1 : Int32))) rfl rfl (by decide) (pc' := 157) rfl (lv' := [some (.ref p0), some (.int p1), some (.int p2), none, none, none, none, none, none, none, none, some (.int t0), some (.int (x12 + (1 : Int32))), none, none, none, none, none, none, none]) rfl ?_
    refine e_goto C (tg := 107) dX7_heirs_157 (by decide) ?_
    exact h)
  replace h := h (by
    intro t0 t1 ws h
    show Ev K G 20 0 0 171 [some (.ref p0), some (.int p1), some (.int p2), none, none, none, none, none, none, none, none, none, none, none, none, none, none, none, none, none] [.int t0, .ref t1] ws
    refine e_iconst C (v := (3 : Int32)) (by decide) dX7_heirs_171 (pc' := 172) rfl ?_
    obtain ⟨hv, h⟩ := h
    refine e_calli (run_V (n := 2) C (m_X7_throwsIf hst h) gX7_heirs_X7_throwsIf rfl ⟨rfl, by decide, by decide, by decide +kernel⟩ ⟨by decide, by decide⟩ (ci := 7) rfl rfl hv rfl (Nat.le_of_ble_eq_true rfl) dX7_heirs_172 ⟨by decide, by decide⟩ (As := [.int t0, .int (3 : Int32)]) rfl) (pc' := 175) rfl (cn' := 0) (sn' := 0) rfl rfl (fun v20 ws h => ?_)
    refine e_if_eq C (tg := 180) dX7_heirs_175 (by decide) (pc' := 178) rfl (fun hc => ?_) (fun hc => ?_)
    · replace h := h.1 hc
      refine e_bipush C (v := (7 : Int32)) (by decide) dX7_heirs_180 (pc' := 182) rfl ?_
      refine e_iload_n C (x := p1) rfl dX7_heirs_182 (pc' := 183) rfl ?_
      refine e_imul C dX7_heirs_183 (pc' := 184) rfl ?_
      refine e_istore C (by decide) dX7_heirs_184 (pc' := 186) rfl (lv' := [some (.ref p0), some (.int p1), some (.int p2), none, none, none, none, none, none, none, none, none, some (.int ((7 : Int32) * p1)), none, none, none, none, none, none, none]) rfl ?_
      refine e_aload_n C (x := p0) rfl dX7_heirs_186 (pc' := 187) rfl ?_
      refine f_getR C (ci := 7) (CN := RX7) (TT := TX7) (N := 36) 16 dX7_heirs_187 (pc' := 190) rfl in_X7_heirs_X7 rfl (by decide) fl_X7_heirs_45 h (fun v21 h => ?_)
      refine e_iload C (x := ((7 : Int32) * p1)) rfl dX7_heirs_190 (pc' := 192) rfl ?_
      refine e_iconst C (v := (1 : Int32)) (by decide) dX7_heirs_192 (pc' := 193) rfl ?_
      refine e_iadd C dX7_heirs_193 (pc' := 194) rfl ?_
      refine f_iaload C dX7_heirs_194 (pc' := 195) rfl h (fun v22 h => ?_)
      refine e_istore C (by decide) dX7_heirs_195 (pc' := 197) rfl (lv' := [some (.ref p0), some (.int p1), some (.int p2), none, none, none, none, none, none, none, none, none, some (.int ((7 : Int32) * p1)), some (.int v22), none, none, none, none, none, none]) rfl ?_
      refine e_aload_n C (x := p0) rfl dX7_heirs_197 (pc' := 198) rfl ?_
      refine f_getR C (ci := 7) (CN := RX7) (TT := TX7) (N := 36) 16 dX7_heirs_198 (pc' := 201) rfl in_X7_heirs_X7 rfl (by decide) fl_X7_heirs_45 h (fun v23 h => ?_)
      refine e_iload C (x := ((7 : Int32) * p1)) rfl dX7_heirs_201 (pc' := 203) rfl ?_
      refine e_iconst C (v := (2 : Int32)) (by decide) dX7_heirs_203 (pc' := 204) rfl ?_
      refine e_iadd C dX7_heirs_204 (pc' := 205) rfl ?_
      refine f_iaload C dX7_heirs_205 (pc' := 206) rfl h (fun v24 h => ?_)
      refine e_iload C (x := v22) rfl dX7_heirs_206 (pc' := 208) rfl ?_
      refine e_isub C dX7_heirs_208 (pc' := 209) rfl ?_
      refine e_istore C (by decide) dX7_heirs_209 (pc' := 211) rfl (lv' := [some (.ref p0), some (.int p1), some (.int p2), none, none, none, none, none, none, none, none, none, some (.int ((7 : Int32) * p1)), some (.int v22), some (.int (v24 - v22)), none, none, none, none, none]) rfl ?_
      refine e_iconst C (v := (0 : Int32)) (by decide) dX7_heirs_211 (pc' := 212) rfl ?_
      refine e_istore C (by decide) dX7_heirs_212 (pc' := 214) rfl (lv' := [some (.ref p0), some (.int p1), some (.int p2), none, none, none, none, none, none, none, none, none, some (.int ((7 : Int32) * p1)), some (.int v22), some (.int (v24 - v22)), some (.int (0 : Int32)), none, none, none, none]) rfl ?_
      refine e_iconst C (v := (0 : Int32)) (by decide) dX7_heirs_214 (pc' := 215) rfl ?_
      refine e_istore C (by decide) dX7_heirs_215 (pc' := 217) rfl (lv' := [some (.ref p0), some (.int p1), some (.int p2), none, none, none, none, none, none, none, none, none, some (.int ((7 : Int32) * p1)), some (.int v22), some (.int (v24 - v22)), some (.int (0 : Int32)), some (.int (0 : Int32)), none, none, none]) rfl ?_
      exact h
    · replace h := h.2 hc
      refine e_iconst C (v := (0 : Int32)) (by decide) dX7_heirs_178 (pc' := 179) rfl ?_
      exact r_int C F dX7_heirs_179 (by decide) (by decide) h)
  replace h := h (by
    intro x12 x13 x14 x15 x16 ws h
    show Ev K G 20 0 0 217 [some (.ref p0), some (.int p1), some (.int p2), none, none, none, none, none, none, none, none, none, some (.int x12), some (.int x13), some (.int x14), some (.int x15), some (.int x16), none, none, none] [] ws
    refine e_iload C (x := x16) rfl dX7_heirs_217 (pc' := 219) rfl ?_
    refine e_iload_n C (x := p2) rfl dX7_heirs_219 (pc' := 220) rfl ?_
    refine e_icmp_ge C (tg := 241) dX7_heirs_220 (by decide) (pc' := 223) rfl (fun hc => ?_) (fun hc => ?_)
    · replace h := h.1 hc
      refine e_iload C (x := x14) rfl dX7_heirs_241 (pc' := 243) rfl ?_
      refine e_istore C (by decide) dX7_heirs_243 (pc' := 245) rfl (lv' := [some (.ref p0), some (.int p1), some (.int p2), none, none, none, none, none, none, none, none, none, some (.int x12), some (.int x13), some (.int x14), some (.int x15), some (.int x14), none, none, none]) rfl ?_
      refine e_iconst C (v := (0 : Int32)) (by decide) dX7_heirs_245 (pc' := 246) rfl ?_
      refine e_istore C (by decide) dX7_heirs_246 (pc' := 248) rfl (lv' := [some (.ref p0), some (.int p1), some (.int p2), none, none, none, none, none, none, none, none, none, some (.int x12), some (.int x13), some (.int x14), some (.int x15), some (.int x14), some (.int (0 : Int32)), none, none]) rfl ?_
      exact h
    · replace h := h.2 hc
      refine e_iload C (x := x15) rfl dX7_heirs_223 (pc' := 225) rfl ?_
      refine e_aload_n C (x := p0) rfl dX7_heirs_225 (pc' := 226) rfl ?_
      refine f_getR C (ci := 7) (CN := RX7) (TT := TX7) (N := 36) 19 dX7_heirs_226 (pc' := 229) rfl in_X7_heirs_X7 rfl (by decide) fl_X7_heirs_51 h (fun v25 h => ?_)
      refine e_iload C (x := x16) rfl dX7_heirs_229 (pc' := 231) rfl ?_
      refine f_iaload C dX7_heirs_231 (pc' := 232) rfl h (fun v26 h => ?_)
      refine e_iadd C dX7_heirs_232 (pc' := 233) rfl ?_
      refine e_istore C (by decide) dX7_heirs_233 (pc' := 235) rfl (lv' := [some (.ref p0), some (.int p1), some (.int p2), none, none, none, none, none, none, none, none, none, some (.int x12), some (.int x13), some (.int x14), some (.int (x15 + v26)), some (.int x16), none, none, none]) rfl ?_
      refine e_iinc C dX7_heirs_235 (x := x16) (v := (x16 + (1 : Int32))) rfl rfl (by decide) (pc' := 238) rfl (lv' := [some (.ref p0), some (.int p1), some (.int p2), none, none, none, none, none, none, none, none, none, some (.int x12), some (.int x13), some (.int x14), some (.int (x15 + v26)), some (.int (x16 + (1 : Int32))), none, none, none]) rfl ?_
      refine e_goto C (tg := 217) dX7_heirs_238 (by decide) ?_
      exact h)
  replace h := h (by
    intro x12 x13 x14 x15 x16 x17 ws h
    show Ev K G 20 0 0 248 [some (.ref p0), some (.int p1), some (.int p2), none, none, none, none, none, none, none, none, none, some (.int x12), some (.int x13), some (.int x14), some (.int x15), some (.int x16), some (.int x17), none, none] [] ws
    refine e_iload C (x := x17) rfl dX7_heirs_248 (pc' := 250) rfl ?_
    refine e_iload_n C (x := p2) rfl dX7_heirs_250 (pc' := 251) rfl ?_
    refine e_icmp_ge C (tg := 292) dX7_heirs_251 (by decide) (pc' := 254) rfl (fun hc => ?_) (fun hc => ?_)
    · replace h := h.1 hc
      refine e_iconst C (v := (0 : Int32)) (by decide) dX7_heirs_292 (pc' := 293) rfl ?_
      refine e_istore C (by decide) dX7_heirs_293 (pc' := 295) rfl (lv' := [some (.ref p0), some (.int p1), some (.int p2), none, none, none, none, none, none, none, none, none, some (.int x12), some (.int x13), some (.int x14), some (.int x15), some (.int x16), some (.int (0 : Int32)), none, none]) rfl ?_
      refine e_iconst C (v := (0 : Int32)) (by decide) dX7_heirs_295 (pc' := 296) rfl ?_
      refine e_istore C (by decide) dX7_heirs_296 (pc' := 298) rfl (lv' := [some (.ref p0), some (.int p1), some (.int p2), none, none, none, none, none, none, none, none, none, some (.int x12), some (.int x13), some (.int x14), some (.int x15), some (.int x16), some (.int (0 : Int32)), some (.int (0 : Int32)), none]) rfl ?_
      refine e_mask [true, true, true, false, false, false, false, false, false, false, false, false, true, true, false, false, true, true, true, false] (lv' := [some (.ref p0), some (.int p1), some (.int p2), none, none, none, none, none, none, none, none, none, some (.int x12), some (.int x13), none, none, some (.int x16), some (.int (0 : Int32)), some (.int (0 : Int32)), none]) rfl ?_
      exact h
    · replace h := h.2 hc
      refine e_aload_n C (x := p0) rfl dX7_heirs_254 (pc' := 255) rfl ?_
      refine f_getR C (ci := 7) (CN := RX7) (TT := TX7) (N := 36) 20 dX7_heirs_255 (pc' := 258) rfl in_X7_heirs_X7 rfl (by decide) fl_X7_heirs_54 h (fun v27 h => ?_)
      refine e_iload C (x := x17) rfl dX7_heirs_258 (pc' := 260) rfl ?_
      refine e_iload C (x := x14) rfl dX7_heirs_260 (pc' := 262) rfl ?_
      refine e_aload_n C (x := p0) rfl dX7_heirs_262 (pc' := 263) rfl ?_
      refine f_getR C (ci := 7) (CN := RX7) (TT := TX7) (N := 36) 19 dX7_heirs_263 (pc' := 266) rfl in_X7_heirs_X7 rfl (by decide) fl_X7_heirs_51 h (fun v28 h => ?_)
      refine e_iload C (x := x17) rfl dX7_heirs_266 (pc' := 268) rfl ?_
      refine f_iaload C dX7_heirs_268 (pc' := 269) rfl h (fun v29 h => ?_)
      refine e_imul C dX7_heirs_269 (pc' := 270) rfl ?_
      refine e_iload C (x := x15) rfl dX7_heirs_270 (pc' := 272) rfl ?_
      obtain ⟨hz, h⟩ := h
      refine e_idiv C hz dX7_heirs_272 (pc' := 273) rfl ?_
      refine f_iastore C dX7_heirs_273 (pc' := 274) rfl h (fun ws h => ?_)
      refine e_iload C (x := x16) rfl dX7_heirs_274 (pc' := 276) rfl ?_
      refine e_aload_n C (x := p0) rfl dX7_heirs_276 (pc' := 277) rfl ?_
      refine f_getR C (ci := 7) (CN := RX7) (TT := TX7) (N := 36) 20 dX7_heirs_277 (pc' := 280) rfl in_X7_heirs_X7 rfl (by decide) fl_X7_heirs_54 h (fun v30 h => ?_)
      refine e_iload C (x := x17) rfl dX7_heirs_280 (pc' := 282) rfl ?_
      refine f_iaload C dX7_heirs_282 (pc' := 283) rfl h (fun v31 h => ?_)
      refine e_isub C dX7_heirs_283 (pc' := 284) rfl ?_
      refine e_istore C (by decide) dX7_heirs_284 (pc' := 286) rfl (lv' := [some (.ref p0), some (.int p1), some (.int p2), none, none, none, none, none, none, none, none, none, some (.int x12), some (.int x13), some (.int x14), some (.int x15), some (.int (x16 - v31)), some (.int x17), none, none]) rfl ?_
      refine e_iinc C dX7_heirs_286 (x := x17) (v := (x17 + (1 : Int32))) rfl rfl (by decide) (pc' := 289) rfl (lv' := [some (.ref p0), some (.int p1), some (.int p2), none, none, none, none, none, none, none, none, none, some (.int x12), some (.int x13), some (.int x14), some (.int x15), some (.int (x16 - v31)), some (.int (x17 + (1 : Int32))), none, none]) rfl ?_
      refine e_goto C (tg := 248) dX7_heirs_289 (by decide) ?_
      exact h)
  replace h := h (by
    intro x12 x13 x16 x17 x18 ws h
    show Ev K G 20 0 0 298 [some (.ref p0), some (.int p1), some (.int p2), none, none, none, none, none, none, none, none, none, some (.int x12), some (.int x13), none, none, some (.int x16), some (.int x17), some (.int x18), none] [] ws
    refine e_iload C (x := x18) rfl dX7_heirs_298 (pc' := 300) rfl ?_
    refine e_iload_n C (x := p2) rfl dX7_heirs_300 (pc' := 301) rfl ?_
    refine e_icmp_ge C (tg := 352) dX7_heirs_301 (by decide) (pc' := 304) rfl (fun hc => ?_) (fun hc => ?_)
    · replace h := h.1 hc
      refine e_aload_n C (x := p0) rfl dX7_heirs_352 (pc' := 353) rfl ?_
      refine e_aload_n C (x := p0) rfl dX7_heirs_353 (pc' := 354) rfl ?_
      refine f_getI C (ci := 7) (CN := RX7) (TT := TX7) (N := 36) 17 dX7_heirs_354 (pc' := 357) rfl in_X7_heirs_X7 rfl (by decide) fl_X7_heirs_102 h (fun v32 h => ?_)
      refine e_iload C (x := x17) rfl dX7_heirs_357 (pc' := 359) rfl ?_
      refine e_iadd C dX7_heirs_359 (pc' := 360) rfl ?_
      refine e_iconst C (v := (1 : Int32)) (by decide) dX7_heirs_360 (pc' := 361) rfl ?_
      refine e_isub C dX7_heirs_361 (pc' := 362) rfl ?_
      refine e_bipush C (v := (60 : Int32)) (by decide) dX7_heirs_362 (pc' := 364) rfl ?_
      refine e_icmp_le C (tg := 371) dX7_heirs_364 (by decide) (pc' := 367) rfl (fun hc => ?_) (fun hc => ?_)
      · replace h := h.1 hc
        refine e_iconst C (v := (0 : Int32)) (by decide) dX7_heirs_371 (pc' := 372) rfl ?_
        refine e_mask [true, true, true, false, false, false, false, false, false, false, false, false, true, true, false, false, false, true, false, false] (lv' := [some (.ref p0), some (.int p1), some (.int p2), none, none, none, none, none, none, none, none, none, some (.int x12), some (.int x13), none, none, none, some (.int x17), none, none]) rfl ?_
        exact h
      · replace h := h.2 hc
        refine e_iconst C (v := (1 : Int32)) (by decide) dX7_heirs_367 (pc' := 368) rfl ?_
        refine e_goto C (tg := 372) dX7_heirs_368 (by decide) ?_
        refine e_mask [true, true, true, false, false, false, false, false, false, false, false, false, true, true, false, false, false, true, false, false] (lv' := [some (.ref p0), some (.int p1), some (.int p2), none, none, none, none, none, none, none, none, none, some (.int x12), some (.int x13), none, none, none, some (.int x17), none, none]) rfl ?_
        exact h
    · replace h := h.2 hc
      refine e_aload_n C (x := p0) rfl dX7_heirs_304 (pc' := 305) rfl ?_
      refine f_getR C (ci := 7) (CN := RX7) (TT := TX7) (N := 36) 20 dX7_heirs_305 (pc' := 308) rfl in_X7_heirs_X7 rfl (by decide) fl_X7_heirs_54 h (fun v33 h => ?_)
      refine e_iload C (x := x18) rfl dX7_heirs_308 (pc' := 310) rfl ?_
      refine e_dup2 C rfl rfl dX7_heirs_310 (pc' := 311) rfl ?_
      refine f_iaload C dX7_heirs_311 (pc' := 312) rfl h (fun v34 h => ?_)
      refine e_iload C (x := x18) rfl dX7_heirs_312 (pc' := 314) rfl ?_
      refine e_iload C (x := x16) rfl dX7_heirs_314 (pc' := 316) rfl ?_
      refine e_icmp_ge C (tg := 323) dX7_heirs_316 (by decide) (pc' := 319) rfl (fun hc => ?_) (fun hc => ?_)
      · replace h := h.1 hc
        refine e_iconst C (v := (0 : Int32)) (by decide) dX7_heirs_323 (pc' := 324) rfl ?_
        exact h
      · replace h := h.2 hc
        refine e_iconst C (v := (1 : Int32)) (by decide) dX7_heirs_319 (pc' := 320) rfl ?_
        refine e_goto C (tg := 324) dX7_heirs_320 (by decide) ?_
        exact h)
  replace h := h (by
    intro x12 x13 x17 t0 t1 ws h
    show Ev K G 20 0 0 372 [some (.ref p0), some (.int p1), some (.int p2), none, none, none, none, none, none, none, none, none, some (.int x12), some (.int x13), none, none, none, some (.int x17), none, none] [.int t0, .ref t1] ws
    refine e_iconst C (v := (4 : Int32)) (by decide) dX7_heirs_372 (pc' := 373) rfl ?_
    obtain ⟨hv, h⟩ := h
    refine e_calli (run_V (n := 2) C (m_X7_throwsIf hst h) gX7_heirs_X7_throwsIf rfl ⟨rfl, by decide, by decide, by decide +kernel⟩ ⟨by decide, by decide⟩ (ci := 7) rfl rfl hv rfl (Nat.le_of_ble_eq_true rfl) dX7_heirs_373 ⟨by decide, by decide⟩ (As := [.int t0, .int (4 : Int32)]) rfl) (pc' := 376) rfl (cn' := 0) (sn' := 0) rfl rfl (fun v35 ws h => ?_)
    refine e_if_eq C (tg := 381) dX7_heirs_376 (by decide) (pc' := 379) rfl (fun hc => ?_) (fun hc => ?_)
    · replace h := h.1 hc
      refine e_iconst C (v := (1 : Int32)) (by decide) dX7_heirs_381 (pc' := 382) rfl ?_
      refine e_istore C (by decide) dX7_heirs_382 (pc' := 384) rfl (lv' := [some (.ref p0), some (.int p1), some (.int p2), none, none, none, none, none, none, none, none, none, some (.int x12), some (.int x13), none, none, none, some (.int x17), some (.int (1 : Int32)), none]) rfl ?_
      refine e_iconst C (v := (0 : Int32)) (by decide) dX7_heirs_384 (pc' := 385) rfl ?_
      refine e_istore C (by decide) dX7_heirs_385 (pc' := 387) rfl (lv' := [some (.ref p0), some (.int p1), some (.int p2), none, none, none, none, none, none, none, none, none, some (.int x12), some (.int x13), none, none, none, some (.int x17), some (.int (1 : Int32)), some (.int (0 : Int32))]) rfl ?_
      exact h
    · replace h := h.2 hc
      refine e_iconst C (v := (0 : Int32)) (by decide) dX7_heirs_379 (pc' := 380) rfl ?_
      exact r_int C F dX7_heirs_380 (by decide) (by decide) h)
  replace h := h (by
    intro x12 x13 x16 x17 x18 t0 t1 t2 t3 ws h
    show Ev K G 20 0 0 324 [some (.ref p0), some (.int p1), some (.int p2), none, none, none, none, none, none, none, none, none, some (.int x12), some (.int x13), none, none, some (.int x16), some (.int x17), some (.int x18), none] [.int t0, .int t1, .int t2, .ref t3] ws
    refine e_iadd C dX7_heirs_324 (pc' := 325) rfl ?_
    refine f_iastore C dX7_heirs_325 (pc' := 326) rfl h (fun ws h => ?_)
    refine e_iload C (x := x17) rfl dX7_heirs_326 (pc' := 328) rfl ?_
    refine e_aload_n C (x := p0) rfl dX7_heirs_328 (pc' := 329) rfl ?_
    refine f_getR C (ci := 7) (CN := RX7) (TT := TX7) (N := 36) 20 dX7_heirs_329 (pc' := 332) rfl in_X7_heirs_X7 rfl (by decide) fl_X7_heirs_54 h (fun v36 h => ?_)
    refine e_iload C (x := x18) rfl dX7_heirs_332 (pc' := 334) rfl ?_
    refine f_iaload C dX7_heirs_334 (pc' := 335) rfl h (fun v37 h => ?_)
    refine e_if_le C (tg := 342) dX7_heirs_335 (by decide) (pc' := 338) rfl (fun hc => ?_) (fun hc => ?_)
    · replace h := h.1 hc
      refine e_iconst C (v := (0 : Int32)) (by decide) dX7_heirs_342 (pc' := 343) rfl ?_
      refine e_mask [true, true, true, false, false, false, false, false, false, false, false, false, true, true, false, false, true, false, true, false] (lv' := [some (.ref p0), some (.int p1), some (.int p2), none, none, none, none, none, none, none, none, none, some (.int x12), some (.int x13), none, none, some (.int x16), none, some (.int x18), none]) rfl ?_
      exact h
    · replace h := h.2 hc
      refine e_iconst C (v := (1 : Int32)) (by decide) dX7_heirs_338 (pc' := 339) rfl ?_
      refine e_goto C (tg := 343) dX7_heirs_339 (by decide) ?_
      refine e_mask [true, true, true, false, false, false, false, false, false, false, false, false, true, true, false, false, true, false, true, false] (lv' := [some (.ref p0), some (.int p1), some (.int p2), none, none, none, none, none, none, none, none, none, some (.int x12), some (.int x13), none, none, some (.int x16), none, some (.int x18), none]) rfl ?_
      exact h)
  replace h := h (by
    intro x12 x13 x17 x18 x19 ws h
    show Ev K G 20 0 0 387 [some (.ref p0), some (.int p1), some (.int p2), none, none, none, none, none, none, none, none, none, some (.int x12), some (.int x13), none, none, none, some (.int x17), some (.int x18), some (.int x19)] [] ws
    refine e_iload C (x := x19) rfl dX7_heirs_387 (pc' := 389) rfl ?_
    refine e_iload_n C (x := p2) rfl dX7_heirs_389 (pc' := 390) rfl ?_
    refine e_icmp_ge C (tg := 489) dX7_heirs_390 (by decide) (pc' := 393) rfl (fun hc => ?_) (fun hc => ?_)
    · replace h := h.1 hc
      refine e_iload C (x := x17) rfl dX7_heirs_489 (pc' := 491) rfl ?_
      exact r_int C F dX7_heirs_491 (by decide) (by decide) h
    · replace h := h.2 hc
      refine e_aload_n C (x := p0) rfl dX7_heirs_393 (pc' := 394) rfl ?_
      refine f_getR C (ci := 7) (CN := RX7) (TT := TX7) (N := 36) 20 dX7_heirs_394 (pc' := 397) rfl in_X7_heirs_X7 rfl (by decide) fl_X7_heirs_54 h (fun v38 h => ?_)
      refine e_iload C (x := x19) rfl dX7_heirs_397 (pc' := 399) rfl ?_
      refine f_iaload C dX7_heirs_399 (pc' := 400) rfl h (fun v39 h => ?_)
      refine e_if_ne C (tg := 406) dX7_heirs_400 (by decide) (pc' := 403) rfl (fun hc => ?_) (fun hc => ?_)
      · replace h := h.1 hc
        refine e_iload C (x := x18) rfl dX7_heirs_406 (pc' := 408) rfl ?_
        refine e_if_eq C (tg := 438) dX7_heirs_408 (by decide) (pc' := 411) rfl (fun hc => ?_) (fun hc => ?_)
        · replace h := h.1 hc
          refine e_aload_n C (x := p0) rfl dX7_heirs_438 (pc' := 439) rfl ?_
          refine e_aload_n C (x := p0) rfl dX7_heirs_439 (pc' := 440) rfl ?_
          refine f_getR C (ci := 7) (CN := RX7) (TT := TX7) (N := 36) 16 dX7_heirs_440 (pc' := 443) rfl in_X7_heirs_X7 rfl (by decide) fl_X7_heirs_45 h (fun v40 h => ?_)
          refine e_iload C (x := x12) rfl dX7_heirs_443 (pc' := 445) rfl ?_
          refine f_iaload C dX7_heirs_445 (pc' := 446) rfl h (fun v41 h => ?_)
          refine e_iload C (x := x13) rfl dX7_heirs_446 (pc' := 448) rfl ?_
          refine e_iload C (x := x13) rfl dX7_heirs_448 (pc' := 450) rfl ?_
          refine e_aload_n C (x := p0) rfl dX7_heirs_450 (pc' := 451) rfl ?_
          refine f_getR C (ci := 7) (CN := RX7) (TT := TX7) (N := 36) 20 dX7_heirs_451 (pc' := 454) rfl in_X7_heirs_X7 rfl (by decide) fl_X7_heirs_54 h (fun v42 h => ?_)
          refine e_iload C (x := x19) rfl dX7_heirs_454 (pc' := 456) rfl ?_
          refine f_iaload C dX7_heirs_456 (pc' := 457) rfl h (fun v43 h => ?_)
          refine e_iadd C dX7_heirs_457 (pc' := 458) rfl ?_
          refine e_aload_n C (x := p0) rfl dX7_heirs_458 (pc' := 459) rfl ?_
          refine f_getR C (ci := 7) (CN := RX7) (TT := TX7) (N := 36) 18 dX7_heirs_459 (pc' := 462) rfl in_X7_heirs_X7 rfl (by decide) fl_X7_heirs_48 h (fun v44 h => ?_)
          refine e_iload C (x := x19) rfl dX7_heirs_462 (pc' := 464) rfl ?_
          refine f_iaload C dX7_heirs_464 (pc' := 465) rfl h (fun v45 h => ?_)
          obtain ⟨hv, h⟩ := h
          refine e_callv (run_V (n := 4) C (m_X7_adds hst h) gX7_heirs_X7_adds rfl ⟨rfl, by decide, by decide, by decide +kernel⟩ ⟨by decide, by decide⟩ (ci := 7) rfl rfl hv rfl (Nat.le_of_ble_eq_true rfl) dX7_heirs_465 ⟨by decide, by decide⟩ (As := [.int v41, .int x13, .int (x13 + v43), .int v45]) rfl) (pc' := 468) rfl (cn' := 0) (sn' := 0) rfl rfl (fun ws h => ?_)
          refine e_mask [true, true, true, false, false, false, false, false, false, false, false, false, true, true, false, false, false, true, false, true] (lv' := [some (.ref p0), some (.int p1), some (.int p2), none, none, none, none, none, none, none, none, none, some (.int x12), some (.int x13), none, none, none, some (.int x17), none, some (.int x19)]) rfl ?_
          exact h
        · replace h := h.2 hc
          refine e_aload_n C (x := p0) rfl dX7_heirs_411 (pc' := 412) rfl ?_
          refine e_iload_n C (x := p1) rfl dX7_heirs_412 (pc' := 413) rfl ?_
          refine e_iload C (x := x13) rfl dX7_heirs_413 (pc' := 415) rfl ?_
          refine e_iload C (x := x13) rfl dX7_heirs_415 (pc' := 417) rfl ?_
          refine e_aload_n C (x := p0) rfl dX7_heirs_417 (pc' := 418) rfl ?_
          refine f_getR C (ci := 7) (CN := RX7) (TT := TX7) (N := 36) 20 dX7_heirs_418 (pc' := 421) rfl in_X7_heirs_X7 rfl (by decide) fl_X7_heirs_54 h (fun v47 h => ?_)
          refine e_iload C (x := x19) rfl dX7_heirs_421 (pc' := 423) rfl ?_
          refine f_iaload C dX7_heirs_423 (pc' := 424) rfl h (fun v48 h => ?_)
          refine e_iadd C dX7_heirs_424 (pc' := 425) rfl ?_
          refine e_aload_n C (x := p0) rfl dX7_heirs_425 (pc' := 426) rfl ?_
          refine f_getR C (ci := 7) (CN := RX7) (TT := TX7) (N := 36) 18 dX7_heirs_426 (pc' := 429) rfl in_X7_heirs_X7 rfl (by decide) fl_X7_heirs_48 h (fun v49 h => ?_)
          refine e_iload C (x := x19) rfl dX7_heirs_429 (pc' := 431) rfl ?_
          refine f_iaload C dX7_heirs_431 (pc' := 432) rfl h (fun v50 h => ?_)
          obtain ⟨hv, h⟩ := h
          refine e_callv (run_V (n := 4) C (m_X7_sets hst h) gX7_heirs_X7_sets rfl ⟨rfl, by decide, by decide, by decide +kernel⟩ ⟨by decide, by decide⟩ (ci := 7) rfl rfl hv rfl (Nat.le_of_ble_eq_true rfl) dX7_heirs_432 ⟨by decide, by decide⟩ (As := [.int p1, .int x13, .int (x13 + v48), .int v50]) rfl) (pc' := 435) rfl (cn' := 0) (sn' := 0) rfl rfl (fun ws h => ?_)
          refine e_goto C (tg := 468) dX7_heirs_435 (by decide) ?_
          refine e_mask [true, true, true, false, false, false, false, false, false, false, false, false, true, true, false, false, false, true, false, true] (lv' := [some (.ref p0), some (.int p1), some (.int p2), none, none, none, none, none, none, none, none, none, some (.int x12), some (.int x13), none, none, none, some (.int x17), none, some (.int x19)]) rfl ?_
          exact h
      · replace h := h.2 hc
        refine e_goto C (tg := 483) dX7_heirs_403 (by decide) ?_
        exact h)
  replace h := h (by
    intro x12 x13 x16 x18 t0 t1 ws h
    show Ev K G 20 0 0 343 [some (.ref p0), some (.int p1), some (.int p2), none, none, none, none, none, none, none, none, none, some (.int x12), some (.int x13), none, none, some (.int x16), none, some (.int x18), none] [.int t0, .int t1] ws
    refine e_iadd C dX7_heirs_343 (pc' := 344) rfl ?_
    refine e_istore C (by decide) dX7_heirs_344 (pc' := 346) rfl (lv' := [some (.ref p0), some (.int p1), some (.int p2), none, none, none, none, none, none, none, none, none, some (.int x12), some (.int x13), none, none, some (.int x16), some (.int (t1 + t0)), some (.int x18), none]) rfl ?_
    refine e_iinc C dX7_heirs_346 (x := x18) (v := (x18 + (1 : Int32))) rfl rfl (by decide) (pc' := 349) rfl (lv' := [some (.ref p0), some (.int p1), some (.int p2), none, none, none, none, none, none, none, none, none, some (.int x12), some (.int x13), none, none, some (.int x16), some (.int (t1 + t0)), some (.int (x18 + (1 : Int32))), none]) rfl ?_
    refine e_goto C (tg := 298) dX7_heirs_349 (by decide) ?_
    exact h)
  replace h := h (by
    intro x12 x13 x17 x19 ws h
    show Ev K G 20 0 0 468 [some (.ref p0), some (.int p1), some (.int p2), none, none, none, none, none, none, none, none, none, some (.int x12), some (.int x13), none, none, none, some (.int x17), none, some (.int x19)] [] ws
    refine e_iconst C (v := (0 : Int32)) (by decide) dX7_heirs_468 (pc' := 469) rfl ?_
    refine e_istore C (by decide) dX7_heirs_469 (pc' := 471) rfl (lv' := [some (.ref p0), some (.int p1), some (.int p2), none, none, none, none, none, none, none, none, none, some (.int x12), some (.int x13), none, none, none, some (.int x17), some (.int (0 : Int32)), some (.int x19)]) rfl ?_
    refine e_iload C (x := x13) rfl dX7_heirs_471 (pc' := 473) rfl ?_
    refine e_aload_n C (x := p0) rfl dX7_heirs_473 (pc' := 474) rfl ?_
    refine f_getR C (ci := 7) (CN := RX7) (TT := TX7) (N := 36) 20 dX7_heirs_474 (pc' := 477) rfl in_X7_heirs_X7 rfl (by decide) fl_X7_heirs_54 h (fun v52 h => ?_)
    refine e_iload C (x := x19) rfl dX7_heirs_477 (pc' := 479) rfl ?_
    refine f_iaload C dX7_heirs_479 (pc' := 480) rfl h (fun v53 h => ?_)
    refine e_iadd C dX7_heirs_480 (pc' := 481) rfl ?_
    refine e_istore C (by decide) dX7_heirs_481 (pc' := 483) rfl (lv' := [some (.ref p0), some (.int p1), some (.int p2), none, none, none, none, none, none, none, none, none, some (.int x12), some (.int (x13 + v53)), none, none, none, some (.int x17), some (.int (0 : Int32)), some (.int x19)]) rfl ?_
    exact h)
  replace h := h (by
    intro x12 x13 x17 x18 x19 ws h
    show Ev K G 20 0 0 483 [some (.ref p0), some (.int p1), some (.int p2), none, none, none, none, none, none, none, none, none, some (.int x12), some (.int x13), none, none, none, some (.int x17), some (.int x18), some (.int x19)] [] ws
    refine e_iinc C dX7_heirs_483 (x := x19) (v := (x19 + (1 : Int32))) rfl rfl (by decide) (pc' := 486) rfl (lv' := [some (.ref p0), some (.int p1), some (.int p2), none, none, none, none, none, none, none, none, none, some (.int x12), some (.int x13), none, none, none, some (.int x17), some (.int x18), some (.int (x19 + (1 : Int32)))]) rfl ?_
    refine e_goto C (tg := 387) dX7_heirs_486 (by decide) ?_
    exact h)
  refine e_aload_n C (x := p0) rfl dX7_heirs_0 (pc' := 1) rfl ?_
  refine e_iconst C (v := (0 : Int32)) (by decide) dX7_heirs_1 (pc' := 2) rfl ?_
  refine f_putI C (ci := 7) (CN := RX7) (TT := TX7) (N := 36) 0 tyX7 dX7_heirs_2 (pc' := 5) rfl in_X7_heirs_X7 tyX7_ok nmX7 rfl (by decide) fl_X7_heirs_88 rfl (by decide +kernel) h (fun ws h => ?_)
  refine e_aload_n C (x := p0) rfl dX7_heirs_5 (pc' := 6) rfl ?_
  refine e_aload_n C (x := p0) rfl dX7_heirs_6 (pc' := 7) rfl ?_
  refine e_iload_n C (x := p1) rfl dX7_heirs_7 (pc' := 8) rfl ?_
  obtain ⟨hv, h⟩ := h
  refine e_calli (run_V (n := 1) C (m_X7_noShare hst h) gX7_heirs_X7_noShare rfl ⟨rfl, by decide, by decide, by decide +kernel⟩ ⟨by decide, by decide⟩ (ci := 7) rfl rfl hv rfl (Nat.le_of_ble_eq_true rfl) dX7_heirs_8 ⟨by decide, by decide⟩ (As := [.int p1]) rfl) (pc' := 11) rfl (cn' := 0) (sn' := 0) rfl rfl (fun v1 ws h => ?_)
  refine e_iconst C (v := (1 : Int32)) (by decide) dX7_heirs_11 (pc' := 12) rfl ?_
  obtain ⟨hv, h⟩ := h
  refine e_calli (run_V (n := 2) C (m_X7_throwsIf hst h) gX7_heirs_X7_throwsIf rfl ⟨rfl, by decide, by decide, by decide +kernel⟩ ⟨by decide, by decide⟩ (ci := 7) rfl rfl hv rfl (Nat.le_of_ble_eq_true rfl) dX7_heirs_12 ⟨by decide, by decide⟩ (As := [.int v1, .int (1 : Int32)]) rfl) (pc' := 15) rfl (cn' := 0) (sn' := 0) rfl rfl (fun v2 ws h => ?_)
  refine e_if_ne C (tg := 31) dX7_heirs_15 (by decide) (pc' := 18) rfl (fun hc => ?_) (fun hc => ?_)
  · replace h := h.1 hc
    refine e_iconst C (v := (0 : Int32)) (by decide) dX7_heirs_31 (pc' := 32) rfl ?_
    exact r_int C F dX7_heirs_32 (by decide) (by decide) h
  · replace h := h.2 hc
    refine e_aload_n C (x := p0) rfl dX7_heirs_18 (pc' := 19) rfl ?_
    refine e_aload_n C (x := p0) rfl dX7_heirs_19 (pc' := 20) rfl ?_
    refine e_iload_n C (x := p1) rfl dX7_heirs_20 (pc' := 21) rfl ?_
    obtain ⟨hv, h⟩ := h
    refine e_calli (run_V (n := 1) C (m_X7_isLet hst h) gX7_heirs_X7_isLet rfl ⟨rfl, by decide, by decide, by decide +kernel⟩ ⟨by decide, by decide⟩ (ci := 7) rfl rfl hv rfl (Nat.le_of_ble_eq_true rfl) dX7_heirs_21 ⟨by decide, by decide⟩ (As := [.int p1]) rfl) (pc' := 24) rfl (cn' := 0) (sn' := 0) rfl rfl (fun v3 ws h => ?_)
    refine e_iconst C (v := (2 : Int32)) (by decide) dX7_heirs_24 (pc' := 25) rfl ?_
    obtain ⟨hv, h⟩ := h
    refine e_calli (run_V (n := 2) C (m_X7_throwsIf hst h) gX7_heirs_X7_throwsIf rfl ⟨rfl, by decide, by decide, by decide +kernel⟩ ⟨by decide, by decide⟩ (ci := 7) rfl rfl hv rfl (Nat.le_of_ble_eq_true rfl) dX7_heirs_25 ⟨by decide, by decide⟩ (As := [.int v3, .int (2 : Int32)]) rfl) (pc' := 28) rfl (cn' := 0) (sn' := 0) rfl rfl (fun v4 ws h => ?_)
    refine e_if_eq C (tg := 33) dX7_heirs_28 (by decide) (pc' := 31) rfl (fun hc => ?_) (fun hc => ?_)
    · replace h := h.1 hc
      refine e_aload_n C (x := p0) rfl dX7_heirs_33 (pc' := 34) rfl ?_
      refine f_getR C (ci := 7) (CN := RX7) (TT := TX7) (N := 36) 18 dX7_heirs_34 (pc' := 37) rfl in_X7_heirs_X7 rfl (by decide) fl_X7_heirs_48 h (fun v5 h => ?_)
      refine e_iconst C (v := (0 : Int32)) (by decide) dX7_heirs_37 (pc' := 38) rfl ?_
      refine e_iload_n C (x := p3) rfl dX7_heirs_38 (pc' := 39) rfl ?_
      refine f_iastore C dX7_heirs_39 (pc' := 40) rfl h (fun ws h => ?_)
      refine e_aload_n C (x := p0) rfl dX7_heirs_40 (pc' := 41) rfl ?_
      refine f_getR C (ci := 7) (CN := RX7) (TT := TX7) (N := 36) 18 dX7_heirs_41 (pc' := 44) rfl in_X7_heirs_X7 rfl (by decide) fl_X7_heirs_48 h (fun v6 h => ?_)
      refine e_iconst C (v := (1 : Int32)) (by decide) dX7_heirs_44 (pc' := 45) rfl ?_
      refine e_iload C (x := p5) rfl dX7_heirs_45 (pc' := 47) rfl ?_
      refine f_iastore C dX7_heirs_47 (pc' := 48) rfl h (fun ws h => ?_)
      refine e_aload_n C (x := p0) rfl dX7_heirs_48 (pc' := 49) rfl ?_
      refine f_getR C (ci := 7) (CN := RX7) (TT := TX7) (N := 36) 18 dX7_heirs_49 (pc' := 52) rfl in_X7_heirs_X7 rfl (by decide) fl_X7_heirs_48 h (fun v7 h => ?_)
      refine e_iconst C (v := (2 : Int32)) (by decide) dX7_heirs_52 (pc' := 53) rfl ?_
      refine e_iload C (x := p7) rfl dX7_heirs_53 (pc' := 55) rfl ?_
      refine f_iastore C dX7_heirs_55 (pc' := 56) rfl h (fun ws h => ?_)
      refine e_aload_n C (x := p0) rfl dX7_heirs_56 (pc' := 57) rfl ?_
      refine f_getR C (ci := 7) (CN := RX7) (TT := TX7) (N := 36) 18 dX7_heirs_57 (pc' := 60) rfl in_X7_heirs_X7 rfl (by decide) fl_X7_heirs_48 h (fun v8 h => ?_)
      refine e_iconst C (v := (3 : Int32)) (by decide) dX7_heirs_60 (pc' := 61) rfl ?_
      refine e_iload C (x := p9) rfl dX7_heirs_61 (pc' := 63) rfl ?_
      refine f_iastore C dX7_heirs_63 (pc' := 64) rfl h (fun ws h => ?_)
      refine e_aload_n C (x := p0) rfl dX7_heirs_64 (pc' := 65) rfl ?_
      refine f_getR C (ci := 7) (CN := RX7) (TT := TX7) (N := 36) 19 dX7_heirs_65 (pc' := 68) rfl in_X7_heirs_X7 rfl (by decide) fl_X7_heirs_51 h (fun v9 h => ?_)
      refine e_iconst C (v := (0 : Int32)) (by decide) dX7_heirs_68 (pc' := 69) rfl ?_
      refine e_iload C (x := p4) rfl dX7_heirs_69 (pc' := 71) rfl ?_
      refine f_iastore C dX7_heirs_71 (pc' := 72) rfl h (fun ws h => ?_)
      refine e_aload_n C (x := p0) rfl dX7_heirs_72 (pc' := 73) rfl ?_
      refine f_getR C (ci := 7) (CN := RX7) (TT := TX7) (N := 36) 19 dX7_heirs_73 (pc' := 76) rfl in_X7_heirs_X7 rfl (by decide) fl_X7_heirs_51 h (fun v10 h => ?_)
      refine e_iconst C (v := (1 : Int32)) (by decide) dX7_heirs_76 (pc' := 77) rfl ?_
      refine e_iload C (x := p6) rfl dX7_heirs_77 (pc' := 79) rfl ?_
      refine f_iastore C dX7_heirs_79 (pc' := 80) rfl h (fun ws h => ?_)
      refine e_aload_n C (x := p0) rfl dX7_heirs_80 (pc' := 81) rfl ?_
      refine f_getR C (ci := 7) (CN := RX7) (TT := TX7) (N := 36) 19 dX7_heirs_81 (pc' := 84) rfl in_X7_heirs_X7 rfl (by decide) fl_X7_heirs_51 h (fun v11 h => ?_)
      refine e_iconst C (v := (2 : Int32)) (by decide) dX7_heirs_84 (pc' := 85) rfl ?_
      refine e_iload C (x := p8) rfl dX7_heirs_85 (pc' := 87) rfl ?_
      refine f_iastore C dX7_heirs_87 (pc' := 88) rfl h (fun ws h => ?_)
      refine e_aload_n C (x := p0) rfl dX7_heirs_88 (pc' := 89) rfl ?_
      refine f_getR C (ci := 7) (CN := RX7) (TT := TX7) (N := 36) 19 dX7_heirs_89 (pc' := 92) rfl in_X7_heirs_X7 rfl (by decide) fl_X7_heirs_51 h (fun v12 h => ?_)
      refine e_iconst C (v := (3 : Int32)) (by decide) dX7_heirs_92 (pc' := 93) rfl ?_
      refine e_iload C (x := p10) rfl dX7_heirs_93 (pc' := 95) rfl ?_
      refine f_iastore C dX7_heirs_95 (pc' := 96) rfl h (fun ws h => ?_)
      refine e_iload_n C (x := p2) rfl dX7_heirs_96 (pc' := 97) rfl ?_
      refine e_iconst C (v := (2 : Int32)) (by decide) dX7_heirs_97 (pc' := 98) rfl ?_
      refine e_iconst C (v := (4 : Int32)) (by decide) dX7_heirs_98 (pc' := 99) rfl ?_
      refine e_calli (run_S (n := 3) C (m_X7_in hst h) gX7_heirs_X7_in rfl ⟨rfl, by decide, by decide, by decide +kernel⟩ ⟨by decide, by decide⟩ rfl (Nat.le_of_ble_eq_true rfl) dX7_heirs_99 ⟨by decide, by decide⟩ (As := [.int p2, .int (2 : Int32), .int (4 : Int32)]) rfl) (pc' := 102) rfl (cn' := 0) (sn' := 0) rfl rfl (fun v13 ws h => ?_)
      refine e_istore C (by decide) dX7_heirs_102 (pc' := 104) rfl (lv' := [some (.ref p0), some (.int p1), some (.int p2), some (.int p3), some (.int p4), some (.int p5), some (.int p6), some (.int p7), some (.int p8), some (.int p9), some (.int p10), some (.int v13), none, none, none, none, none, none, none, none]) rfl ?_
      refine e_iconst C (v := (0 : Int32)) (by decide) dX7_heirs_104 (pc' := 105) rfl ?_
      refine e_istore C (by decide) dX7_heirs_105 (pc' := 107) rfl (lv' := [some (.ref p0), some (.int p1), some (.int p2), some (.int p3), some (.int p4), some (.int p5), some (.int p6), some (.int p7), some (.int p8), some (.int p9), some (.int p10), some (.int v13), some (.int (0 : Int32)), none, none, none, none, none, none, none]) rfl ?_
      refine e_mask [true, true, true, false, false, false, false, false, false, false, false, true, true, false, false, false, false, false, false, false] (lv' := [some (.ref p0), some (.int p1), some (.int p2), none, none, none, none, none, none, none, none, some (.int v13), some (.int (0 : Int32)), none, none, none, none, none, none, none]) rfl ?_
      exact h
    · replace h := h.2 hc
      refine e_iconst C (v := (0 : Int32)) (by decide) dX7_heirs_31 (pc' := 32) rfl ?_
      exact r_int C F dX7_heirs_32 (by decide) (by decide) h
