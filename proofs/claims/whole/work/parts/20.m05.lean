abbrev rm_X7_thrown : Room := { frames := 0, cells := 0, slots := 0, locals := 0 }
set_option maxRecDepth 20000 in
theorem in_X7_thrown_X7 : ∀ w ∈ wsX70, w ∈ wsX7_thrown := by decide +kernel
set_option maxRecDepth 20000 in
theorem fl_X7_thrown_88 : Cond.fieldLink RX7 88 (TX7 0).1 (TX7 0).2.1 (TX7 0).2.2.1 ∈ wsX7_thrown := by decide +kernel
def F_X7_thrown (G : Gx) (p0 : Nat) (ws : va_W) (Q : Int32 → va_W → Prop) : Prop := qI 7 0 p0 ws (fun v1 => Q v1 ws)
set_option maxRecDepth 20000 in
set_option maxHeartbeats 4000000 in
theorem m_X7_thrown {G : Gx} (hst : (gl G).stackTraces = false) {p0 : Nat} {ws : va_W} {Q : Int32 → va_W → Prop} (h : F_X7_thrown G p0 ws Q) : Mt G yX7_thrown wsX7_thrown rm_X7_thrown [.ref p0] ws (QtI G Q) := by
  refine mk_Mt (cc := cX7_thrown) (nL := 1) (own := RX7) (ret := (some .int)) (lv0 := [some (.ref p0)]) hst (by decide) rfl rfl (Nat.le_of_ble_eq_true rfl) rfl ?_
  intro K C F
  refine e_aload_n C (x := p0) rfl dX7_thrown_0 (pc' := 1) rfl ?_
  refine f_getI C (ci := 7) (CN := RX7) (TT := TX7) (N := 36) 0 dX7_thrown_1 (pc' := 4) rfl in_X7_thrown_X7 rfl (by decide) fl_X7_thrown_88 h (fun v1 h => ?_)
  exact r_int C F dX7_thrown_4 (by decide) (by decide) h
abbrev rm_X7_throwsIf : Room := { frames := 0, cells := 0, slots := 0, locals := 0 }
set_option maxRecDepth 20000 in
theorem in_X7_throwsIf_X7 : ∀ w ∈ wsX70, w ∈ wsX7_throwsIf := by decide +kernel
set_option maxRecDepth 20000 in
theorem fl_X7_throwsIf_88 : Cond.fieldLink RX7 88 (TX7 0).1 (TX7 0).2.1 (TX7 0).2.2.1 ∈ wsX7_throwsIf := by decide +kernel
def F_X7_throwsIf (G : Gx) (p0 : Nat) (p1 : Int32) (p2 : Int32) (ws : va_W) (Q : Int32 → va_W → Prop) : Prop := ((p1 = 0 → ((p1 = 0 ∨ p1 = 1) ∧ Q p1 ws)) ∧ (¬ p1 = 0 → qP 7 0 p0 (.int p2) ws (fun ws => ((p1 = 0 ∨ p1 = 1) ∧ Q p1 ws))))
set_option maxRecDepth 20000 in
set_option maxHeartbeats 4000000 in
theorem m_X7_throwsIf {G : Gx} (hst : (gl G).stackTraces = false) {p0 : Nat} {p1 : Int32} {p2 : Int32} {ws : va_W} {Q : Int32 → va_W → Prop} (h : F_X7_throwsIf G p0 p1 p2 ws Q) : Mt G yX7_throwsIf wsX7_throwsIf rm_X7_throwsIf [.ref p0, .int p1, .int p2] ws (QtI G Q) := by
  refine mk_Mt (cc := cX7_throwsIf) (nL := 3) (own := RX7) (ret := (some .boolean)) (lv0 := [some (.ref p0), some (.int p1), some (.int p2)]) hst (by decide) rfl rfl (Nat.le_of_ble_eq_true rfl) rfl ?_
  intro K C F
  refine e_iload_n C (x := p1) rfl dX7_throwsIf_0 (pc' := 1) rfl ?_
  refine e_if_eq C (tg := 9) dX7_throwsIf_1 (by decide) (pc' := 4) rfl (fun hc => ?_) (fun hc => ?_)
  · replace h := h.1 hc
    refine e_iload_n C (x := p1) rfl dX7_throwsIf_9 (pc' := 10) rfl ?_
    exact r_bool C F dX7_throwsIf_10 (by decide) (by decide) h.1 h.2
  · replace h := h.2 hc
    refine e_aload_n C (x := p0) rfl dX7_throwsIf_4 (pc' := 5) rfl ?_
    refine e_iload_n C (x := p2) rfl dX7_throwsIf_5 (pc' := 6) rfl ?_
    refine f_putI C (ci := 7) (CN := RX7) (TT := TX7) (N := 36) 0 tyX7 dX7_throwsIf_6 (pc' := 9) rfl in_X7_throwsIf_X7 tyX7_ok nmX7 rfl (by decide) fl_X7_throwsIf_88 rfl (by decide +kernel) h (fun ws h => ?_)
    refine e_iload_n C (x := p1) rfl dX7_throwsIf_9 (pc' := 10) rfl ?_
    exact r_bool C F dX7_throwsIf_10 (by decide) (by decide) h.1 h.2
abbrev rm_X7_in : Room := { frames := 0, cells := 0, slots := 0, locals := 0 }
def F_X7_in (G : Gx) (p0 : Int32) (p1 : Int32) (p2 : Int32) (ws : va_W) (Q : Int32 → va_W → Prop) : Prop := ((p0 < p1 → Q (0 : Int32) ws) ∧ (¬ p0 < p1 → ((p2 < p0 → Q (0 : Int32) ws) ∧ (¬ p2 < p0 → Q (1 : Int32) ws))))
set_option maxRecDepth 20000 in
set_option maxHeartbeats 4000000 in
theorem m_X7_in {G : Gx} (hst : (gl G).stackTraces = false) {p0 : Int32} {p1 : Int32} {p2 : Int32} {ws : va_W} {Q : Int32 → va_W → Prop} (h : F_X7_in G p0 p1 p2 ws Q) : Mt G yX7_in wsX7_in rm_X7_in [.int p0, .int p1, .int p2] ws (QtI G Q) := by
  refine mk_Mt (cc := cX7_in) (nL := 3) (own := RX7) (ret := (some .boolean)) (lv0 := [some (.int p0), some (.int p1), some (.int p2)]) hst (by decide) rfl rfl (Nat.le_of_ble_eq_true rfl) rfl ?_
  intro K C F
  refine e_iload_n C (x := p0) rfl dX7_in_0 (pc' := 1) rfl ?_
  refine e_iload_n C (x := p1) rfl dX7_in_1 (pc' := 2) rfl ?_
  refine e_icmp_lt C (tg := 14) dX7_in_2 (by decide) (pc' := 5) rfl (fun hc => ?_) (fun hc => ?_)
  · replace h := h.1 hc
    refine e_iconst C (v := (0 : Int32)) (by decide) dX7_in_14 (pc' := 15) rfl ?_
    exact r_bool C F dX7_in_15 (by decide) (by decide) (Or.inl rfl) h
  · replace h := h.2 hc
    refine e_iload_n C (x := p0) rfl dX7_in_5 (pc' := 6) rfl ?_
    refine e_iload_n C (x := p2) rfl dX7_in_6 (pc' := 7) rfl ?_
    refine e_icmp_gt C (tg := 14) dX7_in_7 (by decide) (pc' := 10) rfl (fun hc => ?_) (fun hc => ?_)
    · replace h := h.1 hc
      refine e_iconst C (v := (0 : Int32)) (by decide) dX7_in_14 (pc' := 15) rfl ?_
      exact r_bool C F dX7_in_15 (by decide) (by decide) (Or.inl rfl) h
    · replace h := h.2 hc
      refine e_iconst C (v := (1 : Int32)) (by decide) dX7_in_10 (pc' := 11) rfl ?_
      refine e_goto C (tg := 15) dX7_in_11 (by decide) ?_
      exact r_bool C F dX7_in_15 (by decide) (by decide) (Or.inr rfl) h
abbrev rm_X7_noChannel : Room := { frames := 1, cells := 0, slots := 0, locals := 22 }
set_option maxRecDepth 20000 in
theorem in_X7_noChannel_X7 : ∀ w ∈ wsX70, w ∈ wsX7_noChannel := by decide +kernel
set_option maxRecDepth 20000 in
theorem fl_X7_noChannel_91 : Cond.fieldLink RX7 91 (TX7 10).1 (TX7 10).2.1 (TX7 10).2.2.1 ∈ wsX7_noChannel := by decide +kernel
def F_X7_noChannel (G : Gx) (p0 : Nat) (p1 : Int32) (ws : va_W) (Q : Int32 → va_W → Prop) : Prop := qI 7 10 p0 ws (fun v1 => (F_X7_in G p1 (0 : Int32) (v1 - (1 : Int32)) ws (fun v2 ws => ((¬ v2 = 0 → Q (0 : Int32) ws) ∧ (v2 = 0 → Q (1 : Int32) ws)))))
set_option maxRecDepth 20000 in
set_option maxHeartbeats 4000000 in
theorem m_X7_noChannel {G : Gx} (hst : (gl G).stackTraces = false) {p0 : Nat} {p1 : Int32} {ws : va_W} {Q : Int32 → va_W → Prop} (h : F_X7_noChannel G p0 p1 ws Q) : Mt G yX7_noChannel wsX7_noChannel rm_X7_noChannel [.ref p0, .int p1] ws (QtI G Q) := by
  refine mk_Mt (cc := cX7_noChannel) (nL := 2) (own := RX7) (ret := (some .boolean)) (lv0 := [some (.ref p0), some (.int p1)]) hst (by decide) rfl rfl (Nat.le_of_ble_eq_true rfl) rfl ?_
  intro K C F
  refine e_iload_n C (x := p1) rfl dX7_noChannel_0 (pc' := 1) rfl ?_
  refine e_iconst C (v := (0 : Int32)) (by decide) dX7_noChannel_1 (pc' := 2) rfl ?_
  refine e_aload_n C (x := p0) rfl dX7_noChannel_2 (pc' := 3) rfl ?_
  refine f_getI C (ci := 7) (CN := RX7) (TT := TX7) (N := 36) 10 dX7_noChannel_3 (pc' := 6) rfl in_X7_noChannel_X7 rfl (by decide) fl_X7_noChannel_91 h (fun v1 h => ?_)
  refine e_iconst C (v := (1 : Int32)) (by decide) dX7_noChannel_6 (pc' := 7) rfl ?_
  refine e_isub C dX7_noChannel_7 (pc' := 8) rfl ?_
  refine e_calli (run_S (n := 3) C (m_X7_in hst h) gX7_noChannel_X7_in rfl ⟨rfl, by decide, by decide, by decide +kernel⟩ ⟨by decide, by decide⟩ rfl (Nat.le_of_ble_eq_true rfl) dX7_noChannel_8 ⟨by decide, by decide⟩ (As := [.int p1, .int (0 : Int32), .int (v1 - (1 : Int32))]) rfl) (pc' := 11) rfl (cn' := 0) (sn' := 0) rfl rfl (fun v2 ws h => ?_)
  refine e_if_ne C (tg := 18) dX7_noChannel_11 (by decide) (pc' := 14) rfl (fun hc => ?_) (fun hc => ?_)
  · replace h := h.1 hc
    refine e_iconst C (v := (0 : Int32)) (by decide) dX7_noChannel_18 (pc' := 19) rfl ?_
    exact r_bool C F dX7_noChannel_19 (by decide) (by decide) (Or.inl rfl) h
  · replace h := h.2 hc
    refine e_iconst C (v := (1 : Int32)) (by decide) dX7_noChannel_14 (pc' := 15) rfl ?_
    refine e_goto C (tg := 19) dX7_noChannel_15 (by decide) ?_
    exact r_bool C F dX7_noChannel_19 (by decide) (by decide) (Or.inr rfl) h
abbrev rm_X7_noWell : Room := { frames := 2, cells := 0, slots := 0, locals := 43 }
set_option maxRecDepth 20000 in
theorem in_X7_noWell_X7 : ∀ w ∈ wsX70, w ∈ wsX7_noWell := by decide +kernel
set_option maxRecDepth 20000 in
theorem fl_X7_noWell_16 : Cond.fieldLink RX7 16 (TX7 5).1 (TX7 5).2.1 (TX7 5).2.2.1 ∈ wsX7_noWell := by decide +kernel
def F_X7_noWell (G : Gx) (p0 : Nat) (p1 : Int32) (p2 : Int32) (ws : va_W) (Q : Int32 → va_W → Prop) : Prop := (qV 7 p0 ws ∧ F_X7_noChannel G p0 p1 ws (fun v1 ws => ((¬ v1 = 0 → Q (1 : Int32) ws) ∧ (v1 = 0 → qR 7 5 p0 ws (fun v2 => qA (gc G 1) v2 p1 ws (fun v3 => (F_X7_in G p2 (0 : Int32) (v3 - (1 : Int32)) ws (fun v4 ws => ((¬ v4 = 0 → Q (0 : Int32) ws) ∧ (v4 = 0 → Q (1 : Int32) ws))))))))))
set_option maxRecDepth 20000 in
set_option maxHeartbeats 4000000 in
theorem m_X7_noWell {G : Gx} (hst : (gl G).stackTraces = false) {p0 : Nat} {p1 : Int32} {p2 : Int32} {ws : va_W} {Q : Int32 → va_W → Prop} (h : F_X7_noWell G p0 p1 p2 ws Q) : Mt G yX7_noWell wsX7_noWell rm_X7_noWell [.ref p0, .int p1, .int p2] ws (QtI G Q) := by
  refine mk_Mt (cc := cX7_noWell) (nL := 3) (own := RX7) (ret := (some .boolean)) (lv0 := [some (.ref p0), some (.int p1), some (.int p2)]) hst (by decide) rfl rfl (Nat.le_of_ble_eq_true rfl) rfl ?_
  intro K C F
  refine e_aload_n C (x := p0) rfl dX7_noWell_0 (pc' := 1) rfl ?_
  refine e_iload_n C (x := p1) rfl dX7_noWell_1 (pc' := 2) rfl ?_
  obtain ⟨hv, h⟩ := h
  refine e_calli (run_V (n := 1) C (m_X7_noChannel hst h) gX7_noWell_X7_noChannel rfl ⟨rfl, by decide, by decide, by decide +kernel⟩ ⟨by decide, by decide⟩ (ci := 7) rfl rfl hv rfl (Nat.le_of_ble_eq_true rfl) dX7_noWell_2 ⟨by decide, by decide⟩ (As := [.int p1]) rfl) (pc' := 5) rfl (cn' := 0) (sn' := 0) rfl rfl (fun v1 ws h => ?_)
  refine e_if_ne C (tg := 24) dX7_noWell_5 (by decide) (pc' := 8) rfl (fun hc => ?_) (fun hc => ?_)
  · replace h := h.1 hc
    refine e_iconst C (v := (1 : Int32)) (by decide) dX7_noWell_24 (pc' := 25) rfl ?_
    refine e_goto C (tg := 29) dX7_noWell_25 (by decide) ?_
    exact r_bool C F dX7_noWell_29 (by decide) (by decide) (Or.inr rfl) h
  · replace h := h.2 hc
    refine e_iload_n C (x := p2) rfl dX7_noWell_8 (pc' := 9) rfl ?_
    refine e_iconst C (v := (0 : Int32)) (by decide) dX7_noWell_9 (pc' := 10) rfl ?_
    refine e_aload_n C (x := p0) rfl dX7_noWell_10 (pc' := 11) rfl ?_
    refine f_getR C (ci := 7) (CN := RX7) (TT := TX7) (N := 36) 5 dX7_noWell_11 (pc' := 14) rfl in_X7_noWell_X7 rfl (by decide) fl_X7_noWell_16 h (fun v2 h => ?_)
    refine e_iload_n C (x := p1) rfl dX7_noWell_14 (pc' := 15) rfl ?_
    refine f_iaload C dX7_noWell_15 (pc' := 16) rfl h (fun v3 h => ?_)
    refine e_iconst C (v := (1 : Int32)) (by decide) dX7_noWell_16 (pc' := 17) rfl ?_
    refine e_isub C dX7_noWell_17 (pc' := 18) rfl ?_
    refine e_calli (run_S (n := 3) C (m_X7_in hst h) gX7_noWell_X7_in rfl ⟨rfl, by decide, by decide, by decide +kernel⟩ ⟨by decide, by decide⟩ rfl (Nat.le_of_ble_eq_true rfl) dX7_noWell_18 ⟨by decide, by decide⟩ (As := [.int p2, .int (0 : Int32), .int (v3 - (1 : Int32))]) rfl) (pc' := 21) rfl (cn' := 0) (sn' := 0) rfl rfl (fun v4 ws h => ?_)
    refine e_if_ne C (tg := 28) dX7_noWell_21 (by decide) (pc' := 24) rfl (fun hc => ?_) (fun hc => ?_)
    · replace h := h.1 hc
      refine e_iconst C (v := (0 : Int32)) (by decide) dX7_noWell_28 (pc' := 29) rfl ?_
      exact r_bool C F dX7_noWell_29 (by decide) (by decide) (Or.inl rfl) h
    · replace h := h.2 hc
      refine e_iconst C (v := (1 : Int32)) (by decide) dX7_noWell_24 (pc' := 25) rfl ?_
      refine e_goto C (tg := 29) dX7_noWell_25 (by decide) ?_
      exact r_bool C F dX7_noWell_29 (by decide) (by decide) (Or.inr rfl) h
abbrev rm_X7_noShare : Room := { frames := 1, cells := 0, slots := 0, locals := 22 }
set_option maxRecDepth 20000 in
theorem in_X7_noShare_X7 : ∀ w ∈ wsX70, w ∈ wsX7_noShare := by decide +kernel
set_option maxRecDepth 20000 in
theorem fl_X7_noShare_102 : Cond.fieldLink RX7 102 (TX7 17).1 (TX7 17).2.1 (TX7 17).2.2.1 ∈ wsX7_noShare := by decide +kernel
def F_X7_noShare (G : Gx) (p0 : Nat) (p1 : Int32) (ws : va_W) (Q : Int32 → va_W → Prop) : Prop := qI 7 17 p0 ws (fun v1 => (F_X7_in G p1 (0 : Int32) (v1 - (1 : Int32)) ws (fun v2 ws => ((¬ v2 = 0 → Q (0 : Int32) ws) ∧ (v2 = 0 → Q (1 : Int32) ws)))))
set_option maxRecDepth 20000 in
set_option maxHeartbeats 4000000 in
theorem m_X7_noShare {G : Gx} (hst : (gl G).stackTraces = false) {p0 : Nat} {p1 : Int32} {ws : va_W} {Q : Int32 → va_W → Prop} (h : F_X7_noShare G p0 p1 ws Q) : Mt G yX7_noShare wsX7_noShare rm_X7_noShare [.ref p0, .int p1] ws (QtI G Q) := by
  refine mk_Mt (cc := cX7_noShare) (nL := 2) (own := RX7) (ret := (some .boolean)) (lv0 := [some (.ref p0), some (.int p1)]) hst (by decide) rfl rfl (Nat.le_of_ble_eq_true rfl) rfl ?_
  intro K C F
  refine e_iload_n C (x := p1) rfl dX7_noShare_0 (pc' := 1) rfl ?_
  refine e_iconst C (v := (0 : Int32)) (by decide) dX7_noShare_1 (pc' := 2) rfl ?_
  refine e_aload_n C (x := p0) rfl dX7_noShare_2 (pc' := 3) rfl ?_
  refine f_getI C (ci := 7) (CN := RX7) (TT := TX7) (N := 36) 17 dX7_noShare_3 (pc' := 6) rfl in_X7_noShare_X7 rfl (by decide) fl_X7_noShare_102 h (fun v1 h => ?_)
  refine e_iconst C (v := (1 : Int32)) (by decide) dX7_noShare_6 (pc' := 7) rfl ?_
  refine e_isub C dX7_noShare_7 (pc' := 8) rfl ?_
  refine e_calli (run_S (n := 3) C (m_X7_in hst h) gX7_noShare_X7_in rfl ⟨rfl, by decide, by decide, by decide +kernel⟩ ⟨by decide, by decide⟩ rfl (Nat.le_of_ble_eq_true rfl) dX7_noShare_8 ⟨by decide, by decide⟩ (As := [.int p1, .int (0 : Int32), .int (v1 - (1 : Int32))]) rfl) (pc' := 11) rfl (cn' := 0) (sn' := 0) rfl rfl (fun v2 ws h => ?_)
  refine e_if_ne C (tg := 18) dX7_noShare_11 (by decide) (pc' := 14) rfl (fun hc => ?_) (fun hc => ?_)
  · replace h := h.1 hc
    refine e_iconst C (v := (0 : Int32)) (by decide) dX7_noShare_18 (pc' := 19) rfl ?_
    exact r_bool C F dX7_noShare_19 (by decide) (by decide) (Or.inl rfl) h
  · replace h := h.2 hc
    refine e_iconst C (v := (1 : Int32)) (by decide) dX7_noShare_14 (pc' := 15) rfl ?_
    refine e_goto C (tg := 19) dX7_noShare_15 (by decide) ?_
    exact r_bool C F dX7_noShare_19 (by decide) (by decide) (Or.inr rfl) h
abbrev rm_X7_ground : Room := { frames := 1, cells := 0, slots := 0, locals := 22 }
set_option maxRecDepth 20000 in
theorem in_X7_ground_X7 : ∀ w ∈ wsX70, w ∈ wsX7_ground := by decide +kernel
set_option maxRecDepth 20000 in
theorem fl_X7_ground_88 : Cond.fieldLink RX7 88 (TX7 0).1 (TX7 0).2.1 (TX7 0).2.2.1 ∈ wsX7_ground := by decide +kernel
set_option maxRecDepth 20000 in
theorem fl_X7_ground_7 : Cond.fieldLink RX7 7 (TX7 1).1 (TX7 1).2.1 (TX7 1).2.2.1 ∈ wsX7_ground := by decide +kernel
set_option maxRecDepth 20000 in
theorem fl_X7_ground_13 : Cond.fieldLink RX7 13 (TX7 2).1 (TX7 2).2.1 (TX7 2).2.2.1 ∈ wsX7_ground := by decide +kernel
def F_X7_ground (G : Gx) (p0 : Nat) (p1 : Int32) (p2 : Int32) (ws : va_W) (Q : va_W → Prop) : Prop := ∀ (J27 : Nat → va_W → Prop), ∀ (J32 : Int32 → Nat → va_W → Prop), (∀ (t0 : Nat) (ws : va_W), J32 (1 : Int32) t0 ws → J27 t0 ws) → (∀ (t0 : Int32) (t1 : Nat) (ws : va_W), (qV 7 t1 ws ∧ F_X7_throwsIf G t1 t0 (1 : Int32) ws (fun v3 ws => ((v3 = 0 → qP 7 1 p0 (.int p1) ws (fun ws => qP 7 2 p0 (.int p2) ws (fun ws => Q ws))) ∧ (¬ v3 = 0 → Q ws)))) → J32 t0 t1 ws) → qP 7 0 p0 (.int (0 : Int32)) ws (fun ws => (F_X7_in G p1 (0 : Int32) (2000 : Int32) ws (fun v1 ws => ((v1 = 0 → J27 p0 ws) ∧ (¬ v1 = 0 → (F_X7_in G p2 (0 : Int32) (20 : Int32) ws (fun v2 ws => ((¬ v2 = 0 → J32 (0 : Int32) p0 ws) ∧ (v2 = 0 → J27 p0 ws)))))))))
set_option maxRecDepth 20000 in
set_option maxHeartbeats 4000000 in
theorem m_X7_ground {G : Gx} (hst : (gl G).stackTraces = false) {p0 : Nat} {p1 : Int32} {p2 : Int32} {ws : va_W} {Q : va_W → Prop} (h : F_X7_ground G p0 p1 p2 ws Q) : Mt G yX7_ground wsX7_ground rm_X7_ground [.ref p0, .int p1, .int p2] ws (QtV G Q) := by
  refine mk_Mt (cc := cX7_ground) (nL := 3) (own := RX7) (ret := none) (lv0 := [some (.ref p0), some (.int p1), some (.int p2)]) hst (by decide) rfl rfl (Nat.le_of_ble_eq_true rfl) rfl ?_
  intro K C F
  replace h := h (fun t0 ws => Ev K G 3 0 0 27 [some (.ref p0), some (.int p1), some (.int p2)] [.ref t0] ws) (fun t0 t1 ws => Ev K G 3 0 0 32 [some (.ref p0), some (.int p1), some (.int p2)] [.int t0, .ref t1] ws)
  replace h := h (by
    intro t0 ws h
    show Ev K G 3 0 0 27 [some (.ref p0), some (.int p1), some (.int p2)] [.ref t0] ws
    refine e_iconst C (v := (1 : Int32)) (by decide) dX7_ground_27 (pc' := 28) rfl ?_
    refine e_goto C (tg := 32) dX7_ground_28 (by decide) ?_
    exact h)
  replace h := h (by
    intro t0 t1 ws h
    show Ev K G 3 0 0 32 [some (.ref p0), some (.int p1), some (.int p2)] [.int t0, .ref t1] ws
    refine e_iconst C (v := (1 : Int32)) (by decide) dX7_ground_32 (pc' := 33) rfl ?_
    obtain ⟨hv, h⟩ := h
    refine e_calli (run_V (n := 2) C (m_X7_throwsIf hst h) gX7_ground_X7_throwsIf rfl ⟨rfl, by decide, by decide, by decide +kernel⟩ ⟨by decide, by decide⟩ (ci := 7) rfl rfl hv rfl (Nat.le_of_ble_eq_true rfl) dX7_ground_33 ⟨by decide, by decide⟩ (As := [.int t0, .int (1 : Int32)]) rfl) (pc' := 36) rfl (cn' := 0) (sn' := 0) rfl rfl (fun v3 ws h => ?_)
    refine e_if_eq C (tg := 40) dX7_ground_36 (by decide) (pc' := 39) rfl (fun hc => ?_) (fun hc => ?_)
    · replace h := h.1 hc
      refine e_aload_n C (x := p0) rfl dX7_ground_40 (pc' := 41) rfl ?_
      refine e_iload_n C (x := p1) rfl dX7_ground_41 (pc' := 42) rfl ?_
      refine f_putI C (ci := 7) (CN := RX7) (TT := TX7) (N := 36) 1 tyX7 dX7_ground_42 (pc' := 45) rfl in_X7_ground_X7 tyX7_ok nmX7 rfl (by decide) fl_X7_ground_7 rfl (by decide +kernel) h (fun ws h => ?_)
      refine e_aload_n C (x := p0) rfl dX7_ground_45 (pc' := 46) rfl ?_
      refine e_iload_n C (x := p2) rfl dX7_ground_46 (pc' := 47) rfl ?_
      refine f_putI C (ci := 7) (CN := RX7) (TT := TX7) (N := 36) 2 tyX7 dX7_ground_47 (pc' := 50) rfl in_X7_ground_X7 tyX7_ok nmX7 rfl (by decide) fl_X7_ground_13 rfl (by decide +kernel) h (fun ws h => ?_)
      exact r_void C F dX7_ground_50 (by decide) (by decide) h
    · replace h := h.2 hc
      exact r_void C F dX7_ground_39 (by decide) (by decide) h)
  refine e_aload_n C (x := p0) rfl dX7_ground_0 (pc' := 1) rfl ?_
  refine e_iconst C (v := (0 : Int32)) (by decide) dX7_ground_1 (pc' := 2) rfl ?_
  refine f_putI C (ci := 7) (CN := RX7) (TT := TX7) (N := 36) 0 tyX7 dX7_ground_2 (pc' := 5) rfl in_X7_ground_X7 tyX7_ok nmX7 rfl (by decide) fl_X7_ground_88 rfl (by decide +kernel) h (fun ws h => ?_)
  refine e_aload_n C (x := p0) rfl dX7_ground_5 (pc' := 6) rfl ?_
  refine e_iload_n C (x := p1) rfl dX7_ground_6 (pc' := 7) rfl ?_
  refine e_iconst C (v := (0 : Int32)) (by decide) dX7_ground_7 (pc' := 8) rfl ?_
  refine e_sipush C (v := (2000 : Int32)) (by decide) dX7_ground_8 (pc' := 11) rfl ?_
  refine e_calli (run_S (n := 3) C (m_X7_in hst h) gX7_ground_X7_in rfl ⟨rfl, by decide, by decide, by decide +kernel⟩ ⟨by decide, by decide⟩ rfl (Nat.le_of_ble_eq_true rfl) dX7_ground_11 ⟨by decide, by decide⟩ (As := [.int p1, .int (0 : Int32), .int (2000 : Int32)]) rfl) (pc' := 14) rfl (cn' := 0) (sn' := 0) rfl rfl (fun v1 ws h => ?_)
  refine e_if_eq C (tg := 27) dX7_ground_14 (by decide) (pc' := 17) rfl (fun hc => ?_) (fun hc => ?_)
  · replace h := h.1 hc
    exact h
  · replace h := h.2 hc
    refine e_iload_n C (x := p2) rfl dX7_ground_17 (pc' := 18) rfl ?_
    refine e_iconst C (v := (0 : Int32)) (by decide) dX7_ground_18 (pc' := 19) rfl ?_
    refine e_bipush C (v := (20 : Int32)) (by decide) dX7_ground_19 (pc' := 21) rfl ?_
    refine e_calli (run_S (n := 3) C (m_X7_in hst h) gX7_ground_X7_in rfl ⟨rfl, by decide, by decide, by decide +kernel⟩ ⟨by decide, by decide⟩ rfl (Nat.le_of_ble_eq_true rfl) dX7_ground_21 ⟨by decide, by decide⟩ (As := [.int p2, .int (0 : Int32), .int (20 : Int32)]) rfl) (pc' := 24) rfl (cn' := 0) (sn' := 0) rfl rfl (fun v2 ws h => ?_)
    refine e_if_ne C (tg := 31) dX7_ground_24 (by decide) (pc' := 27) rfl (fun hc => ?_) (fun hc => ?_)
    · replace h := h.1 hc
      refine e_iconst C (v := (0 : Int32)) (by decide) dX7_ground_31 (pc' := 32) rfl ?_
      exact h
    · replace h := h.2 hc
      exact h
abbrev rm_X7_channel : Room := { frames := 1, cells := 0, slots := 0, locals := 22 }
set_option maxRecDepth 20000 in
theorem in_X7_channel_X7 : ∀ w ∈ wsX70, w ∈ wsX7_channel := by decide +kernel
set_option maxRecDepth 20000 in
theorem fl_X7_channel_88 : Cond.fieldLink RX7 88 (TX7 0).1 (TX7 0).2.1 (TX7 0).2.2.1 ∈ wsX7_channel := by decide +kernel
set_option maxRecDepth 20000 in
theorem fl_X7_channel_91 : Cond.fieldLink RX7 91 (TX7 10).1 (TX7 10).2.1 (TX7 10).2.2.1 ∈ wsX7_channel := by decide +kernel
def F_X7_channel (G : Gx) (p0 : Nat) (ws : va_W) (Q : Int32 → va_W → Prop) : Prop := ∀ (J20 : Int32 → Nat → va_W → Prop), (∀ (t0 : Int32) (t1 : Nat) (ws : va_W), (qV 7 t1 ws ∧ F_X7_throwsIf G t1 t0 (1 : Int32) ws (fun v2 ws => ((v2 = 0 → qI 7 10 p0 ws (fun v3 => qP 7 10 p0 (.int (v3 + (1 : Int32))) ws (fun ws => qI 7 10 p0 ws (fun v4 => Q (v4 - (1 : Int32)) ws)))) ∧ (¬ v2 = 0 → Q (0 : Int32) ws)))) → J20 t0 t1 ws) → qP 7 0 p0 (.int (0 : Int32)) ws (fun ws => qI 7 10 p0 ws (fun v1 => ((¬ v1 = (8 : Int32) → J20 (0 : Int32) p0 ws) ∧ (v1 = (8 : Int32) → J20 (1 : Int32) p0 ws))))
set_option maxRecDepth 20000 in
set_option maxHeartbeats 4000000 in
theorem m_X7_channel {G : Gx} (hst : (gl G).stackTraces = false) {p0 : Nat} {ws : va_W} {Q : Int32 → va_W → Prop} (h : F_X7_channel G p0 ws Q) : Mt G yX7_channel wsX7_channel rm_X7_channel [.ref p0] ws (QtI G Q) := by
  refine mk_Mt (cc := cX7_channel) (nL := 1) (own := RX7) (ret := (some .int)) (lv0 := [some (.ref p0)]) hst (by decide) rfl rfl (Nat.le_of_ble_eq_true rfl) rfl ?_
  intro K C F
  replace h := h (fun t0 t1 ws => Ev K G 1 0 0 20 [some (.ref p0)] [.int t0, .ref t1] ws)
  replace h := h (by
    intro t0 t1 ws h
    show Ev K G 1 0 0 20 [some (.ref p0)] [.int t0, .ref t1] ws
    refine e_iconst C (v := (1 : Int32)) (by decide) dX7_channel_20 (pc' := 21) rfl ?_
    obtain ⟨hv, h⟩ := h
    refine e_calli (run_V (n := 2) C (m_X7_throwsIf hst h) gX7_channel_X7_throwsIf rfl ⟨rfl, by decide, by decide, by decide +kernel⟩ ⟨by decide, by decide⟩ (ci := 7) rfl rfl hv rfl (Nat.le_of_ble_eq_true rfl) dX7_channel_21 ⟨by decide, by decide⟩ (As := [.int t0, .int (1 : Int32)]) rfl) (pc' := 24) rfl (cn' := 0) (sn' := 0) rfl rfl (fun v2 ws h => ?_)
    refine e_if_eq C (tg := 29) dX7_channel_24 (by decide) (pc' := 27) rfl (fun hc => ?_) (fun hc => ?_)
    · replace h := h.1 hc
      refine e_aload_n C (x := p0) rfl dX7_channel_29 (pc' := 30) rfl ?_
      refine e_dup C rfl dX7_channel_30 (pc' := 31) rfl ?_
      refine f_getI C (ci := 7) (CN := RX7) (TT := TX7) (N := 36) 10 dX7_channel_31 (pc' := 34) rfl in_X7_channel_X7 rfl (by decide) fl_X7_channel_91 h (fun v3 h => ?_)
      refine e_iconst C (v := (1 : Int32)) (by decide) dX7_channel_34 (pc' := 35) rfl ?_
      refine e_iadd C dX7_channel_35 (pc' := 36) rfl ?_
      refine f_putI C (ci := 7) (CN := RX7) (TT := TX7) (N := 36) 10 tyX7 dX7_channel_36 (pc' := 39) rfl in_X7_channel_X7 tyX7_ok nmX7 rfl (by decide) fl_X7_channel_91 rfl (by decide +kernel) h (fun ws h => ?_)
      refine e_aload_n C (x := p0) rfl dX7_channel_39 (pc' := 40) rfl ?_
      refine f_getI C (ci := 7) (CN := RX7) (TT := TX7) (N := 36) 10 dX7_channel_40 (pc' := 43) rfl in_X7_channel_X7 rfl (by decide) fl_X7_channel_91 h (fun v4 h => ?_)
      refine e_iconst C (v := (1 : Int32)) (by decide) dX7_channel_43 (pc' := 44) rfl ?_
      refine e_isub C dX7_channel_44 (pc' := 45) rfl ?_
      exact r_int C F dX7_channel_45 (by decide) (by decide) h
    · replace h := h.2 hc
      refine e_iconst C (v := (0 : Int32)) (by decide) dX7_channel_27 (pc' := 28) rfl ?_
      exact r_int C F dX7_channel_28 (by decide) (by decide) h)
  refine e_aload_n C (x := p0) rfl dX7_channel_0 (pc' := 1) rfl ?_
  refine e_iconst C (v := (0 : Int32)) (by decide) dX7_channel_1 (pc' := 2) rfl ?_
  refine f_putI C (ci := 7) (CN := RX7) (TT := TX7) (N := 36) 0 tyX7 dX7_channel_2 (pc' := 5) rfl in_X7_channel_X7 tyX7_ok nmX7 rfl (by decide) fl_X7_channel_88 rfl (by decide +kernel) h (fun ws h => ?_)
  refine e_aload_n C (x := p0) rfl dX7_channel_5 (pc' := 6) rfl ?_
  refine e_aload_n C (x := p0) rfl dX7_channel_6 (pc' := 7) rfl ?_
  refine f_getI C (ci := 7) (CN := RX7) (TT := TX7) (N := 36) 10 dX7_channel_7 (pc' := 10) rfl in_X7_channel_X7 rfl (by decide) fl_X7_channel_91 h (fun v1 h => ?_)
  refine e_bipush C (v := (8 : Int32)) (by decide) dX7_channel_10 (pc' := 12) rfl ?_
  refine e_icmp_ne C (tg := 19) dX7_channel_12 (by decide) (pc' := 15) rfl (fun hc => ?_) (fun hc => ?_)
  · replace h := h.1 hc
    refine e_iconst C (v := (0 : Int32)) (by decide) dX7_channel_19 (pc' := 20) rfl ?_
    exact h
  · replace h := h.2 hc
    refine e_iconst C (v := (1 : Int32)) (by decide) dX7_channel_15 (pc' := 16) rfl ?_
    refine e_goto C (tg := 20) dX7_channel_16 (by decide) ?_
    exact h
abbrev rm_X7_well : Room := { frames := 2, cells := 0, slots := 0, locals := 43 }
set_option maxRecDepth 20000 in
theorem in_X7_well_X7 : ∀ w ∈ wsX70, w ∈ wsX7_well := by decide +kernel
set_option maxRecDepth 20000 in
theorem fl_X7_well_88 : Cond.fieldLink RX7 88 (TX7 0).1 (TX7 0).2.1 (TX7 0).2.2.1 ∈ wsX7_well := by decide +kernel
set_option maxRecDepth 20000 in
theorem fl_X7_well_20 : Cond.fieldLink RX7 20 (TX7 6).1 (TX7 6).2.1 (TX7 6).2.2.1 ∈ wsX7_well := by decide +kernel
set_option maxRecDepth 20000 in
theorem fl_X7_well_16 : Cond.fieldLink RX7 16 (TX7 5).1 (TX7 5).2.1 (TX7 5).2.2.1 ∈ wsX7_well := by decide +kernel
set_option maxRecDepth 20000 in
theorem fl_X7_well_39 : Cond.fieldLink RX7 39 (TX7 14).1 (TX7 14).2.1 (TX7 14).2.2.1 ∈ wsX7_well := by decide +kernel
set_option maxRecDepth 20000 in
theorem fl_X7_well_33 : Cond.fieldLink RX7 33 (TX7 12).1 (TX7 12).2.1 (TX7 12).2.2.1 ∈ wsX7_well := by decide +kernel
set_option maxRecDepth 20000 in
theorem fl_X7_well_36 : Cond.fieldLink RX7 36 (TX7 13).1 (TX7 13).2.1 (TX7 13).2.2.1 ∈ wsX7_well := by decide +kernel
def F_X7_well (G : Gx) (p0 : Nat) (p1 : Int32) (p2 : Int32) (p3 : Int32) (p4 : Int32) (ws : va_W) (Q : Int32 → va_W → Prop) : Prop := ∀ (J106 : Int32 → va_W → Prop), ∀ (J102 : Int32 → va_W → Prop), ∀ (J107 : Int32 → Int32 → va_W → Prop), ∀ (J120 : Int32 → Int32 → Nat → va_W → Prop), ∀ (J144 : Int32 → Int32 → Nat → va_W → Prop), (∀ (x5 : Int32) (ws : va_W), J107 x5 (0 : Int32) ws → J106 x5 ws) → (∀ (x5 : Int32) (ws : va_W), J107 x5 (1 : Int32) ws → J102 x5 ws) → (∀ (x5 : Int32) (t0 : Int32) (ws : va_W), ((¬ t0 = 0 → J120 x5 (0 : Int32) p0 ws) ∧ (t0 = 0 → J120 x5 (1 : Int32) p0 ws)) → J107 x5 t0 ws) → (∀ (x5 : Int32) (t0 : Int32) (t1 : Nat) (ws : va_W), (qV 7 t1 ws ∧ F_X7_throwsIf G t1 t0 (3 : Int32) ws (fun v15 ws => ((¬ v15 = 0 → Q (0 : Int32) ws) ∧ (v15 = 0 → qR 7 5 p0 ws (fun v16 => qA (gc G 1) v16 p1 ws (fun v17 => ((¬ v17 = (20 : Int32) → J144 x5 (0 : Int32) p0 ws) ∧ (v17 = (20 : Int32) → J144 x5 (1 : Int32) p0 ws)))))))) → J120 x5 t0 t1 ws) → (∀ (x5 : Int32) (t0 : Int32) (t1 : Nat) (ws : va_W), (qV 7 t1 ws ∧ F_X7_throwsIf G t1 t0 (4 : Int32) ws (fun v18 ws => ((v18 = 0 → qR 7 12 p0 ws (fun v19 => qS (gc G 1) v19 x5 p2 ws (fun ws => qR 7 13 p0 ws (fun v20 => qS (gc G 1) v20 x5 p3 ws (fun ws => qR 7 14 p0 ws (fun v21 => qS (gc G 1) v21 x5 p4 ws (fun ws => qR 7 5 p0 ws (fun v22 => qA (gc G 1) v22 p1 ws (fun v23 => qS (gc G 1) v22 p1 (v23 + (1 : Int32)) ws (fun ws => qR 7 5 p0 ws (fun v24 => qA (gc G 1) v24 p1 ws (fun v25 => Q (v25 - (1 : Int32)) ws)))))))))))) ∧ (¬ v18 = 0 → Q (0 : Int32) ws)))) → J144 x5 t0 t1 ws) → qP 7 0 p0 (.int (0 : Int32)) ws (fun ws => (qV 7 p0 ws ∧ F_X7_noChannel G p0 p1 ws (fun v1 ws => (qV 7 p0 ws ∧ F_X7_throwsIf G p0 v1 (1 : Int32) ws (fun v2 ws => ((¬ v2 = 0 → Q (0 : Int32) ws) ∧ (v2 = 0 → qR 7 6 p0 ws (fun v3 => qA (gc G 2) v3 p1 ws (fun v4 => (qV 7 p0 ws ∧ F_X7_throwsIf G p0 v4 (2 : Int32) ws (fun v5 ws => ((v5 = 0 → qR 7 5 p0 ws (fun v6 => qA (gc G 1) v6 p1 ws (fun v7 => (F_X7_in G p2 (0 : Int32) (100 : Int32) ws (fun v8 ws => ((v8 = 0 → J106 (((20 : Int32) * p1) + v7) ws) ∧ (¬ v8 = 0 → (F_X7_in G p3 (0 : Int32) (100 : Int32) ws (fun v9 ws => ((v9 = 0 → J106 (((20 : Int32) * p1) + v7) ws) ∧ (¬ v9 = 0 → (F_X7_in G p4 (0 : Int32) (1000 : Int32) ws (fun v10 ws => ((v10 = 0 → J106 (((20 : Int32) * p1) + v7) ws) ∧ (¬ v10 = 0 → qR 7 5 p0 ws (fun v11 => qA (gc G 1) v11 p1 ws (fun v12 => ((v12 = 0 → J102 (((20 : Int32) * p1) + v7) ws) ∧ (¬ v12 = 0 → qR 7 14 p0 ws (fun v13 => qA (gc G 1) v13 ((((20 : Int32) * p1) + v7) - (1 : Int32)) ws (fun v14 => ((p4 < v14 → J106 (((20 : Int32) * p1) + v7) ws) ∧ (¬ p4 < v14 → J102 (((20 : Int32) * p1) + v7) ws))))))))))))))))))))))) ∧ (¬ v5 = 0 → Q (0 : Int32) ws)))))))))))))
set_option maxRecDepth 20000 in
set_option maxHeartbeats 4000000 in
theorem m_X7_well {G : Gx} (hst : (gl G).stackTraces = false) {p0 : Nat} {p1 : Int32} {p2 : Int32} {p3 : Int32} {p4 : Int32} {ws : va_W} {Q : Int32 → va_W → Prop} (h : F_X7_well G p0 p1 p2 p3 p4 ws Q) : Mt G yX7_well wsX7_well rm_X7_well [.ref p0, .int p1, .int p2, .int p3, .int p4] ws (QtI G Q) := by
  refine mk_Mt (cc := cX7_well) (nL := 7) (own := RX7) (ret := (some .int)) (lv0 := [some (.ref p0), some (.int p1), some (.int p2), some (.int p3), some (.int p4), none, none]) hst (by decide) rfl rfl (Nat.le_of_ble_eq_true rfl) rfl ?_
  intro K C F
  replace h := h (fun x5 ws => Ev K G 7 0 0 106 [some (.ref p0), some (.int p1), some (.int p2), some (.int p3), some (.int p4), some (.int x5), none] [] ws) (fun x5 ws => Ev K G 7 0 0 102 [some (.ref p0), some (.int p1), some (.int p2), some (.int p3), some (.int p4), some (.int x5), none] [] ws) (fun x5 t0 ws => Ev K G 7 0 0 107 [some (.ref p0), some (.int p1), some (.int p2), some (.int p3), some (.int p4), some (.int x5), none] [.int t0] ws) (fun x5 t0 t1 ws => Ev K G 7 0 0 120 [some (.ref p0), some (.int p1), some (.int p2), some (.int p3), some (.int p4), some (.int x5), none] [.int t0, .ref t1] ws) (fun x5 t0 t1 ws => Ev K G 7 0 0 144 [some (.ref p0), some (.int p1), some (.int p2), some (.int p3), some (.int p4), some (.int x5), none] [.int t0, .ref t1] ws)
  replace h := h (by
    intro x5 ws h
    show Ev K G 7 0 0 106 [some (.ref p0), some (.int p1), some (.int p2), some (.int p3), some (.int p4), some (.int x5), none] [] ws
    refine e_iconst C (v := (0 : Int32)) (by decide) dX7_well_106 (pc' := 107) rfl ?_
    exact h)
  replace h := h (by
    intro x5 ws h
    show Ev K G 7 0 0 102 [some (.ref p0), some (.int p1), some (.int p2), some (.int p3), some (.int p4), some (.int x5), none] [] ws
    refine e_iconst C (v := (1 : Int32)) (by decide) dX7_well_102 (pc' := 103) rfl ?_
    refine e_goto C (tg := 107) dX7_well_103 (by decide) ?_
    exact h)
  replace h := h (by
    intro x5 t0 ws h
    show Ev K G 7 0 0 107 [some (.ref p0), some (.int p1), some (.int p2), some (.int p3), some (.int p4), some (.int x5), none] [.int t0] ws
    refine e_istore C (by decide) dX7_well_107 (pc' := 109) rfl (lv' := [some (.ref p0), some (.int p1), some (.int p2), some (.int p3), some (.int p4), some (.int x5), some (.int t0)]) rfl ?_
    refine e_aload_n C (x := p0) rfl dX7_well_109 (pc' := 110) rfl ?_
    refine e_iload C (x := t0) rfl dX7_well_110 (pc' := 112) rfl ?_
    refine e_if_ne C (tg := 119) dX7_well_112 (by decide) (pc' := 115) rfl (fun hc => ?_) (fun hc => ?_)
    · replace h := h.1 hc
      refine e_iconst C (v := (0 : Int32)) (by decide) dX7_well_119 (pc' := 120) rfl ?_
      refine e_mask [true, true, true, true, true, true, false] (lv' := [some (.ref p0), some (.int p1), some (.int p2), some (.int p3), some (.int p4), some (.int x5), none]) rfl ?_
      exact h
    · replace h := h.2 hc
      refine e_iconst C (v := (1 : Int32)) (by decide) dX7_well_115 (pc' := 116) rfl ?_
      refine e_goto C (tg := 120) dX7_well_116 (by decide) ?_
      refine e_mask [true, true, true, true, true, true, false] (lv' := [some (.ref p0), some (.int p1), some (.int p2), some (.int p3), some (.int p4), some (.int x5), none]) rfl ?_
      exact h)
  replace h := h (by
    intro x5 t0 t1 ws h
    show Ev K G 7 0 0 120 [some (.ref p0), some (.int p1), some (.int p2), some (.int p3), some (.int p4), some (.int x5), none] [.int t0, .ref t1] ws
    refine e_iconst C (v := (3 : Int32)) (by decide) dX7_well_120 (pc' := 121) rfl ?_
    obtain ⟨hv, h⟩ := h
    refine e_calli (run_V (n := 2) C (m_X7_throwsIf hst h) gX7_well_X7_throwsIf rfl ⟨rfl, by decide, by decide, by decide +kernel⟩ ⟨by decide, by decide⟩ (ci := 7) rfl rfl hv rfl (Nat.le_of_ble_eq_true rfl) dX7_well_121 ⟨by decide, by decide⟩ (As := [.int t0, .int (3 : Int32)]) rfl) (pc' := 124) rfl (cn' := 0) (sn' := 0) rfl rfl (fun v15 ws h => ?_)
    refine e_if_ne C (tg := 151) dX7_well_124 (by decide) (pc' := 127) rfl (fun hc => ?_) (fun hc => ?_)
    · replace h := h.1 hc
      refine e_iconst C (v := (0 : Int32)) (by decide) dX7_well_151 (pc' := 152) rfl ?_
      exact r_int C F dX7_well_152 (by decide) (by decide) h
    · replace h := h.2 hc
      refine e_aload_n C (x := p0) rfl dX7_well_127 (pc' := 128) rfl ?_
      refine e_aload_n C (x := p0) rfl dX7_well_128 (pc' := 129) rfl ?_
      refine f_getR C (ci := 7) (CN := RX7) (TT := TX7) (N := 36) 5 dX7_well_129 (pc' := 132) rfl in_X7_well_X7 rfl (by decide) fl_X7_well_16 h (fun v16 h => ?_)
      refine e_iload_n C (x := p1) rfl dX7_well_132 (pc' := 133) rfl ?_
      refine f_iaload C dX7_well_133 (pc' := 134) rfl h (fun v17 h => ?_)
      refine e_bipush C (v := (20 : Int32)) (by decide) dX7_well_134 (pc' := 136) rfl ?_
      refine e_icmp_ne C (tg := 143) dX7_well_136 (by decide) (pc' := 139) rfl (fun hc => ?_) (fun hc => ?_)
      · replace h := h.1 hc
        refine e_iconst C (v := (0 : Int32)) (by decide) dX7_well_143 (pc' := 144) rfl ?_
        exact h
      · replace h := h.2 hc
        refine e_iconst C (v := (1 : Int32)) (by decide) dX7_well_139 (pc' := 140) rfl ?_
        refine e_goto C (tg := 144) dX7_well_140 (by decide) ?_
        exact h)
  replace h := h (by
    intro x5 t0 t1 ws h
    show Ev K G 7 0 0 144 [some (.ref p0), some (.int p1), some (.int p2), some (.int p3), some (.int p4), some (.int x5), none] [.int t0, .ref t1] ws
    refine e_iconst C (v := (4 : Int32)) (by decide) dX7_well_144 (pc' := 145) rfl ?_
    obtain ⟨hv, h⟩ := h
    refine e_calli (run_V (n := 2) C (m_X7_throwsIf hst h) gX7_well_X7_throwsIf rfl ⟨rfl, by decide, by decide, by decide +kernel⟩ ⟨by decide, by decide⟩ (ci := 7) rfl rfl hv rfl (Nat.le_of_ble_eq_true rfl) dX7_well_145 ⟨by decide, by decide⟩ (As := [.int t0, .int (4 : Int32)]) rfl) (pc' := 148) rfl (cn' := 0) (sn' := 0) rfl rfl (fun v18 ws h => ?_)
    refine e_if_eq C (tg := 153) dX7_well_148 (by decide) (pc' := 151) rfl (fun hc => ?_) (fun hc => ?_)
    · replace h := h.1 hc
      refine e_aload_n C (x := p0) rfl dX7_well_153 (pc' := 154) rfl ?_
      refine f_getR C (ci := 7) (CN := RX7) (TT := TX7) (N := 36) 12 dX7_well_154 (pc' := 157) rfl in_X7_well_X7 rfl (by decide) fl_X7_well_33 h (fun v19 h => ?_)
      refine e_iload C (x := x5) rfl dX7_well_157 (pc' := 159) rfl ?_
      refine e_iload_n C (x := p2) rfl dX7_well_159 (pc' := 160) rfl ?_
      refine f_iastore C dX7_well_160 (pc' := 161) rfl h (fun ws h => ?_)
      refine e_aload_n C (x := p0) rfl dX7_well_161 (pc' := 162) rfl ?_
      refine f_getR C (ci := 7) (CN := RX7) (TT := TX7) (N := 36) 13 dX7_well_162 (pc' := 165) rfl in_X7_well_X7 rfl (by decide) fl_X7_well_36 h (fun v20 h => ?_)
      refine e_iload C (x := x5) rfl dX7_well_165 (pc' := 167) rfl ?_
      refine e_iload_n C (x := p3) rfl dX7_well_167 (pc' := 168) rfl ?_
      refine f_iastore C dX7_well_168 (pc' := 169) rfl h (fun ws h => ?_)
      refine e_aload_n C (x := p0) rfl dX7_well_169 (pc' := 170) rfl ?_
      refine f_getR C (ci := 7) (CN := RX7) (TT := TX7) (N := 36) 14 dX7_well_170 (pc' := 173) rfl in_X7_well_X7 rfl (by decide) fl_X7_well_39 h (fun v21 h => ?_)
      refine e_iload C (x := x5) rfl dX7_well_173 (pc' := 175) rfl ?_
      refine e_iload C (x := p4) rfl dX7_well_175 (pc' := 177) rfl ?_
      refine f_iastore C dX7_well_177 (pc' := 178) rfl h (fun ws h => ?_)
      refine e_aload_n C (x := p0) rfl dX7_well_178 (pc' := 179) rfl ?_
      refine f_getR C (ci := 7) (CN := RX7) (TT := TX7) (N := 36) 5 dX7_well_179 (pc' := 182) rfl in_X7_well_X7 rfl (by decide) fl_X7_well_16 h (fun v22 h => ?_)
      refine e_iload_n C (x := p1) rfl dX7_well_182 (pc' := 183) rfl ?_
      refine e_dup2 C rfl rfl dX7_well_183 (pc' := 184) rfl ?_
      refine f_iaload C dX7_well_184 (pc' := 185) rfl h (fun v23 h => ?_)
      refine e_iconst C (v := (1 : Int32)) (by decide) dX7_well_185 (pc' := 186) rfl ?_
      refine e_iadd C dX7_well_186 (pc' := 187) rfl ?_
      refine f_iastore C dX7_well_187 (pc' := 188) rfl h (fun ws h => ?_)
      refine e_aload_n C (x := p0) rfl dX7_well_188 (pc' := 189) rfl ?_
      refine f_getR C (ci := 7) (CN := RX7) (TT := TX7) (N := 36) 5 dX7_well_189 (pc' := 192) rfl in_X7_well_X7 rfl (by decide) fl_X7_well_16 h (fun v24 h => ?_)
      refine e_iload_n C (x := p1) rfl dX7_well_192 (pc' := 193) rfl ?_
      refine f_iaload C dX7_well_193 (pc' := 194) rfl h (fun v25 h => ?_)
      refine e_iconst C (v := (1 : Int32)) (by decide) dX7_well_194 (pc' := 195) rfl ?_
      refine e_isub C dX7_well_195 (pc' := 196) rfl ?_
      exact r_int C F dX7_well_196 (by decide) (by decide) h
    · replace h := h.2 hc
      refine e_iconst C (v := (0 : Int32)) (by decide) dX7_well_151 (pc' := 152) rfl ?_
      exact r_int C F dX7_well_152 (by decide) (by decide) h)
  refine e_aload_n C (x := p0) rfl dX7_well_0 (pc' := 1) rfl ?_
  refine e_iconst C (v := (0 : Int32)) (by decide) dX7_well_1 (pc' := 2) rfl ?_
  refine f_putI C (ci := 7) (CN := RX7) (TT := TX7) (N := 36) 0 tyX7 dX7_well_2 (pc' := 5) rfl in_X7_well_X7 tyX7_ok nmX7 rfl (by decide) fl_X7_well_88 rfl (by decide +kernel) h (fun ws h => ?_)
  refine e_aload_n C (x := p0) rfl dX7_well_5 (pc' := 6) rfl ?_
  refine e_aload_n C (x := p0) rfl dX7_well_6 (pc' := 7) rfl ?_
  refine e_iload_n C (x := p1) rfl dX7_well_7 (pc' := 8) rfl ?_
  obtain ⟨hv, h⟩ := h
  refine e_calli (run_V (n := 1) C (m_X7_noChannel hst h) gX7_well_X7_noChannel rfl ⟨rfl, by decide, by decide, by decide +kernel⟩ ⟨by decide, by decide⟩ (ci := 7) rfl rfl hv rfl (Nat.le_of_ble_eq_true rfl) dX7_well_8 ⟨by decide, by decide⟩ (As := [.int p1]) rfl) (pc' := 11) rfl (cn' := 0) (sn' := 0) rfl rfl (fun v1 ws h => ?_)
  refine e_iconst C (v := (1 : Int32)) (by decide) dX7_well_11 (pc' := 12) rfl ?_
  obtain ⟨hv, h⟩ := h
  refine e_calli (run_V (n := 2) C (m_X7_throwsIf hst h) gX7_well_X7_throwsIf rfl ⟨rfl, by decide, by decide, by decide +kernel⟩ ⟨by decide, by decide⟩ (ci := 7) rfl rfl hv rfl (Nat.le_of_ble_eq_true rfl) dX7_well_12 ⟨by decide, by decide⟩ (As := [.int v1, .int (1 : Int32)]) rfl) (pc' := 15) rfl (cn' := 0) (sn' := 0) rfl rfl (fun v2 ws h => ?_)
  refine e_if_ne C (tg := 32) dX7_well_15 (by decide) (pc' := 18) rfl (fun hc => ?_) (fun hc => ?_)
  · replace h := h.1 hc
    refine e_iconst C (v := (0 : Int32)) (by decide) dX7_well_32 (pc' := 33) rfl ?_
    exact r_int C F dX7_well_33 (by decide) (by decide) h
  · replace h := h.2 hc
    refine e_aload_n C (x := p0) rfl dX7_well_18 (pc' := 19) rfl ?_
    refine e_aload_n C (x := p0) rfl dX7_well_19 (pc' := 20) rfl ?_
    refine f_getR C (ci := 7) (CN := RX7) (TT := TX7) (N := 36) 6 dX7_well_20 (pc' := 23) rfl in_X7_well_X7 rfl (by decide) fl_X7_well_20 h (fun v3 h => ?_)
    refine e_iload_n C (x := p1) rfl dX7_well_23 (pc' := 24) rfl ?_
    refine f_zaload C dX7_well_24 (pc' := 25) rfl h (fun v4 h => ?_)
    refine e_iconst C (v := (2 : Int32)) (by decide) dX7_well_25 (pc' := 26) rfl ?_
    obtain ⟨hv, h⟩ := h
    refine e_calli (run_V (n := 2) C (m_X7_throwsIf hst h) gX7_well_X7_throwsIf rfl ⟨rfl, by decide, by decide, by decide +kernel⟩ ⟨by decide, by decide⟩ (ci := 7) rfl rfl hv rfl (Nat.le_of_ble_eq_true rfl) dX7_well_26 ⟨by decide, by decide⟩ (As := [.int v4, .int (2 : Int32)]) rfl) (pc' := 29) rfl (cn' := 0) (sn' := 0) rfl rfl (fun v5 ws h => ?_)
    refine e_if_eq C (tg := 34) dX7_well_29 (by decide) (pc' := 32) rfl (fun hc => ?_) (fun hc => ?_)
    · replace h := h.1 hc
      refine e_bipush C (v := (20 : Int32)) (by decide) dX7_well_34 (pc' := 36) rfl ?_
      refine e_iload_n C (x := p1) rfl dX7_well_36 (pc' := 37) rfl ?_
      refine e_imul C dX7_well_37 (pc' := 38) rfl ?_
      refine e_aload_n C (x := p0) rfl dX7_well_38 (pc' := 39) rfl ?_
      refine f_getR C (ci := 7) (CN := RX7) (TT := TX7) (N := 36) 5 dX7_well_39 (pc' := 42) rfl in_X7_well_X7 rfl (by decide) fl_X7_well_16 h (fun v6 h => ?_)
      refine e_iload_n C (x := p1) rfl dX7_well_42 (pc' := 43) rfl ?_
      refine f_iaload C dX7_well_43 (pc' := 44) rfl h (fun v7 h => ?_)
      refine e_iadd C dX7_well_44 (pc' := 45) rfl ?_
      refine e_istore C (by decide) dX7_well_45 (pc' := 47) rfl (lv' := [some (.ref p0), some (.int p1), some (.int p2), some (.int p3), some (.int p4), some (.int (((20 : Int32) * p1) + v7)), none]) rfl ?_
      refine e_iload_n C (x := p2) rfl dX7_well_47 (pc' := 48) rfl ?_
      refine e_iconst C (v := (0 : Int32)) (by decide) dX7_well_48 (pc' := 49) rfl ?_
      refine e_bipush C (v := (100 : Int32)) (by decide) dX7_well_49 (pc' := 51) rfl ?_
      refine e_calli (run_S (n := 3) C (m_X7_in hst h) gX7_well_X7_in rfl ⟨rfl, by decide, by decide, by decide +kernel⟩ ⟨by decide, by decide⟩ rfl (Nat.le_of_ble_eq_true rfl) dX7_well_51 ⟨by decide, by decide⟩ (As := [.int p2, .int (0 : Int32), .int (100 : Int32)]) rfl) (pc' := 54) rfl (cn' := 0) (sn' := 0) rfl rfl (fun v8 ws h => ?_)
      refine e_if_eq C (tg := 106) dX7_well_54 (by decide) (pc' := 57) rfl (fun hc => ?_) (fun hc => ?_)
      · replace h := h.1 hc
        exact h
      · replace h := h.2 hc
        refine e_iload_n C (x := p3) rfl dX7_well_57 (pc' := 58) rfl ?_
        refine e_iconst C (v := (0 : Int32)) (by decide) dX7_well_58 (pc' := 59) rfl ?_
        refine e_bipush C (v := (100 : Int32)) (by decide) dX7_well_59 (pc' := 61) rfl ?_
        refine e_calli (run_S (n := 3) C (m_X7_in hst h) gX7_well_X7_in rfl ⟨rfl, by decide, by decide, by decide +kernel⟩ ⟨by decide, by decide⟩ rfl (Nat.le_of_ble_eq_true rfl) dX7_well_61 ⟨by decide, by decide⟩ (As := [.int p3, .int (0 : Int32), .int (100 : Int32)]) rfl) (pc' := 64) rfl (cn' := 0) (sn' := 0) rfl rfl (fun v9 ws h => ?_)
        refine e_if_eq C (tg := 106) dX7_well_64 (by decide) (pc' := 67) rfl (fun hc => ?_) (fun hc => ?_)
        · replace h := h.1 hc
          exact h
        · replace h := h.2 hc
          refine e_iload C (x := p4) rfl dX7_well_67 (pc' := 69) rfl ?_
          refine e_iconst C (v := (0 : Int32)) (by decide) dX7_well_69 (pc' := 70) rfl ?_
          refine e_sipush C (v := (1000 : Int32)) (by decide) dX7_well_70 (pc' := 73) rfl ?_
          refine e_calli (run_S (n := 3) C (m_X7_in hst h) gX7_well_X7_in rfl ⟨rfl, by decide, by decide, by decide +kernel⟩ ⟨by decide, by decide⟩ rfl (Nat.le_of_ble_eq_true rfl) dX7_well_73 ⟨by decide, by decide⟩ (As := [.int p4, .int (0 : Int32), .int (1000 : Int32)]) rfl) (pc' := 76) rfl (cn' := 0) (sn' := 0) rfl rfl (fun v10 ws h => ?_)
          refine e_if_eq C (tg := 106) dX7_well_76 (by decide) (pc' := 79) rfl (fun hc => ?_) (fun hc => ?_)
          · replace h := h.1 hc
            exact h
          · replace h := h.2 hc
            refine e_aload_n C (x := p0) rfl dX7_well_79 (pc' := 80) rfl ?_
            refine f_getR C (ci := 7) (CN := RX7) (TT := TX7) (N := 36) 5 dX7_well_80 (pc' := 83) rfl in_X7_well_X7 rfl (by decide) fl_X7_well_16 h (fun v11 h => ?_)
            refine e_iload_n C (x := p1) rfl dX7_well_83 (pc' := 84) rfl ?_
            refine f_iaload C dX7_well_84 (pc' := 85) rfl h (fun v12 h => ?_)
            refine e_if_eq C (tg := 102) dX7_well_85 (by decide) (pc' := 88) rfl (fun hc => ?_) (fun hc => ?_)
            · replace h := h.1 hc
              exact h
            · replace h := h.2 hc
              refine e_iload C (x := p4) rfl dX7_well_88 (pc' := 90) rfl ?_
              refine e_aload_n C (x := p0) rfl dX7_well_90 (pc' := 91) rfl ?_
              refine f_getR C (ci := 7) (CN := RX7) (TT := TX7) (N := 36) 14 dX7_well_91 (pc' := 94) rfl in_X7_well_X7 rfl (by decide) fl_X7_well_39 h (fun v13 h => ?_)
              refine e_iload C (x := (((20 : Int32) * p1) + v7)) rfl dX7_well_94 (pc' := 96) rfl ?_
              refine e_iconst C (v := (1 : Int32)) (by decide) dX7_well_96 (pc' := 97) rfl ?_
              refine e_isub C dX7_well_97 (pc' := 98) rfl ?_
              refine f_iaload C dX7_well_98 (pc' := 99) rfl h (fun v14 h => ?_)
              refine e_icmp_lt C (tg := 106) dX7_well_99 (by decide) (pc' := 102) rfl (fun hc => ?_) (fun hc => ?_)
              · replace h := h.1 hc
                exact h
              · replace h := h.2 hc
                exact h
    · replace h := h.2 hc
      refine e_iconst C (v := (0 : Int32)) (by decide) dX7_well_32 (pc' := 33) rfl ?_
      exact r_int C F dX7_well_33 (by decide) (by decide) h
abbrev rm_X7_steps : Room := { frames := 1, cells := 0, slots := 0, locals := 14 }
set_option maxRecDepth 20000 in
theorem w_X7_steps_ml109 : Cond.methodLink RX7 109 Lib.Math.abs.name ∈ wsX7_steps := by decide +kernel
set_option maxRecDepth 20000 in
theorem w_X7_steps_ms_abs : Cond.static Lib.Math.abs.name ∈ wsX7_steps := by decide +kernel
set_option maxRecDepth 20000 in
theorem w_X7_steps_mi : Cond.initialized "java/lang/Math" ∈ wsX7_steps := by decide +kernel
set_option maxRecDepth 20000 in
theorem w_X7_steps_mc_abs : Cond.code Lib.Math.abs.name Lib.Math.abs.code 1 (some .int) ∈ wsX7_steps := by decide +kernel
set_option maxRecDepth 20000 in
theorem w_X7_steps_ml115 : Cond.methodLink RX7 115 Lib.Math.max.name ∈ wsX7_steps := by decide +kernel
set_option maxRecDepth 20000 in
theorem w_X7_steps_ms_max : Cond.static Lib.Math.max.name ∈ wsX7_steps := by decide +kernel
set_option maxRecDepth 20000 in
theorem w_X7_steps_mc_max : Cond.code Lib.Math.max.name Lib.Math.max.code 2 (some .int) ∈ wsX7_steps := by decide +kernel
def F_X7_steps (G : Gx) (p0 : Int32) (p1 : Int32) (p2 : Int32) (p3 : Int32) (ws : va_W) (Q : Int32 → va_W → Prop) : Prop := Q (if (if 0 ≤ (p0 - p2) then (p0 - p2) else 0 - (p0 - p2)) < (if 0 ≤ (p1 - p3) then (p1 - p3) else 0 - (p1 - p3)) then (if 0 ≤ (p1 - p3) then (p1 - p3) else 0 - (p1 - p3)) else (if 0 ≤ (p0 - p2) then (p0 - p2) else 0 - (p0 - p2))) ws
set_option maxRecDepth 20000 in
set_option maxHeartbeats 4000000 in
theorem m_X7_steps {G : Gx} (hst : (gl G).stackTraces = false) {p0 : Int32} {p1 : Int32} {p2 : Int32} {p3 : Int32} {ws : va_W} {Q : Int32 → va_W → Prop} (h : F_X7_steps G p0 p1 p2 p3 ws Q) : Mt G yX7_steps wsX7_steps rm_X7_steps [.int p0, .int p1, .int p2, .int p3] ws (QtI G Q) := by
  refine mk_Mt (cc := cX7_steps) (nL := 4) (own := RX7) (ret := (some .int)) (lv0 := [some (.int p0), some (.int p1), some (.int p2), some (.int p3)]) hst (by decide) rfl rfl (Nat.le_of_ble_eq_true rfl) rfl ?_
  intro K C F
  refine e_iload_n C (x := p0) rfl dX7_steps_0 (pc' := 1) rfl ?_
  refine e_iload_n C (x := p2) rfl dX7_steps_1 (pc' := 2) rfl ?_
  refine e_isub C dX7_steps_2 (pc' := 3) rfl ?_
  refine e_mabs C dX7_steps_3 (pc' := 6) rfl w_X7_steps_ml109 w_X7_steps_ms_abs w_X7_steps_mi w_X7_steps_mc_abs (by decide) (Nat.le_of_ble_eq_true rfl) (by decide) (by decide) ?_
  refine e_iload_n C (x := p1) rfl dX7_steps_6 (pc' := 7) rfl ?_
  refine e_iload_n C (x := p3) rfl dX7_steps_7 (pc' := 8) rfl ?_
  refine e_isub C dX7_steps_8 (pc' := 9) rfl ?_
  refine e_mabs C dX7_steps_9 (pc' := 12) rfl w_X7_steps_ml109 w_X7_steps_ms_abs w_X7_steps_mi w_X7_steps_mc_abs (by decide) (Nat.le_of_ble_eq_true rfl) (by decide) (by decide) ?_
  refine e_mmax C dX7_steps_12 (pc' := 15) rfl w_X7_steps_ml115 w_X7_steps_ms_max w_X7_steps_mi w_X7_steps_mc_max (by decide) (Nat.le_of_ble_eq_true rfl) (by decide) (by decide) ?_
  exact r_int C F dX7_steps_15 (by decide) (by decide) h
abbrev rm_X7_mayBe : Room := { frames := 2, cells := 0, slots := 0, locals := 37 }
set_option maxRecDepth 20000 in
theorem in_X7_mayBe_X7 : ∀ w ∈ wsX70, w ∈ wsX7_mayBe := by decide +kernel
set_option maxRecDepth 20000 in
theorem fl_X7_mayBe_16 : Cond.fieldLink RX7 16 (TX7 5).1 (TX7 5).2.1 (TX7 5).2.2.1 ∈ wsX7_mayBe := by decide +kernel
set_option maxRecDepth 20000 in
theorem fl_X7_mayBe_91 : Cond.fieldLink RX7 91 (TX7 10).1 (TX7 10).2.1 (TX7 10).2.2.1 ∈ wsX7_mayBe := by decide +kernel
set_option maxRecDepth 20000 in
theorem fl_X7_mayBe_20 : Cond.fieldLink RX7 20 (TX7 6).1 (TX7 6).2.1 (TX7 6).2.2.1 ∈ wsX7_mayBe := by decide +kernel
set_option maxRecDepth 20000 in
theorem fl_X7_mayBe_33 : Cond.fieldLink RX7 33 (TX7 12).1 (TX7 12).2.1 (TX7 12).2.2.1 ∈ wsX7_mayBe := by decide +kernel
set_option maxRecDepth 20000 in
theorem fl_X7_mayBe_36 : Cond.fieldLink RX7 36 (TX7 13).1 (TX7 13).2.1 (TX7 13).2.2.1 ∈ wsX7_mayBe := by decide +kernel
set_option maxRecDepth 20000 in
theorem fl_X7_mayBe_57 : Cond.fieldLink RX7 57 (TX7 21).1 (TX7 21).2.1 (TX7 21).2.2.1 ∈ wsX7_mayBe := by decide +kernel
set_option maxRecDepth 20000 in
theorem fl_X7_mayBe_39 : Cond.fieldLink RX7 39 (TX7 14).1 (TX7 14).2.1 (TX7 14).2.2.1 ∈ wsX7_mayBe := by decide +kernel
def F_X7_mayBe (G : Gx) (p0 : Nat) (p1 : Int32) (ws : va_W) (Q : Int32 → va_W → Prop) : Prop := ∀ (J17 : Int32 → va_W → Prop), ∀ (J34 : Int32 → Int32 → va_W → Prop), ∀ (J60 : Int32 → Int32 → Int32 → va_W → Prop), ∀ (J145 : Int32 → Int32 → va_W → Prop), ∀ (J139 : Int32 → Int32 → Int32 → va_W → Prop), (∀ (x2 : Int32) (ws : va_W), qR 7 5 p0 ws (fun v3 => qA (gc G 1) v3 p1 ws (fun v4 => (((((20 : Int32) * p1) + v4) ≤ x2 → Q (1 : Int32) ws) ∧ (¬ (((20 : Int32) * p1) + v4) ≤ x2 → J34 x2 (0 : Int32) ws)))) → J17 x2 ws) → (∀ (x2 : Int32) (x3 : Int32) (ws : va_W), qI 7 10 p0 ws (fun v5 => ((v5 ≤ x3 → J17 (x2 + (1 : Int32)) ws) ∧ (¬ v5 ≤ x3 → qR 7 6 p0 ws (fun v6 => qA (gc G 2) v6 x3 ws (fun v7 => ((¬ v7 = 0 → J60 x2 x3 ((20 : Int32) * x3) ws) ∧ (v7 = 0 → J145 x2 x3 ws))))))) → J34 x2 x3 ws) → (∀ (x2 : Int32) (x3 : Int32) (x4 : Int32) (ws : va_W), qR 7 5 p0 ws (fun v8 => qA (gc G 1) v8 x3 ws (fun v9 => (((((20 : Int32) * x3) + v9) ≤ x4 → J145 x2 x3 ws) ∧ (¬ (((20 : Int32) * x3) + v9) ≤ x4 → qR 7 12 p0 ws (fun v10 => qA (gc G 1) v10 x2 ws (fun v11 => qR 7 13 p0 ws (fun v12 => qA (gc G 1) v12 x2 ws (fun v13 => qR 7 12 p0 ws (fun v14 => qA (gc G 1) v14 x4 ws (fun v15 => qR 7 13 p0 ws (fun v16 => qA (gc G 1) v16 x4 ws (fun v17 => (F_X7_steps G v11 v13 v15 v17 ws (fun v18 ws => qR 7 21 p0 ws (fun v19 => qA (gc G 1) v19 (0 : Int32) ws (fun v20 => ((v20 ≤ v18 → J139 x2 x3 x4 ws) ∧ (¬ v20 ≤ v18 → qR 7 14 p0 ws (fun v21 => qA (gc G 1) v21 x2 ws (fun v22 => qR 7 14 p0 ws (fun v23 => qA (gc G 1) v23 x4 ws (fun v24 => qR 7 21 p0 ws (fun v25 => qA (gc G 1) v25 (1 : Int32) ws (fun v26 => (((v24 + v26) ≤ v22 → J139 x2 x3 x4 ws) ∧ (¬ (v24 + v26) ≤ v22 → Q (0 : Int32) ws)))))))))))))))))))))))))) → J60 x2 x3 x4 ws) → (∀ (x2 : Int32) (x3 : Int32) (ws : va_W), J34 x2 (x3 + (1 : Int32)) ws → J145 x2 x3 ws) → (∀ (x2 : Int32) (x3 : Int32) (x4 : Int32) (ws : va_W), J60 x2 x3 (x4 + (1 : Int32)) ws → J139 x2 x3 x4 ws) → qR 7 5 p0 ws (fun v1 => qA (gc G 1) v1 p1 ws (fun v2 => (((2 : Int32) ≤ v2 → J17 ((20 : Int32) * p1) ws) ∧ (¬ (2 : Int32) ≤ v2 → Q (0 : Int32) ws))))
set_option maxRecDepth 20000 in
set_option maxHeartbeats 4000000 in
theorem m_X7_mayBe {G : Gx} (hst : (gl G).stackTraces = false) {p0 : Nat} {p1 : Int32} {ws : va_W} {Q : Int32 → va_W → Prop} (h : F_X7_mayBe G p0 p1 ws Q) : Mt G yX7_mayBe wsX7_mayBe rm_X7_mayBe [.ref p0, .int p1] ws (QtI G Q) := by
  refine mk_Mt (cc := cX7_mayBe) (nL := 5) (own := RX7) (ret := (some .boolean)) (lv0 := [some (.ref p0), some (.int p1), none, none, none]) hst (by decide) rfl rfl (Nat.le_of_ble_eq_true rfl) rfl ?_
  intro K C F
  replace h := h (fun x2 ws => Ev K G 5 0 0 17 [some (.ref p0), some (.int p1), some (.int x2), none, none] [] ws) (fun x2 x3 ws => Ev K G 5 0 0 34 [some (.ref p0), some (.int p1), some (.int x2), some (.int x3), none] [] ws) (fun x2 x3 x4 ws => Ev K G 5 0 0 60 [some (.ref p0), some (.int p1), some (.int x2), some (.int x3), some (.int x4)] [] ws) (fun x2 x3 ws => Ev K G 5 0 0 145 [some (.ref p0), some (.int p1), some (.int x2), some (.int x3), none] [] ws) (fun x2 x3 x4 ws => Ev K G 5 0 0 139 [some (.ref p0), some (.int p1), some (.int x2), some (.int x3), some (.int x4)] [] ws)
  replace h := h (by
    intro x2 ws h
    show Ev K G 5 0 0 17 [some (.ref p0), some (.int p1), some (.int x2), none, none] [] ws
    refine e_iload_n C (x := x2) rfl dX7_mayBe_17 (pc' := 18) rfl ?_
    refine e_bipush C (v := (20 : Int32)) (by decide) dX7_mayBe_18 (pc' := 20) rfl ?_
    refine e_iload_n C (x := p1) rfl dX7_mayBe_20 (pc' := 21) rfl ?_
    refine e_imul C dX7_mayBe_21 (pc' := 22) rfl ?_
    refine e_aload_n C (x := p0) rfl dX7_mayBe_22 (pc' := 23) rfl ?_
    refine f_getR C (ci := 7) (CN := RX7) (TT := TX7) (N := 36) 5 dX7_mayBe_23 (pc' := 26) rfl in_X7_mayBe_X7 rfl (by decide) fl_X7_mayBe_16 h (fun v3 h => ?_)
    refine e_iload_n C (x := p1) rfl dX7_mayBe_26 (pc' := 27) rfl ?_
    refine f_iaload C dX7_mayBe_27 (pc' := 28) rfl h (fun v4 h => ?_)
    refine e_iadd C dX7_mayBe_28 (pc' := 29) rfl ?_
    refine e_icmp_ge C (tg := 157) dX7_mayBe_29 (by decide) (pc' := 32) rfl (fun hc => ?_) (fun hc => ?_)
    · replace h := h.1 hc
      refine e_iconst C (v := (1 : Int32)) (by decide) dX7_mayBe_157 (pc' := 158) rfl ?_
      exact r_bool C F dX7_mayBe_158 (by decide) (by decide) (Or.inr rfl) h
    · replace h := h.2 hc
      refine e_iconst C (v := (0 : Int32)) (by decide) dX7_mayBe_32 (pc' := 33) rfl ?_
      refine e_istore_n C (by decide) dX7_mayBe_33 (pc' := 34) rfl (lv' := [some (.ref p0), some (.int p1), some (.int x2), some (.int (0 : Int32)), none]) rfl ?_
      exact h)
  replace h := h (by
    intro x2 x3 ws h
    show Ev K G 5 0 0 34 [some (.ref p0), some (.int p1), some (.int x2), some (.int x3), none] [] ws
    refine e_iload_n C (x := x3) rfl dX7_mayBe_34 (pc' := 35) rfl ?_
    refine e_aload_n C (x := p0) rfl dX7_mayBe_35 (pc' := 36) rfl ?_
    refine f_getI C (ci := 7) (CN := RX7) (TT := TX7) (N := 36) 10 dX7_mayBe_36 (pc' := 39) rfl in_X7_mayBe_X7 rfl (by decide) fl_X7_mayBe_91 h (fun v5 h => ?_)
    refine e_icmp_ge C (tg := 151) dX7_mayBe_39 (by decide) (pc' := 42) rfl (fun hc => ?_) (fun hc => ?_)
    · replace h := h.1 hc
      refine e_iinc C dX7_mayBe_151 (x := x2) (v := (x2 + (1 : Int32))) rfl rfl (by decide) (pc' := 154) rfl (lv' := [some (.ref p0), some (.int p1), some (.int (x2 + (1 : Int32))), some (.int x3), none]) rfl ?_
      refine e_goto C (tg := 17) dX7_mayBe_154 (by decide) ?_
      refine e_mask [true, true, true, false, false] (lv' := [some (.ref p0), some (.int p1), some (.int (x2 + (1 : Int32))), none, none]) rfl ?_
      exact h
    · replace h := h.2 hc
      refine e_aload_n C (x := p0) rfl dX7_mayBe_42 (pc' := 43) rfl ?_
      refine f_getR C (ci := 7) (CN := RX7) (TT := TX7) (N := 36) 6 dX7_mayBe_43 (pc' := 46) rfl in_X7_mayBe_X7 rfl (by decide) fl_X7_mayBe_20 h (fun v6 h => ?_)
      refine e_iload_n C (x := x3) rfl dX7_mayBe_46 (pc' := 47) rfl ?_
      refine f_zaload C dX7_mayBe_47 (pc' := 48) rfl h (fun v7 h => ?_)
      refine e_if_ne C (tg := 54) dX7_mayBe_48 (by decide) (pc' := 51) rfl (fun hc => ?_) (fun hc => ?_)
      · replace h := h.1 hc
        refine e_bipush C (v := (20 : Int32)) (by decide) dX7_mayBe_54 (pc' := 56) rfl ?_
        refine e_iload_n C (x := x3) rfl dX7_mayBe_56 (pc' := 57) rfl ?_
        refine e_imul C dX7_mayBe_57 (pc' := 58) rfl ?_
        refine e_istore C (by decide) dX7_mayBe_58 (pc' := 60) rfl (lv' := [some (.ref p0), some (.int p1), some (.int x2), some (.int x3), some (.int ((20 : Int32) * x3))]) rfl ?_
        exact h
      · replace h := h.2 hc
        refine e_goto C (tg := 145) dX7_mayBe_51 (by decide) ?_
        exact h)
  replace h := h (by
    intro x2 x3 x4 ws h
    show Ev K G 5 0 0 60 [some (.ref p0), some (.int p1), some (.int x2), some (.int x3), some (.int x4)] [] ws
    refine e_iload C (x := x4) rfl dX7_mayBe_60 (pc' := 62) rfl ?_
    refine e_bipush C (v := (20 : Int32)) (by decide) dX7_mayBe_62 (pc' := 64) rfl ?_
    refine e_iload_n C (x := x3) rfl dX7_mayBe_64 (pc' := 65) rfl ?_
    refine e_imul C dX7_mayBe_65 (pc' := 66) rfl ?_
    refine e_aload_n C (x := p0) rfl dX7_mayBe_66 (pc' := 67) rfl ?_
    refine f_getR C (ci := 7) (CN := RX7) (TT := TX7) (N := 36) 5 dX7_mayBe_67 (pc' := 70) rfl in_X7_mayBe_X7 rfl (by decide) fl_X7_mayBe_16 h (fun v8 h => ?_)
    refine e_iload_n C (x := x3) rfl dX7_mayBe_70 (pc' := 71) rfl ?_
    refine f_iaload C dX7_mayBe_71 (pc' := 72) rfl h (fun v9 h => ?_)
    refine e_iadd C dX7_mayBe_72 (pc' := 73) rfl ?_
    refine e_icmp_ge C (tg := 145) dX7_mayBe_73 (by decide) (pc' := 76) rfl (fun hc => ?_) (fun hc => ?_)
    · replace h := h.1 hc
      refine e_mask [true, true, true, true, false] (lv' := [some (.ref p0), some (.int p1), some (.int x2), some (.int x3), none]) rfl ?_
      exact h
    · replace h := h.2 hc
      refine e_aload_n C (x := p0) rfl dX7_mayBe_76 (pc' := 77) rfl ?_
      refine f_getR C (ci := 7) (CN := RX7) (TT := TX7) (N := 36) 12 dX7_mayBe_77 (pc' := 80) rfl in_X7_mayBe_X7 rfl (by decide) fl_X7_mayBe_33 h (fun v10 h => ?_)
      refine e_iload_n C (x := x2) rfl dX7_mayBe_80 (pc' := 81) rfl ?_
      refine f_iaload C dX7_mayBe_81 (pc' := 82) rfl h (fun v11 h => ?_)
      refine e_aload_n C (x := p0) rfl dX7_mayBe_82 (pc' := 83) rfl ?_
      refine f_getR C (ci := 7) (CN := RX7) (TT := TX7) (N := 36) 13 dX7_mayBe_83 (pc' := 86) rfl in_X7_mayBe_X7 rfl (by decide) fl_X7_mayBe_36 h (fun v12 h => ?_)
      refine e_iload_n C (x := x2) rfl dX7_mayBe_86 (pc' := 87) rfl ?_
      refine f_iaload C dX7_mayBe_87 (pc' := 88) rfl h (fun v13 h => ?_)
      refine e_aload_n C (x := p0) rfl dX7_mayBe_88 (pc' := 89) rfl ?_
      refine f_getR C (ci := 7) (CN := RX7) (TT := TX7) (N := 36) 12 dX7_mayBe_89 (pc' := 92) rfl in_X7_mayBe_X7 rfl (by decide) fl_X7_mayBe_33 h (fun v14 h => ?_)
      refine e_iload C (x := x4) rfl dX7_mayBe_92 (pc' := 94) rfl ?_
      refine f_iaload C dX7_mayBe_94 (pc' := 95) rfl h (fun v15 h => ?_)
      refine e_aload_n C (x := p0) rfl dX7_mayBe_95 (pc' := 96) rfl ?_
      refine f_getR C (ci := 7) (CN := RX7) (TT := TX7) (N := 36) 13 dX7_mayBe_96 (pc' := 99) rfl in_X7_mayBe_X7 rfl (by decide) fl_X7_mayBe_36 h (fun v16 h => ?_)
      refine e_iload C (x := x4) rfl dX7_mayBe_99 (pc' := 101) rfl ?_
      refine f_iaload C dX7_mayBe_101 (pc' := 102) rfl h (fun v17 h => ?_)
      refine e_calli (run_S (n := 4) C (m_X7_steps hst h) gX7_mayBe_X7_steps rfl ⟨rfl, by decide, by decide, by decide +kernel⟩ ⟨by decide, by decide⟩ rfl (Nat.le_of_ble_eq_true rfl) dX7_mayBe_102 ⟨by decide, by decide⟩ (As := [.int v11, .int v13, .int v15, .int v17]) rfl) (pc' := 105) rfl (cn' := 0) (sn' := 0) rfl rfl (fun v18 ws h => ?_)
      refine e_aload_n C (x := p0) rfl dX7_mayBe_105 (pc' := 106) rfl ?_
      refine f_getR C (ci := 7) (CN := RX7) (TT := TX7) (N := 36) 21 dX7_mayBe_106 (pc' := 109) rfl in_X7_mayBe_X7 rfl (by decide) fl_X7_mayBe_57 h (fun v19 h => ?_)
      refine e_iconst C (v := (0 : Int32)) (by decide) dX7_mayBe_109 (pc' := 110) rfl ?_
      refine f_iaload C dX7_mayBe_110 (pc' := 111) rfl h (fun v20 h => ?_)
      refine e_icmp_ge C (tg := 139) dX7_mayBe_111 (by decide) (pc' := 114) rfl (fun hc => ?_) (fun hc => ?_)
      · replace h := h.1 hc
        exact h
      · replace h := h.2 hc
        refine e_aload_n C (x := p0) rfl dX7_mayBe_114 (pc' := 115) rfl ?_
        refine f_getR C (ci := 7) (CN := RX7) (TT := TX7) (N := 36) 14 dX7_mayBe_115 (pc' := 118) rfl in_X7_mayBe_X7 rfl (by decide) fl_X7_mayBe_39 h (fun v21 h => ?_)
        refine e_iload_n C (x := x2) rfl dX7_mayBe_118 (pc' := 119) rfl ?_
        refine f_iaload C dX7_mayBe_119 (pc' := 120) rfl h (fun v22 h => ?_)
        refine e_aload_n C (x := p0) rfl dX7_mayBe_120 (pc' := 121) rfl ?_
        refine f_getR C (ci := 7) (CN := RX7) (TT := TX7) (N := 36) 14 dX7_mayBe_121 (pc' := 124) rfl in_X7_mayBe_X7 rfl (by decide) fl_X7_mayBe_39 h (fun v23 h => ?_)
        refine e_iload C (x := x4) rfl dX7_mayBe_124 (pc' := 126) rfl ?_
        refine f_iaload C dX7_mayBe_126 (pc' := 127) rfl h (fun v24 h => ?_)
        refine e_aload_n C (x := p0) rfl dX7_mayBe_127 (pc' := 128) rfl ?_
        refine f_getR C (ci := 7) (CN := RX7) (TT := TX7) (N := 36) 21 dX7_mayBe_128 (pc' := 131) rfl in_X7_mayBe_X7 rfl (by decide) fl_X7_mayBe_57 h (fun v25 h => ?_)
        refine e_iconst C (v := (1 : Int32)) (by decide) dX7_mayBe_131 (pc' := 132) rfl ?_
        refine f_iaload C dX7_mayBe_132 (pc' := 133) rfl h (fun v26 h => ?_)
        refine e_iadd C dX7_mayBe_133 (pc' := 134) rfl ?_
        refine e_icmp_ge C (tg := 139) dX7_mayBe_134 (by decide) (pc' := 137) rfl (fun hc => ?_) (fun hc => ?_)
        · replace h := h.1 hc
          exact h
        · replace h := h.2 hc
          refine e_iconst C (v := (0 : Int32)) (by decide) dX7_mayBe_137 (pc' := 138) rfl ?_
          exact r_bool C F dX7_mayBe_138 (by decide) (by decide) (Or.inl rfl) h)
  replace h := h (by
    intro x2 x3 ws h
    show Ev K G 5 0 0 145 [some (.ref p0), some (.int p1), some (.int x2), some (.int x3), none] [] ws
    refine e_iinc C dX7_mayBe_145 (x := x3) (v := (x3 + (1 : Int32))) rfl rfl (by decide) (pc' := 148) rfl (lv' := [some (.ref p0), some (.int p1), some (.int x2), some (.int (x3 + (1 : Int32))), none]) rfl ?_
    refine e_goto C (tg := 34) dX7_mayBe_148 (by decide) ?_
    exact h)
  replace h := h (by
    intro x2 x3 x4 ws h
    show Ev K G 5 0 0 139 [some (.ref p0), some (.int p1), some (.int x2), some (.int x3), some (.int x4)] [] ws
    refine e_iinc C dX7_mayBe_139 (x := x4) (v := (x4 + (1 : Int32))) rfl rfl (by decide) (pc' := 142) rfl (lv' := [some (.ref p0), some (.int p1), some (.int x2), some (.int x3), some (.int (x4 + (1 : Int32)))]) rfl ?_
    refine e_goto C (tg := 60) dX7_mayBe_142 (by decide) ?_
    exact h)
  refine e_aload_n C (x := p0) rfl dX7_mayBe_0 (pc' := 1) rfl ?_
  refine f_getR C (ci := 7) (CN := RX7) (TT := TX7) (N := 36) 5 dX7_mayBe_1 (pc' := 4) rfl in_X7_mayBe_X7 rfl (by decide) fl_X7_mayBe_16 h (fun v1 h => ?_)
  refine e_iload_n C (x := p1) rfl dX7_mayBe_4 (pc' := 5) rfl ?_
  refine f_iaload C dX7_mayBe_5 (pc' := 6) rfl h (fun v2 h => ?_)
  refine e_iconst C (v := (2 : Int32)) (by decide) dX7_mayBe_6 (pc' := 7) rfl ?_
  refine e_icmp_ge C (tg := 12) dX7_mayBe_7 (by decide) (pc' := 10) rfl (fun hc => ?_) (fun hc => ?_)
  · replace h := h.1 hc
    refine e_bipush C (v := (20 : Int32)) (by decide) dX7_mayBe_12 (pc' := 14) rfl ?_
    refine e_iload_n C (x := p1) rfl dX7_mayBe_14 (pc' := 15) rfl ?_
    refine e_imul C dX7_mayBe_15 (pc' := 16) rfl ?_
    refine e_istore_n C (by decide) dX7_mayBe_16 (pc' := 17) rfl (lv' := [some (.ref p0), some (.int p1), some (.int ((20 : Int32) * p1)), none, none]) rfl ?_
    exact h
  · replace h := h.2 hc
    refine e_iconst C (v := (0 : Int32)) (by decide) dX7_mayBe_10 (pc' := 11) rfl ?_
    exact r_bool C F dX7_mayBe_11 (by decide) (by decide) (Or.inl rfl) h
abbrev rm_X7_may : Room := { frames := 3, cells := 0, slots := 0, locals := 61 }
set_option maxRecDepth 20000 in
theorem in_X7_may_X7 : ∀ w ∈ wsX70, w ∈ wsX7_may := by decide +kernel
set_option maxRecDepth 20000 in
theorem fl_X7_may_88 : Cond.fieldLink RX7 88 (TX7 0).1 (TX7 0).2.1 (TX7 0).2.2.1 ∈ wsX7_may := by decide +kernel
set_option maxRecDepth 20000 in
theorem fl_X7_may_20 : Cond.fieldLink RX7 20 (TX7 6).1 (TX7 6).2.1 (TX7 6).2.2.1 ∈ wsX7_may := by decide +kernel
def F_X7_may (G : Gx) (p0 : Nat) (p1 : Int32) (ws : va_W) (Q : Int32 → va_W → Prop) : Prop := qP 7 0 p0 (.int (0 : Int32)) ws (fun ws => (qV 7 p0 ws ∧ F_X7_noChannel G p0 p1 ws (fun v1 ws => (qV 7 p0 ws ∧ F_X7_throwsIf G p0 v1 (1 : Int32) ws (fun v2 ws => ((¬ v2 = 0 → Q (0 : Int32) ws) ∧ (v2 = 0 → qR 7 6 p0 ws (fun v3 => qA (gc G 2) v3 p1 ws (fun v4 => (qV 7 p0 ws ∧ F_X7_throwsIf G p0 v4 (2 : Int32) ws (fun v5 ws => ((¬ v5 = 0 → Q (0 : Int32) ws) ∧ (v5 = 0 → (qV 7 p0 ws ∧ F_X7_mayBe G p0 p1 ws (fun v6 ws => ((v6 = 0 → Q (0 : Int32) ws) ∧ (¬ v6 = 0 → Q (1 : Int32) ws)))))))))))))))))
set_option maxRecDepth 20000 in
set_option maxHeartbeats 4000000 in
theorem m_X7_may {G : Gx} (hst : (gl G).stackTraces = false) {p0 : Nat} {p1 : Int32} {ws : va_W} {Q : Int32 → va_W → Prop} (h : F_X7_may G p0 p1 ws Q) : Mt G yX7_may wsX7_may rm_X7_may [.ref p0, .int p1] ws (QtI G Q) := by
  refine mk_Mt (cc := cX7_may) (nL := 2) (own := RX7) (ret := (some .boolean)) (lv0 := [some (.ref p0), some (.int p1)]) hst (by decide) rfl rfl (Nat.le_of_ble_eq_true rfl) rfl ?_
  intro K C F
  refine e_aload_n C (x := p0) rfl dX7_may_0 (pc' := 1) rfl ?_
  refine e_iconst C (v := (0 : Int32)) (by decide) dX7_may_1 (pc' := 2) rfl ?_
  refine f_putI C (ci := 7) (CN := RX7) (TT := TX7) (N := 36) 0 tyX7 dX7_may_2 (pc' := 5) rfl in_X7_may_X7 tyX7_ok nmX7 rfl (by decide) fl_X7_may_88 rfl (by decide +kernel) h (fun ws h => ?_)
  refine e_aload_n C (x := p0) rfl dX7_may_5 (pc' := 6) rfl ?_
  refine e_aload_n C (x := p0) rfl dX7_may_6 (pc' := 7) rfl ?_
  refine e_iload_n C (x := p1) rfl dX7_may_7 (pc' := 8) rfl ?_
  obtain ⟨hv, h⟩ := h
  refine e_calli (run_V (n := 1) C (m_X7_noChannel hst h) gX7_may_X7_noChannel rfl ⟨rfl, by decide, by decide, by decide +kernel⟩ ⟨by decide, by decide⟩ (ci := 7) rfl rfl hv rfl (Nat.le_of_ble_eq_true rfl) dX7_may_8 ⟨by decide, by decide⟩ (As := [.int p1]) rfl) (pc' := 11) rfl (cn' := 0) (sn' := 0) rfl rfl (fun v1 ws h => ?_)
  refine e_iconst C (v := (1 : Int32)) (by decide) dX7_may_11 (pc' := 12) rfl ?_
  obtain ⟨hv, h⟩ := h
  refine e_calli (run_V (n := 2) C (m_X7_throwsIf hst h) gX7_may_X7_throwsIf rfl ⟨rfl, by decide, by decide, by decide +kernel⟩ ⟨by decide, by decide⟩ (ci := 7) rfl rfl hv rfl (Nat.le_of_ble_eq_true rfl) dX7_may_12 ⟨by decide, by decide⟩ (As := [.int v1, .int (1 : Int32)]) rfl) (pc' := 15) rfl (cn' := 0) (sn' := 0) rfl rfl (fun v2 ws h => ?_)
  refine e_if_ne C (tg := 44) dX7_may_15 (by decide) (pc' := 18) rfl (fun hc => ?_) (fun hc => ?_)
  · replace h := h.1 hc
    refine e_iconst C (v := (0 : Int32)) (by decide) dX7_may_44 (pc' := 45) rfl ?_
    exact r_bool C F dX7_may_45 (by decide) (by decide) (Or.inl rfl) h
  · replace h := h.2 hc
    refine e_aload_n C (x := p0) rfl dX7_may_18 (pc' := 19) rfl ?_
    refine e_aload_n C (x := p0) rfl dX7_may_19 (pc' := 20) rfl ?_
    refine f_getR C (ci := 7) (CN := RX7) (TT := TX7) (N := 36) 6 dX7_may_20 (pc' := 23) rfl in_X7_may_X7 rfl (by decide) fl_X7_may_20 h (fun v3 h => ?_)
    refine e_iload_n C (x := p1) rfl dX7_may_23 (pc' := 24) rfl ?_
    refine f_zaload C dX7_may_24 (pc' := 25) rfl h (fun v4 h => ?_)
    refine e_iconst C (v := (2 : Int32)) (by decide) dX7_may_25 (pc' := 26) rfl ?_
    obtain ⟨hv, h⟩ := h
    refine e_calli (run_V (n := 2) C (m_X7_throwsIf hst h) gX7_may_X7_throwsIf rfl ⟨rfl, by decide, by decide, by decide +kernel⟩ ⟨by decide, by decide⟩ (ci := 7) rfl rfl hv rfl (Nat.le_of_ble_eq_true rfl) dX7_may_26 ⟨by decide, by decide⟩ (As := [.int v4, .int (2 : Int32)]) rfl) (pc' := 29) rfl (cn' := 0) (sn' := 0) rfl rfl (fun v5 ws h => ?_)
    refine e_if_ne C (tg := 44) dX7_may_29 (by decide) (pc' := 32) rfl (fun hc => ?_) (fun hc => ?_)
    · replace h := h.1 hc
      refine e_iconst C (v := (0 : Int32)) (by decide) dX7_may_44 (pc' := 45) rfl ?_
      exact r_bool C F dX7_may_45 (by decide) (by decide) (Or.inl rfl) h
    · replace h := h.2 hc
      refine e_aload_n C (x := p0) rfl dX7_may_32 (pc' := 33) rfl ?_
      refine e_iload_n C (x := p1) rfl dX7_may_33 (pc' := 34) rfl ?_
      obtain ⟨hv, h⟩ := h
      refine e_calli (run_V (n := 1) C (m_X7_mayBe hst h) gX7_may_X7_mayBe rfl ⟨rfl, by decide, by decide, by decide +kernel⟩ ⟨by decide, by decide⟩ (ci := 7) rfl rfl hv rfl (Nat.le_of_ble_eq_true rfl) dX7_may_34 ⟨by decide, by decide⟩ (As := [.int p1]) rfl) (pc' := 37) rfl (cn' := 0) (sn' := 0) rfl rfl (fun v6 ws h => ?_)
      refine e_if_eq C (tg := 44) dX7_may_37 (by decide) (pc' := 40) rfl (fun hc => ?_) (fun hc => ?_)
      · replace h := h.1 hc
        refine e_iconst C (v := (0 : Int32)) (by decide) dX7_may_44 (pc' := 45) rfl ?_
        exact r_bool C F dX7_may_45 (by decide) (by decide) (Or.inl rfl) h
      · replace h := h.2 hc
        refine e_iconst C (v := (1 : Int32)) (by decide) dX7_may_40 (pc' := 41) rfl ?_
        refine e_goto C (tg := 45) dX7_may_41 (by decide) ?_
        exact r_bool C F dX7_may_45 (by decide) (by decide) (Or.inr rfl) h
abbrev rm_X7_sets : Room := { frames := 0, cells := 0, slots := 0, locals := 0 }
set_option maxRecDepth 20000 in
theorem in_X7_sets_X7 : ∀ w ∈ wsX70, w ∈ wsX7_sets := by decide +kernel
set_option maxRecDepth 20000 in
theorem fl_X7_sets_45 : Cond.fieldLink RX7 45 (TX7 16).1 (TX7 16).2.1 (TX7 16).2.2.1 ∈ wsX7_sets := by decide +kernel
def F_X7_sets (G : Gx) (p0 : Nat) (p1 : Int32) (p2 : Int32) (p3 : Int32) (p4 : Int32) (ws : va_W) (Q : va_W → Prop) : Prop := qR 7 16 p0 ws (fun v1 => qS (gc G 1) v1 (((7 : Int32) * p1) + (1 : Int32)) p2 ws (fun ws => qR 7 16 p0 ws (fun v2 => qS (gc G 1) v2 (((7 : Int32) * p1) + (2 : Int32)) p3 ws (fun ws => qR 7 16 p0 ws (fun v3 => qS (gc G 1) v3 (((7 : Int32) * p1) + (3 : Int32)) p4 ws (fun ws => qR 7 16 p0 ws (fun v4 => qS (gc G 1) v4 (((7 : Int32) * p1) + (5 : Int32)) (0 : Int32) ws (fun ws => qR 7 16 p0 ws (fun v5 => qS (gc G 1) v5 (((7 : Int32) * p1) + (6 : Int32)) (0 : Int32) ws (fun ws => Q ws))))))))))
set_option maxRecDepth 20000 in
set_option maxHeartbeats 4000000 in
theorem m_X7_sets {G : Gx} (hst : (gl G).stackTraces = false) {p0 : Nat} {p1 : Int32} {p2 : Int32} {p3 : Int32} {p4 : Int32} {ws : va_W} {Q : va_W → Prop} (h : F_X7_sets G p0 p1 p2 p3 p4 ws Q) : Mt G yX7_sets wsX7_sets rm_X7_sets [.ref p0, .int p1, .int p2, .int p3, .int p4] ws (QtV G Q) := by
  refine mk_Mt (cc := cX7_sets) (nL := 6) (own := RX7) (ret := none) (lv0 := [some (.ref p0), some (.int p1), some (.int p2), some (.int p3), some (.int p4), none]) hst (by decide) rfl rfl (Nat.le_of_ble_eq_true rfl) rfl ?_
  intro K C F
  refine e_bipush C (v := (7 : Int32)) (by decide) dX7_sets_0 (pc' := 2) rfl ?_
  refine e_iload_n C (x := p1) rfl dX7_sets_2 (pc' := 3) rfl ?_
  refine e_imul C dX7_sets_3 (pc' := 4) rfl ?_
  refine e_istore C (by decide) dX7_sets_4 (pc' := 6) rfl (lv' := [some (.ref p0), some (.int p1), some (.int p2), some (.int p3), some (.int p4), some (.int ((7 : Int32) * p1))]) rfl ?_
  refine e_aload_n C (x := p0) rfl dX7_sets_6 (pc' := 7) rfl ?_
  refine f_getR C (ci := 7) (CN := RX7) (TT := TX7) (N := 36) 16 dX7_sets_7 (pc' := 10) rfl in_X7_sets_X7 rfl (by decide) fl_X7_sets_45 h (fun v1 h => ?_)
  refine e_iload C (x := ((7 : Int32) * p1)) rfl dX7_sets_10 (pc' := 12) rfl ?_
  refine e_iconst C (v := (1 : Int32)) (by decide) dX7_sets_12 (pc' := 13) rfl ?_
  refine e_iadd C dX7_sets_13 (pc' := 14) rfl ?_
  refine e_iload_n C (x := p2) rfl dX7_sets_14 (pc' := 15) rfl ?_
  refine f_iastore C dX7_sets_15 (pc' := 16) rfl h (fun ws h => ?_)
  refine e_aload_n C (x := p0) rfl dX7_sets_16 (pc' := 17) rfl ?_
  refine f_getR C (ci := 7) (CN := RX7) (TT := TX7) (N := 36) 16 dX7_sets_17 (pc' := 20) rfl in_X7_sets_X7 rfl (by decide) fl_X7_sets_45 h (fun v2 h => ?_)
  refine e_iload C (x := ((7 : Int32) * p1)) rfl dX7_sets_20 (pc' := 22) rfl ?_
  refine e_iconst C (v := (2 : Int32)) (by decide) dX7_sets_22 (pc' := 23) rfl ?_
  refine e_iadd C dX7_sets_23 (pc' := 24) rfl ?_
  refine e_iload_n C (x := p3) rfl dX7_sets_24 (pc' := 25) rfl ?_
  refine f_iastore C dX7_sets_25 (pc' := 26) rfl h (fun ws h => ?_)
  refine e_aload_n C (x := p0) rfl dX7_sets_26 (pc' := 27) rfl ?_
  refine f_getR C (ci := 7) (CN := RX7) (TT := TX7) (N := 36) 16 dX7_sets_27 (pc' := 30) rfl in_X7_sets_X7 rfl (by decide) fl_X7_sets_45 h (fun v3 h => ?_)
  refine e_iload C (x := ((7 : Int32) * p1)) rfl dX7_sets_30 (pc' := 32) rfl ?_
  refine e_iconst C (v := (3 : Int32)) (by decide) dX7_sets_32 (pc' := 33) rfl ?_
  refine e_iadd C dX7_sets_33 (pc' := 34) rfl ?_
  refine e_iload C (x := p4) rfl dX7_sets_34 (pc' := 36) rfl ?_
  refine f_iastore C dX7_sets_36 (pc' := 37) rfl h (fun ws h => ?_)
  refine e_aload_n C (x := p0) rfl dX7_sets_37 (pc' := 38) rfl ?_
  refine f_getR C (ci := 7) (CN := RX7) (TT := TX7) (N := 36) 16 dX7_sets_38 (pc' := 41) rfl in_X7_sets_X7 rfl (by decide) fl_X7_sets_45 h (fun v4 h => ?_)
  refine e_iload C (x := ((7 : Int32) * p1)) rfl dX7_sets_41 (pc' := 43) rfl ?_
  refine e_iconst C (v := (5 : Int32)) (by decide) dX7_sets_43 (pc' := 44) rfl ?_
  refine e_iadd C dX7_sets_44 (pc' := 45) rfl ?_
  refine e_iconst C (v := (0 : Int32)) (by decide) dX7_sets_45 (pc' := 46) rfl ?_
  refine f_iastore C dX7_sets_46 (pc' := 47) rfl h (fun ws h => ?_)
  refine e_aload_n C (x := p0) rfl dX7_sets_47 (pc' := 48) rfl ?_
  refine f_getR C (ci := 7) (CN := RX7) (TT := TX7) (N := 36) 16 dX7_sets_48 (pc' := 51) rfl in_X7_sets_X7 rfl (by decide) fl_X7_sets_45 h (fun v5 h => ?_)
  refine e_iload C (x := ((7 : Int32) * p1)) rfl dX7_sets_51 (pc' := 53) rfl ?_
  refine e_bipush C (v := (6 : Int32)) (by decide) dX7_sets_53 (pc' := 55) rfl ?_
  refine e_iadd C dX7_sets_55 (pc' := 56) rfl ?_
  refine e_iconst C (v := (0 : Int32)) (by decide) dX7_sets_56 (pc' := 57) rfl ?_
  refine f_iastore C dX7_sets_57 (pc' := 58) rfl h (fun ws h => ?_)
  exact r_void C F dX7_sets_58 (by decide) (by decide) h
abbrev rm_X7_adds : Room := { frames := 1, cells := 0, slots := 0, locals := 25 }
set_option maxRecDepth 20000 in
theorem in_X7_adds_X7 : ∀ w ∈ wsX70, w ∈ wsX7_adds := by decide +kernel
set_option maxRecDepth 20000 in
theorem fl_X7_adds_45 : Cond.fieldLink RX7 45 (TX7 16).1 (TX7 16).2.1 (TX7 16).2.2.1 ∈ wsX7_adds := by decide +kernel
set_option maxRecDepth 20000 in
theorem fl_X7_adds_102 : Cond.fieldLink RX7 102 (TX7 17).1 (TX7 17).2.1 (TX7 17).2.2.1 ∈ wsX7_adds := by decide +kernel
def F_X7_adds (G : Gx) (p0 : Nat) (p1 : Int32) (p2 : Int32) (p3 : Int32) (p4 : Int32) (ws : va_W) (Q : va_W → Prop) : Prop := qR 7 16 p0 ws (fun v1 => qI 7 17 p0 ws (fun v2 => qS (gc G 1) v1 ((7 : Int32) * v2) p1 ws (fun ws => qI 7 17 p0 ws (fun v3 => (qV 7 p0 ws ∧ F_X7_sets G p0 v3 p2 p3 p4 ws (fun ws => qI 7 17 p0 ws (fun v5 => qP 7 17 p0 (.int (v5 + (1 : Int32))) ws (fun ws => Q ws))))))))
set_option maxRecDepth 20000 in
set_option maxHeartbeats 4000000 in
theorem m_X7_adds {G : Gx} (hst : (gl G).stackTraces = false) {p0 : Nat} {p1 : Int32} {p2 : Int32} {p3 : Int32} {p4 : Int32} {ws : va_W} {Q : va_W → Prop} (h : F_X7_adds G p0 p1 p2 p3 p4 ws Q) : Mt G yX7_adds wsX7_adds rm_X7_adds [.ref p0, .int p1, .int p2, .int p3, .int p4] ws (QtV G Q) := by
  refine mk_Mt (cc := cX7_adds) (nL := 5) (own := RX7) (ret := none) (lv0 := [some (.ref p0), some (.int p1), some (.int p2), some (.int p3), some (.int p4)]) hst (by decide) rfl rfl (Nat.le_of_ble_eq_true rfl) rfl ?_
  intro K C F
  refine e_aload_n C (x := p0) rfl dX7_adds_0 (pc' := 1) rfl ?_
  refine f_getR C (ci := 7) (CN := RX7) (TT := TX7) (N := 36) 16 dX7_adds_1 (pc' := 4) rfl in_X7_adds_X7 rfl (by decide) fl_X7_adds_45 h (fun v1 h => ?_)
  refine e_bipush C (v := (7 : Int32)) (by decide) dX7_adds_4 (pc' := 6) rfl ?_
  refine e_aload_n C (x := p0) rfl dX7_adds_6 (pc' := 7) rfl ?_
  refine f_getI C (ci := 7) (CN := RX7) (TT := TX7) (N := 36) 17 dX7_adds_7 (pc' := 10) rfl in_X7_adds_X7 rfl (by decide) fl_X7_adds_102 h (fun v2 h => ?_)
  refine e_imul C dX7_adds_10 (pc' := 11) rfl ?_
  refine e_iload_n C (x := p1) rfl dX7_adds_11 (pc' := 12) rfl ?_
  refine f_iastore C dX7_adds_12 (pc' := 13) rfl h (fun ws h => ?_)
  refine e_aload_n C (x := p0) rfl dX7_adds_13 (pc' := 14) rfl ?_
  refine e_aload_n C (x := p0) rfl dX7_adds_14 (pc' := 15) rfl ?_
  refine f_getI C (ci := 7) (CN := RX7) (TT := TX7) (N := 36) 17 dX7_adds_15 (pc' := 18) rfl in_X7_adds_X7 rfl (by decide) fl_X7_adds_102 h (fun v3 h => ?_)
  refine e_iload_n C (x := p2) rfl dX7_adds_18 (pc' := 19) rfl ?_
  refine e_iload_n C (x := p3) rfl dX7_adds_19 (pc' := 20) rfl ?_
  refine e_iload C (x := p4) rfl dX7_adds_20 (pc' := 22) rfl ?_
  obtain ⟨hv, h⟩ := h
  refine e_callv (run_V (n := 4) C (m_X7_sets hst h) gX7_adds_X7_sets rfl ⟨rfl, by decide, by decide, by decide +kernel⟩ ⟨by decide, by decide⟩ (ci := 7) rfl rfl hv rfl (Nat.le_of_ble_eq_true rfl) dX7_adds_22 ⟨by decide, by decide⟩ (As := [.int v3, .int p2, .int p3, .int p4]) rfl) (pc' := 25) rfl (cn' := 0) (sn' := 0) rfl rfl (fun ws h => ?_)
  refine e_aload_n C (x := p0) rfl dX7_adds_25 (pc' := 26) rfl ?_
  refine e_dup C rfl dX7_adds_26 (pc' := 27) rfl ?_
  refine f_getI C (ci := 7) (CN := RX7) (TT := TX7) (N := 36) 17 dX7_adds_27 (pc' := 30) rfl in_X7_adds_X7 rfl (by decide) fl_X7_adds_102 h (fun v5 h => ?_)
  refine e_iconst C (v := (1 : Int32)) (by decide) dX7_adds_30 (pc' := 31) rfl ?_
  refine e_iadd C dX7_adds_31 (pc' := 32) rfl ?_
  refine f_putI C (ci := 7) (CN := RX7) (TT := TX7) (N := 36) 17 tyX7 dX7_adds_32 (pc' := 35) rfl in_X7_adds_X7 tyX7_ok nmX7 rfl (by decide) fl_X7_adds_102 rfl (by decide +kernel) h (fun ws h => ?_)
  exact r_void C F dX7_adds_35 (by decide) (by decide) h
