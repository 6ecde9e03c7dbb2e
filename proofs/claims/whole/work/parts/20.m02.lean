abbrev rm_X2_name : Room := { frames := 1, cells := 0, slots := 0, locals := 22 }
set_option maxRecDepth 20000 in
theorem w_X2_name_iniX6 : Cond.initialized RX6 ∈ wsX2_name := by decide +kernel
set_option maxRecDepth 20000 in
theorem w_X2_name_st_X6_isWithin : Cond.static yX6_isWithin ∈ wsX2_name := by decide +kernel
set_option maxRecDepth 20000 in
theorem in_X2_name_X2 : ∀ w ∈ wsX20, w ∈ wsX2_name := by decide +kernel
set_option maxRecDepth 20000 in
theorem fl_X2_name_9 : Cond.fieldLink RX2 9 (TX2 0).1 (TX2 0).2.1 (TX2 0).2.2.1 ∈ wsX2_name := by decide +kernel
set_option maxRecDepth 20000 in
theorem fl_X2_name_18 : Cond.fieldLink RX2 18 (TX2 2).1 (TX2 2).2.1 (TX2 2).2.2.1 ∈ wsX2_name := by decide +kernel
def F_X2_name (G : Gx) (p0 : Nat) (p1 : Int32) (p2 : Int32) (p3 : Int32) (ws : va_W) (Q : va_W → Prop) : Prop := (F_X6_isWithin G p1 (0 : Int32) (3 : Int32) ws (fun v1 ws => ((v1 = 0 → Q ws) ∧ (¬ v1 = 0 → qR 2 0 p0 ws (fun v2 => qS (gc G 1) v2 p1 p2 ws (fun ws => qR 2 2 p0 ws (fun v3 => qS (gc G 1) v3 p1 p3 ws (fun ws => Q ws))))))))
set_option maxRecDepth 20000 in
set_option maxHeartbeats 4000000 in
theorem m_X2_name {G : Gx} (hst : (gl G).stackTraces = false) {p0 : Nat} {p1 : Int32} {p2 : Int32} {p3 : Int32} {ws : va_W} {Q : va_W → Prop} (h : F_X2_name G p0 p1 p2 p3 ws Q) : Mt G yX2_name wsX2_name rm_X2_name [.ref p0, .int p1, .int p2, .int p3] ws (QtV G Q) := by
  refine mk_Mt (cc := cX2_name) (nL := 4) (own := RX2) (ret := none) (lv0 := [some (.ref p0), some (.int p1), some (.int p2), some (.int p3)]) hst (by decide) rfl rfl (Nat.le_of_ble_eq_true rfl) rfl ?_
  intro K C F
  refine e_iload_n C (x := p1) rfl dX2_name_0 (pc' := 1) rfl ?_
  refine e_iconst C (v := (0 : Int32)) (by decide) dX2_name_1 (pc' := 2) rfl ?_
  refine e_iconst C (v := (3 : Int32)) (by decide) dX2_name_2 (pc' := 3) rfl ?_
  refine e_calli (run_SN (n := 3) C (m_X6_isWithin hst h) ggX2_name_X6_isWithin rfl (by decide) w_X2_name_iniX6 w_X2_name_st_X6_isWithin ⟨by decide, by decide, by decide +kernel⟩ ⟨by decide, by decide⟩ rfl (Nat.le_of_ble_eq_true rfl) dX2_name_3 ⟨by decide, by decide⟩ (As := [.int p1, .int (0 : Int32), .int (3 : Int32)]) rfl) (pc' := 6) rfl (cn' := 0) (sn' := 0) rfl rfl (fun v1 ws h => ?_)
  refine e_if_eq C (tg := 23) dX2_name_6 (by decide) (pc' := 9) rfl (fun hc => ?_) (fun hc => ?_)
  · replace h := h.1 hc
    exact r_void C F dX2_name_23 (by decide) (by decide) h
  · replace h := h.2 hc
    refine e_aload_n C (x := p0) rfl dX2_name_9 (pc' := 10) rfl ?_
    refine f_getR C (ci := 2) (CN := RX2) (TT := TX2) (N := 3) 0 dX2_name_10 (pc' := 13) rfl in_X2_name_X2 rfl (by decide) fl_X2_name_9 h (fun v2 h => ?_)
    refine e_iload_n C (x := p1) rfl dX2_name_13 (pc' := 14) rfl ?_
    refine e_iload_n C (x := p2) rfl dX2_name_14 (pc' := 15) rfl ?_
    refine f_iastore C dX2_name_15 (pc' := 16) rfl h (fun ws h => ?_)
    refine e_aload_n C (x := p0) rfl dX2_name_16 (pc' := 17) rfl ?_
    refine f_getR C (ci := 2) (CN := RX2) (TT := TX2) (N := 3) 2 dX2_name_17 (pc' := 20) rfl in_X2_name_X2 rfl (by decide) fl_X2_name_18 h (fun v3 h => ?_)
    refine e_iload_n C (x := p1) rfl dX2_name_20 (pc' := 21) rfl ?_
    refine e_iload_n C (x := p3) rfl dX2_name_21 (pc' := 22) rfl ?_
    refine f_iastore C dX2_name_22 (pc' := 23) rfl h (fun ws h => ?_)
    exact r_void C F dX2_name_23 (by decide) (by decide) h
abbrev rm_X2_firstStand : Room := { frames := 2, cells := 0, slots := 0, locals := 42 }
set_option maxRecDepth 20000 in
theorem in_X2_firstStand_X2 : ∀ w ∈ wsX20, w ∈ wsX2_firstStand := by decide +kernel
set_option maxRecDepth 20000 in
theorem fl_X2_firstStand_9 : Cond.fieldLink RX2 9 (TX2 0).1 (TX2 0).2.1 (TX2 0).2.2.1 ∈ wsX2_firstStand := by decide +kernel
set_option maxRecDepth 20000 in
theorem w_X2_firstStand_iniX6 : Cond.initialized RX6 ∈ wsX2_firstStand := by decide +kernel
set_option maxRecDepth 20000 in
theorem w_X2_firstStand_st_X6_isOwner : Cond.static yX6_isOwner ∈ wsX2_firstStand := by decide +kernel
set_option maxRecDepth 20000 in
theorem fl_X2_firstStand_18 : Cond.fieldLink RX2 18 (TX2 2).1 (TX2 2).2.1 (TX2 2).2.2.1 ∈ wsX2_firstStand := by decide +kernel
set_option maxRecDepth 20000 in
theorem w_X2_firstStand_st_X6_isWithin : Cond.static yX6_isWithin ∈ wsX2_firstStand := by decide +kernel
def F_X2_firstStand (G : Gx) (p0 : Nat) (p1 : Int32) (ws : va_W) (Q : Int32 → va_W → Prop) : Prop := ∀ (J2 : Int32 → va_W → Prop), (∀ (x2 : Int32) (ws : va_W), ((p1 ≤ x2 → Q (1 : Int32) ws) ∧ (¬ p1 ≤ x2 → (((4 : Int32) ≤ x2 → Q (1 : Int32) ws) ∧ (¬ (4 : Int32) ≤ x2 → qR 2 0 p0 ws (fun v1 => qA (gc G 1) v1 x2 ws (fun v2 => (F_X6_isOwner G v2 ws (fun v3 ws => ((v3 = 0 → Q (0 : Int32) ws) ∧ (¬ v3 = 0 → qR 2 2 p0 ws (fun v4 => qA (gc G 1) v4 x2 ws (fun v5 => (F_X6_isWithin G v5 (1 : Int32) (100 : Int32) ws (fun v6 ws => ((¬ v6 = 0 → J2 (x2 + (1 : Int32)) ws) ∧ (v6 = 0 → Q (0 : Int32) ws)))))))))))))))) → J2 x2 ws) → J2 (0 : Int32) ws
set_option maxRecDepth 20000 in
set_option maxHeartbeats 4000000 in
theorem m_X2_firstStand {G : Gx} (hst : (gl G).stackTraces = false) {p0 : Nat} {p1 : Int32} {ws : va_W} {Q : Int32 → va_W → Prop} (h : F_X2_firstStand G p0 p1 ws Q) : Mt G yX2_firstStand wsX2_firstStand rm_X2_firstStand [.ref p0, .int p1] ws (QtI G Q) := by
  refine mk_Mt (cc := cX2_firstStand) (nL := 3) (own := RX2) (ret := (some .boolean)) (lv0 := [some (.ref p0), some (.int p1), none]) hst (by decide) rfl rfl (Nat.le_of_ble_eq_true rfl) rfl ?_
  intro K C F
  replace h := h (fun x2 ws => Ev K G 3 0 0 2 [some (.ref p0), some (.int p1), some (.int x2)] [] ws)
  replace h := h (by
    intro x2 ws h
    show Ev K G 3 0 0 2 [some (.ref p0), some (.int p1), some (.int x2)] [] ws
    refine e_iload_n C (x := x2) rfl dX2_firstStand_2 (pc' := 3) rfl ?_
    refine e_iload_n C (x := p1) rfl dX2_firstStand_3 (pc' := 4) rfl ?_
    refine e_icmp_ge C (tg := 47) dX2_firstStand_4 (by decide) (pc' := 7) rfl (fun hc => ?_) (fun hc => ?_)
    · replace h := h.1 hc
      refine e_iconst C (v := (1 : Int32)) (by decide) dX2_firstStand_47 (pc' := 48) rfl ?_
      exact r_bool C F dX2_firstStand_48 (by decide) (by decide) (Or.inr rfl) h
    · replace h := h.2 hc
      refine e_iload_n C (x := x2) rfl dX2_firstStand_7 (pc' := 8) rfl ?_
      refine e_iconst C (v := (4 : Int32)) (by decide) dX2_firstStand_8 (pc' := 9) rfl ?_
      refine e_icmp_ge C (tg := 47) dX2_firstStand_9 (by decide) (pc' := 12) rfl (fun hc => ?_) (fun hc => ?_)
      · replace h := h.1 hc
        refine e_iconst C (v := (1 : Int32)) (by decide) dX2_firstStand_47 (pc' := 48) rfl ?_
        exact r_bool C F dX2_firstStand_48 (by decide) (by decide) (Or.inr rfl) h
      · replace h := h.2 hc
        refine e_aload_n C (x := p0) rfl dX2_firstStand_12 (pc' := 13) rfl ?_
        refine f_getR C (ci := 2) (CN := RX2) (TT := TX2) (N := 3) 0 dX2_firstStand_13 (pc' := 16) rfl in_X2_firstStand_X2 rfl (by decide) fl_X2_firstStand_9 h (fun v1 h => ?_)
        refine e_iload_n C (x := x2) rfl dX2_firstStand_16 (pc' := 17) rfl ?_
        refine f_iaload C dX2_firstStand_17 (pc' := 18) rfl h (fun v2 h => ?_)
        refine e_calli (run_SN (n := 1) C (m_X6_isOwner hst h) ggX2_firstStand_X6_isOwner rfl (by decide) w_X2_firstStand_iniX6 w_X2_firstStand_st_X6_isOwner ⟨by decide, by decide, by decide +kernel⟩ ⟨by decide, by decide⟩ rfl (Nat.le_of_ble_eq_true rfl) dX2_firstStand_18 ⟨by decide, by decide⟩ (As := [.int v2]) rfl) (pc' := 21) rfl (cn' := 0) (sn' := 0) rfl rfl (fun v3 ws h => ?_)
        refine e_if_eq C (tg := 39) dX2_firstStand_21 (by decide) (pc' := 24) rfl (fun hc => ?_) (fun hc => ?_)
        · replace h := h.1 hc
          refine e_iconst C (v := (0 : Int32)) (by decide) dX2_firstStand_39 (pc' := 40) rfl ?_
          exact r_bool C F dX2_firstStand_40 (by decide) (by decide) (Or.inl rfl) h
        · replace h := h.2 hc
          refine e_aload_n C (x := p0) rfl dX2_firstStand_24 (pc' := 25) rfl ?_
          refine f_getR C (ci := 2) (CN := RX2) (TT := TX2) (N := 3) 2 dX2_firstStand_25 (pc' := 28) rfl in_X2_firstStand_X2 rfl (by decide) fl_X2_firstStand_18 h (fun v4 h => ?_)
          refine e_iload_n C (x := x2) rfl dX2_firstStand_28 (pc' := 29) rfl ?_
          refine f_iaload C dX2_firstStand_29 (pc' := 30) rfl h (fun v5 h => ?_)
          refine e_iconst C (v := (1 : Int32)) (by decide) dX2_firstStand_30 (pc' := 31) rfl ?_
          refine e_bipush C (v := (100 : Int32)) (by decide) dX2_firstStand_31 (pc' := 33) rfl ?_
          refine e_calli (run_SN (n := 3) C (m_X6_isWithin hst h) ggX2_firstStand_X6_isWithin rfl (by decide) w_X2_firstStand_iniX6 w_X2_firstStand_st_X6_isWithin ⟨by decide, by decide, by decide +kernel⟩ ⟨by decide, by decide⟩ rfl (Nat.le_of_ble_eq_true rfl) dX2_firstStand_33 ⟨by decide, by decide⟩ (As := [.int v5, .int (1 : Int32), .int (100 : Int32)]) rfl) (pc' := 36) rfl (cn' := 0) (sn' := 0) rfl rfl (fun v6 ws h => ?_)
          refine e_if_ne C (tg := 41) dX2_firstStand_36 (by decide) (pc' := 39) rfl (fun hc => ?_) (fun hc => ?_)
          · replace h := h.1 hc
            refine e_iinc C dX2_firstStand_41 (x := x2) (v := (x2 + (1 : Int32))) rfl rfl (by decide) (pc' := 44) rfl (lv' := [some (.ref p0), some (.int p1), some (.int (x2 + (1 : Int32)))]) rfl ?_
            refine e_goto C (tg := 2) dX2_firstStand_44 (by decide) ?_
            exact h
          · replace h := h.2 hc
            refine e_iconst C (v := (0 : Int32)) (by decide) dX2_firstStand_39 (pc' := 40) rfl ?_
            exact r_bool C F dX2_firstStand_40 (by decide) (by decide) (Or.inl rfl) h)
  refine e_iconst C (v := (0 : Int32)) (by decide) dX2_firstStand_0 (pc' := 1) rfl ?_
  refine e_istore_n C (by decide) dX2_firstStand_1 (pc' := 2) rfl (lv' := [some (.ref p0), some (.int p1), some (.int (0 : Int32))]) rfl ?_
  exact h
abbrev rm_X6_partOf : Room := { frames := 0, cells := 0, slots := 0, locals := 0 }
def F_X6_partOf (G : Gx) (p0 : Int32) (p1 : Int32) (p2 : Int32) (ws : va_W) (Q : Int32 → va_W → Prop) : Prop := ((0 < p2 → (¬ p2.toInt64 = 0 ∧ (Q (((p0.toInt64 * p1.toInt64) / p2.toInt64).toInt32) ws))) ∧ (¬ 0 < p2 → Q (0 : Int32) ws))
set_option maxRecDepth 20000 in
set_option maxHeartbeats 4000000 in
theorem m_X6_partOf {G : Gx} (hst : (gl G).stackTraces = false) {p0 : Int32} {p1 : Int32} {p2 : Int32} {ws : va_W} {Q : Int32 → va_W → Prop} (h : F_X6_partOf G p0 p1 p2 ws Q) : Mt G yX6_partOf wsX6_partOf rm_X6_partOf [.int p0, .int p1, .int p2] ws (QtI G Q) := by
  refine mk_Mt (cc := cX6_partOf) (nL := 3) (own := RX6) (ret := (some .int)) (lv0 := [some (.int p0), some (.int p1), some (.int p2)]) hst (by decide) rfl rfl (Nat.le_of_ble_eq_true rfl) rfl ?_
  intro K C F
  refine e_iload_n C (x := p2) rfl dX6_partOf_0 (pc' := 1) rfl ?_
  refine e_if_gt C (tg := 8) dX6_partOf_1 (by decide) (pc' := 4) rfl (fun hc => ?_) (fun hc => ?_)
  · replace h := h.1 hc
    refine e_iload_n C (x := p0) rfl dX6_partOf_8 (pc' := 9) rfl ?_
    refine e_i2l C dX6_partOf_9 (pc' := 10) rfl ?_
    refine e_iload_n C (x := p1) rfl dX6_partOf_10 (pc' := 11) rfl ?_
    refine e_i2l C dX6_partOf_11 (pc' := 12) rfl ?_
    refine e_lmul C dX6_partOf_12 (pc' := 13) rfl ?_
    refine e_iload_n C (x := p2) rfl dX6_partOf_13 (pc' := 14) rfl ?_
    refine e_i2l C dX6_partOf_14 (pc' := 15) rfl ?_
    obtain ⟨hz, h⟩ := h
    refine e_ldiv C hz dX6_partOf_15 (pc' := 16) rfl ?_
    refine e_l2i C dX6_partOf_16 (pc' := 17) rfl ?_
    exact r_int C F dX6_partOf_17 (by decide) (by decide) h
  · replace h := h.2 hc
    refine e_iconst C (v := (0 : Int32)) (by decide) dX6_partOf_4 (pc' := 5) rfl ?_
    refine e_goto C (tg := 17) dX6_partOf_5 (by decide) ?_
    exact r_int C F dX6_partOf_17 (by decide) (by decide) h
abbrev rm_X2_partLength : Room := { frames := 1, cells := 0, slots := 0, locals := 22 }
set_option maxRecDepth 20000 in
theorem in_X2_partLength_X2 : ∀ w ∈ wsX20, w ∈ wsX2_partLength := by decide +kernel
set_option maxRecDepth 20000 in
theorem fl_X2_partLength_18 : Cond.fieldLink RX2 18 (TX2 2).1 (TX2 2).2.1 (TX2 2).2.2.1 ∈ wsX2_partLength := by decide +kernel
set_option maxRecDepth 20000 in
theorem fl_X2_partLength_15 : Cond.fieldLink RX2 15 (TX2 1).1 (TX2 1).2.1 (TX2 1).2.2.1 ∈ wsX2_partLength := by decide +kernel
set_option maxRecDepth 20000 in
theorem w_X2_partLength_iniX6 : Cond.initialized RX6 ∈ wsX2_partLength := by decide +kernel
set_option maxRecDepth 20000 in
theorem w_X2_partLength_st_X6_partOf : Cond.static yX6_partOf ∈ wsX2_partLength := by decide +kernel
def F_X2_partLength (G : Gx) (p0 : Nat) (p1 : Int32) (p2 : Int32) (ws : va_W) (Q : Int32 → va_W → Prop) : Prop := ∀ (J5 : Int32 → Int32 → va_W → Prop), ∀ (J33 : Int32 → va_W → Prop), ∀ (J39 : Int32 → Int32 → Int32 → va_W → Prop), ∀ (J88 : Int32 → va_W → Prop), ∀ (J94 : Int32 → Int32 → Int32 → va_W → Prop), ∀ (J126 : Int32 → Int32 → Int32 → Int32 → Int32 → Int32 → Nat → va_W → Prop), ∀ (J145 : Int32 → Int32 → Int32 → Int32 → va_W → Prop), (∀ (x3 : Int32) (x4 : Int32) (ws : va_W), ((p2 ≤ x4 → J33 x3 ws) ∧ (¬ p2 ≤ x4 → (((4 : Int32) ≤ x4 → J33 x3 ws) ∧ (¬ (4 : Int32) ≤ x4 → qR 2 2 p0 ws (fun v1 => qA (gc G 1) v1 x4 ws (fun v2 => J5 (x3 + v2) (x4 + (1 : Int32)) ws)))))) → J5 x3 x4 ws) → (∀ (x3 : Int32) (ws : va_W), J39 x3 p1 (0 : Int32) ws → J33 x3 ws) → (∀ (x3 : Int32) (x4 : Int32) (x5 : Int32) (ws : va_W), ((p2 ≤ x5 → J88 x4 ws) ∧ (¬ p2 ≤ x5 → (((4 : Int32) ≤ x5 → J88 x4 ws) ∧ (¬ (4 : Int32) ≤ x5 → qR 2 1 p0 ws (fun v3 => qR 2 2 p0 ws (fun v4 => qA (gc G 1) v4 x5 ws (fun v5 => (F_X6_partOf G p1 v5 x3 ws (fun v6 ws => qS (gc G 1) v3 x5 v6 ws (fun ws => qR 2 1 p0 ws (fun v7 => qA (gc G 1) v7 x5 ws (fun v8 => J39 x3 (x4 - v8) (x5 + (1 : Int32)) ws)))))))))))) → J39 x3 x4 x5 ws) → (∀ (x4 : Int32) (ws : va_W), J94 x4 (0 : Int32) (0 : Int32) ws → J88 x4 ws) → (∀ (x4 : Int32) (x5 : Int32) (x6 : Int32) (ws : va_W), ((p2 ≤ x6 → Q x5 ws) ∧ (¬ p2 ≤ x6 → (((4 : Int32) ≤ x6 → Q x5 ws) ∧ (¬ (4 : Int32) ≤ x6 → qR 2 1 p0 ws (fun v9 => qA (gc G 1) v9 x6 ws (fun v10 => ((x4 ≤ x6 → J126 x4 x5 x6 (0 : Int32) v10 x6 v9 ws) ∧ (¬ x4 ≤ x6 → J126 x4 x5 x6 (1 : Int32) v10 x6 v9 ws)))))))) → J94 x4 x5 x6 ws) → (∀ (x4 : Int32) (x5 : Int32) (x6 : Int32) (t0 : Int32) (t1 : Int32) (t2 : Int32) (t3 : Nat) (ws : va_W), qS (gc G 1) t3 t2 (t1 + t0) ws (fun ws => qR 2 1 p0 ws (fun v11 => qA (gc G 1) v11 x6 ws (fun v12 => ((v12 ≤ 0 → J145 x4 x6 (0 : Int32) x5 ws) ∧ (¬ v12 ≤ 0 → J145 x4 x6 (1 : Int32) x5 ws))))) → J126 x4 x5 x6 t0 t1 t2 t3 ws) → (∀ (x4 : Int32) (x6 : Int32) (t0 : Int32) (t1 : Int32) (ws : va_W), J94 x4 (t1 + t0) (x6 + (1 : Int32)) ws → J145 x4 x6 t0 t1 ws) → J5 (0 : Int32) (0 : Int32) ws
set_option maxRecDepth 20000 in
set_option maxHeartbeats 4000000 in
theorem m_X2_partLength {G : Gx} (hst : (gl G).stackTraces = false) {p0 : Nat} {p1 : Int32} {p2 : Int32} {ws : va_W} {Q : Int32 → va_W → Prop} (h : F_X2_partLength G p0 p1 p2 ws Q) : Mt G yX2_partLength wsX2_partLength rm_X2_partLength [.ref p0, .int p1, .int p2] ws (QtI G Q) := by
  refine mk_Mt (cc := cX2_partLength) (nL := 7) (own := RX2) (ret := (some .int)) (lv0 := [some (.ref p0), some (.int p1), some (.int p2), none, none, none, none]) hst (by decide) rfl rfl (Nat.le_of_ble_eq_true rfl) rfl ?_
  intro K C F
  replace h := h (fun x3 x4 ws => Ev K G 7 0 0 5 [some (.ref p0), some (.int p1), some (.int p2), some (.int x3), some (.int x4), none, none] [] ws) (fun x3 ws => Ev K G 7 0 0 33 [some (.ref p0), some (.int p1), some (.int p2), some (.int x3), none, none, none] [] ws) (fun x3 x4 x5 ws => Ev K G 7 0 0 39 [some (.ref p0), some (.int p1), some (.int p2), some (.int x3), some (.int x4), some (.int x5), none] [] ws) (fun x4 ws => Ev K G 7 0 0 88 [some (.ref p0), none, some (.int p2), none, some (.int x4), none, none] [] ws) (fun x4 x5 x6 ws => Ev K G 7 0 0 94 [some (.ref p0), none, some (.int p2), none, some (.int x4), some (.int x5), some (.int x6)] [] ws) (fun x4 x5 x6 t0 t1 t2 t3 ws => Ev K G 7 0 0 126 [some (.ref p0), none, some (.int p2), none, some (.int x4), some (.int x5), some (.int x6)] [.int t0, .int t1, .int t2, .ref t3] ws) (fun x4 x6 t0 t1 ws => Ev K G 7 0 0 145 [some (.ref p0), none, some (.int p2), none, some (.int x4), none, some (.int x6)] [.int t0, .int t1] ws)
  replace h := h (by
    intro x3 x4 ws h
    show Ev K G 7 0 0 5 [some (.ref p0), some (.int p1), some (.int p2), some (.int x3), some (.int x4), none, none] [] ws
    refine e_iload C (x := x4) rfl dX2_partLength_5 (pc' := 7) rfl ?_
    refine e_iload_n C (x := p2) rfl dX2_partLength_7 (pc' := 8) rfl ?_
    refine e_icmp_ge C (tg := 33) dX2_partLength_8 (by decide) (pc' := 11) rfl (fun hc => ?_) (fun hc => ?_)
    · replace h := h.1 hc
      refine e_mask [true, true, true, true, false, false, false] (lv' := [some (.ref p0), some (.int p1), some (.int p2), some (.int x3), none, none, none]) rfl ?_
      exact h
    · replace h := h.2 hc
      refine e_iload C (x := x4) rfl dX2_partLength_11 (pc' := 13) rfl ?_
      refine e_iconst C (v := (4 : Int32)) (by decide) dX2_partLength_13 (pc' := 14) rfl ?_
      refine e_icmp_ge C (tg := 33) dX2_partLength_14 (by decide) (pc' := 17) rfl (fun hc => ?_) (fun hc => ?_)
      · replace h := h.1 hc
        refine e_mask [true, true, true, true, false, false, false] (lv' := [some (.ref p0), some (.int p1), some (.int p2), some (.int x3), none, none, none]) rfl ?_
        exact h
      · replace h := h.2 hc
        refine e_iload_n C (x := x3) rfl dX2_partLength_17 (pc' := 18) rfl ?_
        refine e_aload_n C (x := p0) rfl dX2_partLength_18 (pc' := 19) rfl ?_
        refine f_getR C (ci := 2) (CN := RX2) (TT := TX2) (N := 3) 2 dX2_partLength_19 (pc' := 22) rfl in_X2_partLength_X2 rfl (by decide) fl_X2_partLength_18 h (fun v1 h => ?_)
        refine e_iload C (x := x4) rfl dX2_partLength_22 (pc' := 24) rfl ?_
        refine f_iaload C dX2_partLength_24 (pc' := 25) rfl h (fun v2 h => ?_)
        refine e_iadd C dX2_partLength_25 (pc' := 26) rfl ?_
        refine e_istore_n C (by decide) dX2_partLength_26 (pc' := 27) rfl (lv' := [some (.ref p0), some (.int p1), some (.int p2), some (.int (x3 + v2)), some (.int x4), none, none]) rfl ?_
        refine e_iinc C dX2_partLength_27 (x := x4) (v := (x4 + (1 : Int32))) rfl rfl (by decide) (pc' := 30) rfl (lv' := [some (.ref p0), some (.int p1), some (.int p2), some (.int (x3 + v2)), some (.int (x4 + (1 : Int32))), none, none]) rfl ?_
        refine e_goto C (tg := 5) dX2_partLength_30 (by decide) ?_
        exact h)
  replace h := h (by
    intro x3 ws h
    show Ev K G 7 0 0 33 [some (.ref p0), some (.int p1), some (.int p2), some (.int x3), none, none, none] [] ws
    refine e_iload_n C (x := p1) rfl dX2_partLength_33 (pc' := 34) rfl ?_
    refine e_istore C (by decide) dX2_partLength_34 (pc' := 36) rfl (lv' := [some (.ref p0), some (.int p1), some (.int p2), some (.int x3), some (.int p1), none, none]) rfl ?_
    refine e_iconst C (v := (0 : Int32)) (by decide) dX2_partLength_36 (pc' := 37) rfl ?_
    refine e_istore C (by decide) dX2_partLength_37 (pc' := 39) rfl (lv' := [some (.ref p0), some (.int p1), some (.int p2), some (.int x3), some (.int p1), some (.int (0 : Int32)), none]) rfl ?_
    exact h)
  replace h := h (by
    intro x3 x4 x5 ws h
    show Ev K G 7 0 0 39 [some (.ref p0), some (.int p1), some (.int p2), some (.int x3), some (.int x4), some (.int x5), none] [] ws
    refine e_iload C (x := x5) rfl dX2_partLength_39 (pc' := 41) rfl ?_
    refine e_iload_n C (x := p2) rfl dX2_partLength_41 (pc' := 42) rfl ?_
    refine e_icmp_ge C (tg := 88) dX2_partLength_42 (by decide) (pc' := 45) rfl (fun hc => ?_) (fun hc => ?_)
    · replace h := h.1 hc
      refine e_mask [true, false, true, false, true, false, false] (lv' := [some (.ref p0), none, some (.int p2), none, some (.int x4), none, none]) rfl ?_
      exact h
    · replace h := h.2 hc
      refine e_iload C (x := x5) rfl dX2_partLength_45 (pc' := 47) rfl ?_
      refine e_iconst C (v := (4 : Int32)) (by decide) dX2_partLength_47 (pc' := 48) rfl ?_
      refine e_icmp_ge C (tg := 88) dX2_partLength_48 (by decide) (pc' := 51) rfl (fun hc => ?_) (fun hc => ?_)
      · replace h := h.1 hc
        refine e_mask [true, false, true, false, true, false, false] (lv' := [some (.ref p0), none, some (.int p2), none, some (.int x4), none, none]) rfl ?_
        exact h
      · replace h := h.2 hc
        refine e_aload_n C (x := p0) rfl dX2_partLength_51 (pc' := 52) rfl ?_
        refine f_getR C (ci := 2) (CN := RX2) (TT := TX2) (N := 3) 1 dX2_partLength_52 (pc' := 55) rfl in_X2_partLength_X2 rfl (by decide) fl_X2_partLength_15 h (fun v3 h => ?_)
        refine e_iload C (x := x5) rfl dX2_partLength_55 (pc' := 57) rfl ?_
        refine e_iload_n C (x := p1) rfl dX2_partLength_57 (pc' := 58) rfl ?_
        refine e_aload_n C (x := p0) rfl dX2_partLength_58 (pc' := 59) rfl ?_
        refine f_getR C (ci := 2) (CN := RX2) (TT := TX2) (N := 3) 2 dX2_partLength_59 (pc' := 62) rfl in_X2_partLength_X2 rfl (by decide) fl_X2_partLength_18 h (fun v4 h => ?_)
        refine e_iload C (x := x5) rfl dX2_partLength_62 (pc' := 64) rfl ?_
        refine f_iaload C dX2_partLength_64 (pc' := 65) rfl h (fun v5 h => ?_)
        refine e_iload_n C (x := x3) rfl dX2_partLength_65 (pc' := 66) rfl ?_
        refine e_calli (run_SN (n := 3) C (m_X6_partOf hst h) ggX2_partLength_X6_partOf rfl (by decide) w_X2_partLength_iniX6 w_X2_partLength_st_X6_partOf ⟨by decide, by decide, by decide +kernel⟩ ⟨by decide, by decide⟩ rfl (Nat.le_of_ble_eq_true rfl) dX2_partLength_66 ⟨by decide, by decide⟩ (As := [.int p1, .int v5, .int x3]) rfl) (pc' := 69) rfl (cn' := 0) (sn' := 0) rfl rfl (fun v6 ws h => ?_)
        refine f_iastore C dX2_partLength_69 (pc' := 70) rfl h (fun ws h => ?_)
        refine e_iload C (x := x4) rfl dX2_partLength_70 (pc' := 72) rfl ?_
        refine e_aload_n C (x := p0) rfl dX2_partLength_72 (pc' := 73) rfl ?_
        refine f_getR C (ci := 2) (CN := RX2) (TT := TX2) (N := 3) 1 dX2_partLength_73 (pc' := 76) rfl in_X2_partLength_X2 rfl (by decide) fl_X2_partLength_15 h (fun v7 h => ?_)
        refine e_iload C (x := x5) rfl dX2_partLength_76 (pc' := 78) rfl ?_
        refine f_iaload C dX2_partLength_78 (pc' := 79) rfl h (fun v8 h => ?_)
        refine e_isub C dX2_partLength_79 (pc' := 80) rfl ?_
        refine e_istore C (by decide) dX2_partLength_80 (pc' := 82) rfl (lv' := [some (.ref p0), some (.int p1), some (.int p2), some (.int x3), some (.int (x4 - v8)), some (.int x5), none]) rfl ?_
        refine e_iinc C dX2_partLength_82 (x := x5) (v := (x5 + (1 : Int32))) rfl rfl (by decide) (pc' := 85) rfl (lv' := [some (.ref p0), some (.int p1), some (.int p2), some (.int x3), some (.int (x4 - v8)), some (.int (x5 + (1 : Int32))), none]) rfl ?_
        refine e_goto C (tg := 39) dX2_partLength_85 (by decide) ?_
        exact h)
  replace h := h (by
    intro x4 ws h
    show Ev K G 7 0 0 88 [some (.ref p0), none, some (.int p2), none, some (.int x4), none, none] [] ws
    refine e_iconst C (v := (0 : Int32)) (by decide) dX2_partLength_88 (pc' := 89) rfl ?_
    refine e_istore C (by decide) dX2_partLength_89 (pc' := 91) rfl (lv' := [some (.ref p0), none, some (.int p2), none, some (.int x4), some (.int (0 : Int32)), none]) rfl ?_
    refine e_iconst C (v := (0 : Int32)) (by decide) dX2_partLength_91 (pc' := 92) rfl ?_
    refine e_istore C (by decide) dX2_partLength_92 (pc' := 94) rfl (lv' := [some (.ref p0), none, some (.int p2), none, some (.int x4), some (.int (0 : Int32)), some (.int (0 : Int32))]) rfl ?_
    exact h)
  replace h := h (by
    intro x4 x5 x6 ws h
    show Ev K G 7 0 0 94 [some (.ref p0), none, some (.int p2), none, some (.int x4), some (.int x5), some (.int x6)] [] ws
    refine e_iload C (x := x6) rfl dX2_partLength_94 (pc' := 96) rfl ?_
    refine e_iload_n C (x := p2) rfl dX2_partLength_96 (pc' := 97) rfl ?_
    refine e_icmp_ge C (tg := 154) dX2_partLength_97 (by decide) (pc' := 100) rfl (fun hc => ?_) (fun hc => ?_)
    · replace h := h.1 hc
      refine e_iload C (x := x5) rfl dX2_partLength_154 (pc' := 156) rfl ?_
      exact r_int C F dX2_partLength_156 (by decide) (by decide) h
    · replace h := h.2 hc
      refine e_iload C (x := x6) rfl dX2_partLength_100 (pc' := 102) rfl ?_
      refine e_iconst C (v := (4 : Int32)) (by decide) dX2_partLength_102 (pc' := 103) rfl ?_
      refine e_icmp_ge C (tg := 154) dX2_partLength_103 (by decide) (pc' := 106) rfl (fun hc => ?_) (fun hc => ?_)
      · replace h := h.1 hc
        refine e_iload C (x := x5) rfl dX2_partLength_154 (pc' := 156) rfl ?_
        exact r_int C F dX2_partLength_156 (by decide) (by decide) h
      · replace h := h.2 hc
        refine e_aload_n C (x := p0) rfl dX2_partLength_106 (pc' := 107) rfl ?_
        refine f_getR C (ci := 2) (CN := RX2) (TT := TX2) (N := 3) 1 dX2_partLength_107 (pc' := 110) rfl in_X2_partLength_X2 rfl (by decide) fl_X2_partLength_15 h (fun v9 h => ?_)
        refine e_iload C (x := x6) rfl dX2_partLength_110 (pc' := 112) rfl ?_
        refine e_dup2 C rfl rfl dX2_partLength_112 (pc' := 113) rfl ?_
        refine f_iaload C dX2_partLength_113 (pc' := 114) rfl h (fun v10 h => ?_)
        refine e_iload C (x := x6) rfl dX2_partLength_114 (pc' := 116) rfl ?_
        refine e_iload C (x := x4) rfl dX2_partLength_116 (pc' := 118) rfl ?_
        refine e_icmp_ge C (tg := 125) dX2_partLength_118 (by decide) (pc' := 121) rfl (fun hc => ?_) (fun hc => ?_)
        · replace h := h.1 hc
          refine e_iconst C (v := (0 : Int32)) (by decide) dX2_partLength_125 (pc' := 126) rfl ?_
          exact h
        · replace h := h.2 hc
          refine e_iconst C (v := (1 : Int32)) (by decide) dX2_partLength_121 (pc' := 122) rfl ?_
          refine e_goto C (tg := 126) dX2_partLength_122 (by decide) ?_
          exact h)
  replace h := h (by
    intro x4 x5 x6 t0 t1 t2 t3 ws h
    show Ev K G 7 0 0 126 [some (.ref p0), none, some (.int p2), none, some (.int x4), some (.int x5), some (.int x6)] [.int t0, .int t1, .int t2, .ref t3] ws
    refine e_iadd C dX2_partLength_126 (pc' := 127) rfl ?_
    refine f_iastore C dX2_partLength_127 (pc' := 128) rfl h (fun ws h => ?_)
    refine e_iload C (x := x5) rfl dX2_partLength_128 (pc' := 130) rfl ?_
    refine e_aload_n C (x := p0) rfl dX2_partLength_130 (pc' := 131) rfl ?_
    refine f_getR C (ci := 2) (CN := RX2) (TT := TX2) (N := 3) 1 dX2_partLength_131 (pc' := 134) rfl in_X2_partLength_X2 rfl (by decide) fl_X2_partLength_15 h (fun v11 h => ?_)
    refine e_iload C (x := x6) rfl dX2_partLength_134 (pc' := 136) rfl ?_
    refine f_iaload C dX2_partLength_136 (pc' := 137) rfl h (fun v12 h => ?_)
    refine e_if_le C (tg := 144) dX2_partLength_137 (by decide) (pc' := 140) rfl (fun hc => ?_) (fun hc => ?_)
    · replace h := h.1 hc
      refine e_iconst C (v := (0 : Int32)) (by decide) dX2_partLength_144 (pc' := 145) rfl ?_
      refine e_mask [true, false, true, false, true, false, true] (lv' := [some (.ref p0), none, some (.int p2), none, some (.int x4), none, some (.int x6)]) rfl ?_
      exact h
    · replace h := h.2 hc
      refine e_iconst C (v := (1 : Int32)) (by decide) dX2_partLength_140 (pc' := 141) rfl ?_
      refine e_goto C (tg := 145) dX2_partLength_141 (by decide) ?_
      refine e_mask [true, false, true, false, true, false, true] (lv' := [some (.ref p0), none, some (.int p2), none, some (.int x4), none, some (.int x6)]) rfl ?_
      exact h)
  replace h := h (by
    intro x4 x6 t0 t1 ws h
    show Ev K G 7 0 0 145 [some (.ref p0), none, some (.int p2), none, some (.int x4), none, some (.int x6)] [.int t0, .int t1] ws
    refine e_iadd C dX2_partLength_145 (pc' := 146) rfl ?_
    refine e_istore C (by decide) dX2_partLength_146 (pc' := 148) rfl (lv' := [some (.ref p0), none, some (.int p2), none, some (.int x4), some (.int (t1 + t0)), some (.int x6)]) rfl ?_
    refine e_iinc C dX2_partLength_148 (x := x6) (v := (x6 + (1 : Int32))) rfl rfl (by decide) (pc' := 151) rfl (lv' := [some (.ref p0), none, some (.int p2), none, some (.int x4), some (.int (t1 + t0)), some (.int (x6 + (1 : Int32)))]) rfl ?_
    refine e_goto C (tg := 94) dX2_partLength_151 (by decide) ?_
    exact h)
  refine e_iconst C (v := (0 : Int32)) (by decide) dX2_partLength_0 (pc' := 1) rfl ?_
  refine e_istore_n C (by decide) dX2_partLength_1 (pc' := 2) rfl (lv' := [some (.ref p0), some (.int p1), some (.int p2), some (.int (0 : Int32)), none, none, none]) rfl ?_
  refine e_iconst C (v := (0 : Int32)) (by decide) dX2_partLength_2 (pc' := 3) rfl ?_
  refine e_istore C (by decide) dX2_partLength_3 (pc' := 5) rfl (lv' := [some (.ref p0), some (.int p1), some (.int p2), some (.int (0 : Int32)), some (.int (0 : Int32)), none, none]) rfl ?_
  exact h
abbrev rm_X6_leaveTo : Room := { frames := 2, cells := 0, slots := 0, locals := 48 }
set_option maxRecDepth 20000 in
theorem in_X6_leaveTo_X4 : ∀ w ∈ wsX40, w ∈ wsX6_leaveTo := by decide +kernel
set_option maxRecDepth 20000 in
theorem fl_X6_leaveTo_183 : Cond.fieldLink RX6 183 (TX4 0).1 (TX4 0).2.1 (TX4 0).2.2.1 ∈ wsX6_leaveTo := by decide +kernel
set_option maxRecDepth 20000 in
theorem fl_X6_leaveTo_173 : Cond.fieldLink RX6 173 (TX4 1).1 (TX4 1).2.1 (TX4 1).2.2.1 ∈ wsX6_leaveTo := by decide +kernel
set_option maxRecDepth 20000 in
theorem in_X6_leaveTo_X6 : ∀ w ∈ wsX60, w ∈ wsX6_leaveTo := by decide +kernel
set_option maxRecDepth 20000 in
theorem fl_X6_leaveTo_52 : Cond.fieldLink RX6 52 (TX6 13).1 (TX6 13).2.1 (TX6 13).2.2.1 ∈ wsX6_leaveTo := by decide +kernel
set_option maxRecDepth 20000 in
theorem in_X6_leaveTo_X2 : ∀ w ∈ wsX20, w ∈ wsX6_leaveTo := by decide +kernel
set_option maxRecDepth 20000 in
theorem fl_X6_leaveTo_352 : Cond.fieldLink RX6 352 (TX2 1).1 (TX2 1).2.1 (TX2 1).2.2.1 ∈ wsX6_leaveTo := by decide +kernel
set_option maxRecDepth 20000 in
theorem fl_X6_leaveTo_354 : Cond.fieldLink RX6 354 (TX2 0).1 (TX2 0).2.1 (TX2 0).2.2.1 ∈ wsX6_leaveTo := by decide +kernel
def F_X6_leaveTo (G : Gx) (p0 : Nat) (p1 : Nat) (p2 : Int32) (ws : va_W) (Q : va_W → Prop) : Prop := ∀ (J17 : Int32 → Int32 → Int32 → Int32 → va_W → Prop), ∀ (J78 : Int32 → Int32 → Int32 → Int32 → Int32 → va_W → Prop), ∀ (J107 : Int32 → Int32 → Int32 → Int32 → va_W → Prop), (∀ (x3 : Int32) (x4 : Int32) (x5 : Int32) (x6 : Int32) (ws : va_W), ((p2 ≤ x6 → Q ws) ∧ (¬ p2 ≤ x6 → (((4 : Int32) ≤ x6 → Q ws) ∧ (¬ (4 : Int32) ≤ x6 → qR 6 13 p0 ws (fun v3 => qR 2 1 v3 ws (fun v4 => qA (gc G 1) v4 x6 ws (fun v5 => (((x4 + v5) ≤ x4 → J78 x3 x4 x5 x6 (x4 + v5) ws) ∧ (¬ (x4 + v5) ≤ x4 → ((x5 = 0 → J78 x3 x4 x5 x6 (x4 + v5) ws) ∧ (¬ x5 = 0 → qR 6 13 p0 ws (fun v6 => qR 2 0 v6 ws (fun v7 => qA (gc G 1) v7 x6 ws (fun v8 => (qV 6 p0 ws ∧ F_X6_addShare G p0 x3 x4 (x4 + v5) v8 ws (fun ws => J107 x3 x5 x6 (x4 + v5) ws)))))))))))))))) → J17 x3 x4 x5 x6 ws) → (∀ (x3 : Int32) (x4 : Int32) (x5 : Int32) (x6 : Int32) (x7 : Int32) (ws : va_W), ((x7 ≤ x4 → J107 x3 x5 x6 x7 ws) ∧ (¬ x7 ≤ x4 → qR 6 13 p0 ws (fun v10 => qR 2 0 v10 ws (fun v11 => qA (gc G 1) v11 x6 ws (fun v12 => (qV 4 p1 ws ∧ F_X4_become G p1 x3 x4 x7 v12 ws (fun ws => J107 x3 (1 : Int32) x6 x7 ws))))))) → J78 x3 x4 x5 x6 x7 ws) → (∀ (x3 : Int32) (x5 : Int32) (x6 : Int32) (x7 : Int32) (ws : va_W), J17 x3 x7 x5 (x6 + (1 : Int32)) ws → J107 x3 x5 x6 x7 ws) → qI 4 0 p1 ws (fun v1 => qI 4 1 p1 ws (fun v2 => J17 v1 v2 (0 : Int32) (0 : Int32) ws))
set_option maxRecDepth 20000 in
set_option maxHeartbeats 4000000 in
theorem m_X6_leaveTo {G : Gx} (hst : (gl G).stackTraces = false) {p0 : Nat} {p1 : Nat} {p2 : Int32} {ws : va_W} {Q : va_W → Prop} (h : F_X6_leaveTo G p0 p1 p2 ws Q) : Mt G yX6_leaveTo wsX6_leaveTo rm_X6_leaveTo [.ref p0, .ref p1, .int p2] ws (QtV G Q) := by
  refine mk_Mt (cc := cX6_leaveTo) (nL := 8) (own := RX6) (ret := none) (lv0 := [some (.ref p0), some (.ref p1), some (.int p2), none, none, none, none, none]) hst (by decide) rfl rfl (Nat.le_of_ble_eq_true rfl) rfl ?_
  intro K C F
  replace h := h (fun x3 x4 x5 x6 ws => Ev K G 8 0 0 17 [some (.ref p0), some (.ref p1), some (.int p2), some (.int x3), some (.int x4), some (.int x5), some (.int x6), none] [] ws) (fun x3 x4 x5 x6 x7 ws => Ev K G 8 0 0 78 [some (.ref p0), some (.ref p1), some (.int p2), some (.int x3), some (.int x4), some (.int x5), some (.int x6), some (.int x7)] [] ws) (fun x3 x5 x6 x7 ws => Ev K G 8 0 0 107 [some (.ref p0), some (.ref p1), some (.int p2), some (.int x3), none, some (.int x5), some (.int x6), some (.int x7)] [] ws)
  replace h := h (by
    intro x3 x4 x5 x6 ws h
    show Ev K G 8 0 0 17 [some (.ref p0), some (.ref p1), some (.int p2), some (.int x3), some (.int x4), some (.int x5), some (.int x6), none] [] ws
    refine e_iload C (x := x6) rfl dX6_leaveTo_17 (pc' := 19) rfl ?_
    refine e_iload_n C (x := p2) rfl dX6_leaveTo_19 (pc' := 20) rfl ?_
    refine e_icmp_ge C (tg := 117) dX6_leaveTo_20 (by decide) (pc' := 23) rfl (fun hc => ?_) (fun hc => ?_)
    · replace h := h.1 hc
      exact r_void C F dX6_leaveTo_117 (by decide) (by decide) h
    · replace h := h.2 hc
      refine e_iload C (x := x6) rfl dX6_leaveTo_23 (pc' := 25) rfl ?_
      refine e_iconst C (v := (4 : Int32)) (by decide) dX6_leaveTo_25 (pc' := 26) rfl ?_
      refine e_icmp_ge C (tg := 117) dX6_leaveTo_26 (by decide) (pc' := 29) rfl (fun hc => ?_) (fun hc => ?_)
      · replace h := h.1 hc
        exact r_void C F dX6_leaveTo_117 (by decide) (by decide) h
      · replace h := h.2 hc
        refine e_iload C (x := x4) rfl dX6_leaveTo_29 (pc' := 31) rfl ?_
        refine e_aload_n C (x := p0) rfl dX6_leaveTo_31 (pc' := 32) rfl ?_
        refine f_getR C (ci := 6) (CN := RX6) (TT := TX6) (N := 16) 13 dX6_leaveTo_32 (pc' := 35) rfl in_X6_leaveTo_X6 rfl (by decide) fl_X6_leaveTo_52 h (fun v3 h => ?_)
        refine f_getR C (ci := 2) (CN := RX2) (TT := TX2) (N := 3) 1 dX6_leaveTo_35 (pc' := 38) rfl in_X6_leaveTo_X2 rfl (by decide) fl_X6_leaveTo_352 h (fun v4 h => ?_)
        refine e_iload C (x := x6) rfl dX6_leaveTo_38 (pc' := 40) rfl ?_
        refine f_iaload C dX6_leaveTo_40 (pc' := 41) rfl h (fun v5 h => ?_)
        refine e_iadd C dX6_leaveTo_41 (pc' := 42) rfl ?_
        refine e_istore C (by decide) dX6_leaveTo_42 (pc' := 44) rfl (lv' := [some (.ref p0), some (.ref p1), some (.int p2), some (.int x3), some (.int x4), some (.int x5), some (.int x6), some (.int (x4 + v5))]) rfl ?_
        refine e_iload C (x := (x4 + v5)) rfl dX6_leaveTo_44 (pc' := 46) rfl ?_
        refine e_iload C (x := x4) rfl dX6_leaveTo_46 (pc' := 48) rfl ?_
        refine e_icmp_le C (tg := 78) dX6_leaveTo_48 (by decide) (pc' := 51) rfl (fun hc => ?_) (fun hc => ?_)
        · replace h := h.1 hc
          exact h
        · replace h := h.2 hc
          refine e_iload C (x := x5) rfl dX6_leaveTo_51 (pc' := 53) rfl ?_
          refine e_if_eq C (tg := 78) dX6_leaveTo_53 (by decide) (pc' := 56) rfl (fun hc => ?_) (fun hc => ?_)
          · replace h := h.1 hc
            exact h
          · replace h := h.2 hc
            refine e_aload_n C (x := p0) rfl dX6_leaveTo_56 (pc' := 57) rfl ?_
            refine e_iload_n C (x := x3) rfl dX6_leaveTo_57 (pc' := 58) rfl ?_
            refine e_iload C (x := x4) rfl dX6_leaveTo_58 (pc' := 60) rfl ?_
            refine e_iload C (x := (x4 + v5)) rfl dX6_leaveTo_60 (pc' := 62) rfl ?_
            refine e_aload_n C (x := p0) rfl dX6_leaveTo_62 (pc' := 63) rfl ?_
            refine f_getR C (ci := 6) (CN := RX6) (TT := TX6) (N := 16) 13 dX6_leaveTo_63 (pc' := 66) rfl in_X6_leaveTo_X6 rfl (by decide) fl_X6_leaveTo_52 h (fun v6 h => ?_)
            refine f_getR C (ci := 2) (CN := RX2) (TT := TX2) (N := 3) 0 dX6_leaveTo_66 (pc' := 69) rfl in_X6_leaveTo_X2 rfl (by decide) fl_X6_leaveTo_354 h (fun v7 h => ?_)
            refine e_iload C (x := x6) rfl dX6_leaveTo_69 (pc' := 71) rfl ?_
            refine f_iaload C dX6_leaveTo_71 (pc' := 72) rfl h (fun v8 h => ?_)
            obtain ⟨hv, h⟩ := h
            refine e_callv (run_V (n := 4) C (m_X6_addShare hst h) gX6_leaveTo_X6_addShare rfl ⟨rfl, by decide, by decide, by decide +kernel⟩ ⟨by decide, by decide⟩ (ci := 6) rfl rfl hv rfl (Nat.le_of_ble_eq_true rfl) dX6_leaveTo_72 ⟨by decide, by decide⟩ (As := [.int x3, .int x4, .int (x4 + v5), .int v8]) rfl) (pc' := 75) rfl (cn' := 0) (sn' := 0) rfl rfl (fun ws h => ?_)
            refine e_goto C (tg := 107) dX6_leaveTo_75 (by decide) ?_
            refine e_mask [true, true, true, true, false, true, true, true] (lv' := [some (.ref p0), some (.ref p1), some (.int p2), some (.int x3), none, some (.int x5), some (.int x6), some (.int (x4 + v5))]) rfl ?_
            exact h)
  replace h := h (by
    intro x3 x4 x5 x6 x7 ws h
    show Ev K G 8 0 0 78 [some (.ref p0), some (.ref p1), some (.int p2), some (.int x3), some (.int x4), some (.int x5), some (.int x6), some (.int x7)] [] ws
    refine e_iload C (x := x7) rfl dX6_leaveTo_78 (pc' := 80) rfl ?_
    refine e_iload C (x := x4) rfl dX6_leaveTo_80 (pc' := 82) rfl ?_
    refine e_icmp_le C (tg := 107) dX6_leaveTo_82 (by decide) (pc' := 85) rfl (fun hc => ?_) (fun hc => ?_)
    · replace h := h.1 hc
      refine e_mask [true, true, true, true, false, true, true, true] (lv' := [some (.ref p0), some (.ref p1), some (.int p2), some (.int x3), none, some (.int x5), some (.int x6), some (.int x7)]) rfl ?_
      exact h
    · replace h := h.2 hc
      refine e_aload_n C (x := p1) rfl dX6_leaveTo_85 (pc' := 86) rfl ?_
      refine e_iload_n C (x := x3) rfl dX6_leaveTo_86 (pc' := 87) rfl ?_
      refine e_iload C (x := x4) rfl dX6_leaveTo_87 (pc' := 89) rfl ?_
      refine e_iload C (x := x7) rfl dX6_leaveTo_89 (pc' := 91) rfl ?_
      refine e_aload_n C (x := p0) rfl dX6_leaveTo_91 (pc' := 92) rfl ?_
      refine f_getR C (ci := 6) (CN := RX6) (TT := TX6) (N := 16) 13 dX6_leaveTo_92 (pc' := 95) rfl in_X6_leaveTo_X6 rfl (by decide) fl_X6_leaveTo_52 h (fun v10 h => ?_)
      refine f_getR C (ci := 2) (CN := RX2) (TT := TX2) (N := 3) 0 dX6_leaveTo_95 (pc' := 98) rfl in_X6_leaveTo_X2 rfl (by decide) fl_X6_leaveTo_354 h (fun v11 h => ?_)
      refine e_iload C (x := x6) rfl dX6_leaveTo_98 (pc' := 100) rfl ?_
      refine f_iaload C dX6_leaveTo_100 (pc' := 101) rfl h (fun v12 h => ?_)
      obtain ⟨hv, h⟩ := h
      refine e_callv (run_V (n := 4) C (m_X4_become hst h) gX6_leaveTo_X4_become rfl ⟨rfl, by decide, by decide, by decide +kernel⟩ ⟨by decide, by decide⟩ (ci := 4) rfl rfl hv rfl (Nat.le_of_ble_eq_true rfl) dX6_leaveTo_101 ⟨by decide, by decide⟩ (As := [.int x3, .int x4, .int x7, .int v12]) rfl) (pc' := 104) rfl (cn' := 0) (sn' := 0) rfl rfl (fun ws h => ?_)
      refine e_iconst C (v := (1 : Int32)) (by decide) dX6_leaveTo_104 (pc' := 105) rfl ?_
      refine e_istore C (by decide) dX6_leaveTo_105 (pc' := 107) rfl (lv' := [some (.ref p0), some (.ref p1), some (.int p2), some (.int x3), some (.int x4), some (.int (1 : Int32)), some (.int x6), some (.int x7)]) rfl ?_
      refine e_mask [true, true, true, true, false, true, true, true] (lv' := [some (.ref p0), some (.ref p1), some (.int p2), some (.int x3), none, some (.int (1 : Int32)), some (.int x6), some (.int x7)]) rfl ?_
      exact h)
  replace h := h (by
    intro x3 x5 x6 x7 ws h
    show Ev K G 8 0 0 107 [some (.ref p0), some (.ref p1), some (.int p2), some (.int x3), none, some (.int x5), some (.int x6), some (.int x7)] [] ws
    refine e_iload C (x := x7) rfl dX6_leaveTo_107 (pc' := 109) rfl ?_
    refine e_istore C (by decide) dX6_leaveTo_109 (pc' := 111) rfl (lv' := [some (.ref p0), some (.ref p1), some (.int p2), some (.int x3), some (.int x7), some (.int x5), some (.int x6), some (.int x7)]) rfl ?_
    refine e_iinc C dX6_leaveTo_111 (x := x6) (v := (x6 + (1 : Int32))) rfl rfl (by decide) (pc' := 114) rfl (lv' := [some (.ref p0), some (.ref p1), some (.int p2), some (.int x3), some (.int x7), some (.int x5), some (.int (x6 + (1 : Int32))), some (.int x7)]) rfl ?_
    refine e_goto C (tg := 17) dX6_leaveTo_114 (by decide) ?_
    refine e_mask [true, true, true, true, true, true, true, false] (lv' := [some (.ref p0), some (.ref p1), some (.int p2), some (.int x3), some (.int x7), some (.int x5), some (.int (x6 + (1 : Int32))), none]) rfl ?_
    exact h)
  refine e_aload_n C (x := p1) rfl dX6_leaveTo_0 (pc' := 1) rfl ?_
  refine f_getI C (ci := 4) (CN := RX4) (TT := TX4) (N := 7) 0 dX6_leaveTo_1 (pc' := 4) rfl in_X6_leaveTo_X4 rfl (by decide) fl_X6_leaveTo_183 h (fun v1 h => ?_)
  refine e_istore_n C (by decide) dX6_leaveTo_4 (pc' := 5) rfl (lv' := [some (.ref p0), some (.ref p1), some (.int p2), some (.int v1), none, none, none, none]) rfl ?_
  refine e_aload_n C (x := p1) rfl dX6_leaveTo_5 (pc' := 6) rfl ?_
  refine f_getI C (ci := 4) (CN := RX4) (TT := TX4) (N := 7) 1 dX6_leaveTo_6 (pc' := 9) rfl in_X6_leaveTo_X4 rfl (by decide) fl_X6_leaveTo_173 h (fun v2 h => ?_)
  refine e_istore C (by decide) dX6_leaveTo_9 (pc' := 11) rfl (lv' := [some (.ref p0), some (.ref p1), some (.int p2), some (.int v1), some (.int v2), none, none, none]) rfl ?_
  refine e_iconst C (v := (0 : Int32)) (by decide) dX6_leaveTo_11 (pc' := 12) rfl ?_
  refine e_istore C (by decide) dX6_leaveTo_12 (pc' := 14) rfl (lv' := [some (.ref p0), some (.ref p1), some (.int p2), some (.int v1), some (.int v2), some (.int (0 : Int32)), none, none]) rfl ?_
  refine e_iconst C (v := (0 : Int32)) (by decide) dX6_leaveTo_14 (pc' := 15) rfl ?_
  refine e_istore C (by decide) dX6_leaveTo_15 (pc' := 17) rfl (lv' := [some (.ref p0), some (.ref p1), some (.int p2), some (.int v1), some (.int v2), some (.int (0 : Int32)), some (.int (0 : Int32)), none]) rfl ?_
  exact h
abbrev rm_X6_heirs : Room := { frames := 8, cells := 3, slots := 18, locals := 125 }
set_option maxRecDepth 20000 in
theorem in_X6_heirs_X6 : ∀ w ∈ wsX60, w ∈ wsX6_heirs := by decide +kernel
set_option maxRecDepth 20000 in
theorem fl_X6_heirs_52 : Cond.fieldLink RX6 52 (TX6 13).1 (TX6 13).2.1 (TX6 13).2.2.1 ∈ wsX6_heirs := by decide +kernel
set_option maxRecDepth 20000 in
theorem w_X6_heirs_k79 : Cond.classLink RX6 79 "java/lang/IllegalArgumentException" ∈ wsX6_heirs := by decide +kernel
set_option maxRecDepth 20000 in
theorem w_X6_heirs_i79 : Cond.initialized "java/lang/IllegalArgumentException" ∈ wsX6_heirs := by decide +kernel
set_option maxRecDepth 20000 in
theorem gw_X6_heirs_83 : ∀ w ∈ (vx_atS RX6 83 "java/lang/IllegalArgumentException" xnms).filter goodWord, w ∈ wsX6_heirs := by decide +kernel
set_option maxRecDepth 20000 in
theorem in_X6_heirs_X4 : ∀ w ∈ wsX40, w ∈ wsX6_heirs := by decide +kernel
set_option maxRecDepth 20000 in
theorem fl_X6_heirs_176 : Cond.fieldLink RX6 176 (TX4 2).1 (TX4 2).2.1 (TX4 2).2.2.1 ∈ wsX6_heirs := by decide +kernel
set_option maxRecDepth 20000 in
theorem fl_X6_heirs_173 : Cond.fieldLink RX6 173 (TX4 1).1 (TX4 1).2.1 (TX4 1).2.2.1 ∈ wsX6_heirs := by decide +kernel
set_option maxRecDepth 20000 in
theorem fl_X6_heirs_123 : Cond.fieldLink RX6 123 (TX6 11).1 (TX6 11).2.1 (TX6 11).2.2.1 ∈ wsX6_heirs := by decide +kernel
set_option maxRecDepth 20000 in
theorem w_X6_heirs_k89 : Cond.classLink RX6 89 "java/lang/UnsupportedOperationException" ∈ wsX6_heirs := by decide +kernel
set_option maxRecDepth 20000 in
theorem w_X6_heirs_i89 : Cond.initialized "java/lang/UnsupportedOperationException" ∈ wsX6_heirs := by decide +kernel
set_option maxRecDepth 20000 in
theorem gw_X6_heirs_93 : ∀ w ∈ (vx_atS RX6 93 "java/lang/UnsupportedOperationException" xnms).filter goodWord, w ∈ wsX6_heirs := by decide +kernel
def F_X6_heirs (G : Gx) (p0 : Nat) (p1 : Int32) (p2 : Int32) (p3 : Int32) (p4 : Int32) (p5 : Int32) (p6 : Int32) (p7 : Int32) (p8 : Int32) (p9 : Int32) (p10 : Int32) (ws : va_W) (Q : Int32 → va_W → Prop) (X : String → va_W → Prop) : Prop := (qV 6 p0 ws ∧ F_X6_unletAt G p0 p1 ws (fun v1 ws => qR 6 13 p0 ws (fun v2 => (qV 2 v2 ws ∧ F_X2_name G v2 (0 : Int32) p3 p4 ws (fun ws => qR 6 13 p0 ws (fun v4 => (qV 2 v4 ws ∧ F_X2_name G v4 (1 : Int32) p5 p6 ws (fun ws => qR 6 13 p0 ws (fun v6 => (qV 2 v6 ws ∧ F_X2_name G v6 (2 : Int32) p7 p8 ws (fun ws => qR 6 13 p0 ws (fun v8 => (qV 2 v8 ws ∧ F_X2_name G v8 (3 : Int32) p9 p10 ws (fun ws => (F_X6_isWithin G p2 (2 : Int32) (4 : Int32) ws (fun v10 ws => ((v10 = 0 → X "java/lang/IllegalArgumentException" ws) ∧ (¬ v10 = 0 → qR 6 13 p0 ws (fun v11 => (qV 2 v11 ws ∧ F_X2_firstStand G v11 p2 ws (fun v12 ws => ((¬ v12 = 0 → qR 6 13 p0 ws (fun v13 => qI 4 2 v1 ws (fun v14 => qI 4 1 v1 ws (fun v15 => (qV 2 v13 ws ∧ F_X2_partLength G v13 (v14 - v15) p2 ws (fun v16 ws => qI 6 11 p0 ws (fun v17 => ((((v17 + v16) - (1 : Int32)) ≤ (60 : Int32) → (qV 6 p0 ws ∧ F_X6_leaveTo G p0 v1 p2 ws (fun ws => Q v16 ws))) ∧ (¬ ((v17 + v16) - (1 : Int32)) ≤ (60 : Int32) → X "java/lang/UnsupportedOperationException" ws))))))))) ∧ (v12 = 0 → X "java/lang/IllegalArgumentException" ws)))))))))))))))))))))) X)
set_option maxRecDepth 20000 in
set_option maxHeartbeats 4000000 in
theorem m_X6_heirs {G : Gx} (hst : (gl G).stackTraces = false) {p0 : Nat} {p1 : Int32} {p2 : Int32} {p3 : Int32} {p4 : Int32} {p5 : Int32} {p6 : Int32} {p7 : Int32} {p8 : Int32} {p9 : Int32} {p10 : Int32} {ws : va_W} {Q : Int32 → va_W → Prop} {X : String → va_W → Prop} (h : F_X6_heirs G p0 p1 p2 p3 p4 p5 p6 p7 p8 p9 p10 ws Q X) : Xt G yX6_heirs wsX6_heirs rm_X6_heirs [.ref p0, .int p1, .int p2, .int p3, .int p4, .int p5, .int p6, .int p7, .int p8, .int p9, .int p10] ws (QtI G Q) X := by
  refine mk_Xt (cc := cX6_heirs) (nL := 13) (own := RX6) (ret := (some .int)) (lv0 := [some (.ref p0), some (.int p1), some (.int p2), some (.int p3), some (.int p4), some (.int p5), some (.int p6), some (.int p7), some (.int p8), some (.int p9), some (.int p10), none, none]) hst (by decide) rfl rfl (Nat.le_of_ble_eq_true rfl) rfl ?_
  intro K C F
  refine e_aload_n C (x := p0) rfl dX6_heirs_0 (pc' := 1) rfl ?_
  refine e_iload_n C (x := p1) rfl dX6_heirs_1 (pc' := 2) rfl ?_
  obtain ⟨hv, h⟩ := h
  refine e_xcallr (run_XV (n := 1) C (m_X6_unletAt hst h) gX6_heirs_X6_unletAt rfl ⟨rfl, by decide, by decide, by decide +kernel⟩ ⟨by decide, by decide⟩ (ci := 6) rfl rfl hv rfl (Nat.le_of_ble_eq_true rfl) dX6_heirs_2 ⟨by decide, by decide⟩ (As := [.int p1]) rfl) (pc' := 5) rfl (cn' := 2) (sn' := 12) rfl rfl (fun E u hx => x_out C F (by decide) (by decide) hx) (fun v1 ws h => ?_)
  refine e_astore C (by decide) dX6_heirs_5 (pc' := 7) rfl (lv' := [some (.ref p0), some (.int p1), some (.int p2), some (.int p3), some (.int p4), some (.int p5), some (.int p6), some (.int p7), some (.int p8), some (.int p9), some (.int p10), some (.ref v1), none]) rfl ?_
  refine e_aload_n C (x := p0) rfl dX6_heirs_7 (pc' := 8) rfl ?_
  refine f_getR C (ci := 6) (CN := RX6) (TT := TX6) (N := 16) 13 dX6_heirs_8 (pc' := 11) rfl in_X6_heirs_X6 rfl (by decide) fl_X6_heirs_52 h (fun v2 h => ?_)
  refine e_iconst C (v := (0 : Int32)) (by decide) dX6_heirs_11 (pc' := 12) rfl ?_
  refine e_iload_n C (x := p3) rfl dX6_heirs_12 (pc' := 13) rfl ?_
  refine e_iload C (x := p4) rfl dX6_heirs_13 (pc' := 15) rfl ?_
  obtain ⟨hv, h⟩ := h
  refine e_callv (run_V (n := 3) C (m_X2_name hst h) gX6_heirs_X2_name rfl ⟨rfl, by decide, by decide, by decide +kernel⟩ ⟨by decide, by decide⟩ (ci := 2) rfl rfl hv rfl (Nat.le_of_ble_eq_true rfl) dX6_heirs_15 ⟨by decide, by decide⟩ (As := [.int (0 : Int32), .int p3, .int p4]) rfl) (pc' := 18) rfl (cn' := 2) (sn' := 12) rfl rfl (fun ws h => ?_)
  refine e_aload_n C (x := p0) rfl dX6_heirs_18 (pc' := 19) rfl ?_
  refine f_getR C (ci := 6) (CN := RX6) (TT := TX6) (N := 16) 13 dX6_heirs_19 (pc' := 22) rfl in_X6_heirs_X6 rfl (by decide) fl_X6_heirs_52 h (fun v4 h => ?_)
  refine e_iconst C (v := (1 : Int32)) (by decide) dX6_heirs_22 (pc' := 23) rfl ?_
  refine e_iload C (x := p5) rfl dX6_heirs_23 (pc' := 25) rfl ?_
  refine e_iload C (x := p6) rfl dX6_heirs_25 (pc' := 27) rfl ?_
  obtain ⟨hv, h⟩ := h
  refine e_callv (run_V (n := 3) C (m_X2_name hst h) gX6_heirs_X2_name rfl ⟨rfl, by decide, by decide, by decide +kernel⟩ ⟨by decide, by decide⟩ (ci := 2) rfl rfl hv rfl (Nat.le_of_ble_eq_true rfl) dX6_heirs_27 ⟨by decide, by decide⟩ (As := [.int (1 : Int32), .int p5, .int p6]) rfl) (pc' := 30) rfl (cn' := 2) (sn' := 12) rfl rfl (fun ws h => ?_)
  refine e_aload_n C (x := p0) rfl dX6_heirs_30 (pc' := 31) rfl ?_
  refine f_getR C (ci := 6) (CN := RX6) (TT := TX6) (N := 16) 13 dX6_heirs_31 (pc' := 34) rfl in_X6_heirs_X6 rfl (by decide) fl_X6_heirs_52 h (fun v6 h => ?_)
  refine e_iconst C (v := (2 : Int32)) (by decide) dX6_heirs_34 (pc' := 35) rfl ?_
  refine e_iload C (x := p7) rfl dX6_heirs_35 (pc' := 37) rfl ?_
  refine e_iload C (x := p8) rfl dX6_heirs_37 (pc' := 39) rfl ?_
  obtain ⟨hv, h⟩ := h
  refine e_callv (run_V (n := 3) C (m_X2_name hst h) gX6_heirs_X2_name rfl ⟨rfl, by decide, by decide, by decide +kernel⟩ ⟨by decide, by decide⟩ (ci := 2) rfl rfl hv rfl (Nat.le_of_ble_eq_true rfl) dX6_heirs_39 ⟨by decide, by decide⟩ (As := [.int (2 : Int32), .int p7, .int p8]) rfl) (pc' := 42) rfl (cn' := 2) (sn' := 12) rfl rfl (fun ws h => ?_)
  refine e_aload_n C (x := p0) rfl dX6_heirs_42 (pc' := 43) rfl ?_
  refine f_getR C (ci := 6) (CN := RX6) (TT := TX6) (N := 16) 13 dX6_heirs_43 (pc' := 46) rfl in_X6_heirs_X6 rfl (by decide) fl_X6_heirs_52 h (fun v8 h => ?_)
  refine e_iconst C (v := (3 : Int32)) (by decide) dX6_heirs_46 (pc' := 47) rfl ?_
  refine e_iload C (x := p9) rfl dX6_heirs_47 (pc' := 49) rfl ?_
  refine e_iload C (x := p10) rfl dX6_heirs_49 (pc' := 51) rfl ?_
  obtain ⟨hv, h⟩ := h
  refine e_callv (run_V (n := 3) C (m_X2_name hst h) gX6_heirs_X2_name rfl ⟨rfl, by decide, by decide, by decide +kernel⟩ ⟨by decide, by decide⟩ (ci := 2) rfl rfl hv rfl (Nat.le_of_ble_eq_true rfl) dX6_heirs_51 ⟨by decide, by decide⟩ (As := [.int (3 : Int32), .int p9, .int p10]) rfl) (pc' := 54) rfl (cn' := 2) (sn' := 12) rfl rfl (fun ws h => ?_)
  refine e_iload_n C (x := p2) rfl dX6_heirs_54 (pc' := 55) rfl ?_
  refine e_iconst C (v := (2 : Int32)) (by decide) dX6_heirs_55 (pc' := 56) rfl ?_
  refine e_iconst C (v := (4 : Int32)) (by decide) dX6_heirs_56 (pc' := 57) rfl ?_
  refine e_calli (run_S (n := 3) C (m_X6_isWithin hst h) gX6_heirs_X6_isWithin rfl ⟨rfl, by decide, by decide, by decide +kernel⟩ ⟨by decide, by decide⟩ rfl (Nat.le_of_ble_eq_true rfl) dX6_heirs_57 ⟨by decide, by decide⟩ (As := [.int p2, .int (2 : Int32), .int (4 : Int32)]) rfl) (pc' := 60) rfl (cn' := 2) (sn' := 12) rfl rfl (fun v10 ws h => ?_)
  refine e_if_eq C (tg := 74) dX6_heirs_60 (by decide) (pc' := 63) rfl (fun hc => ?_) (fun hc => ?_)
  · replace h := h.1 hc
    exact x_throwS C F (E := "java/lang/IllegalArgumentException") (tx := "many, an owner or a part is none") (by decide) (by decide) w_X6_heirs_k79 w_X6_heirs_i79 (by decide) gw_X6_heirs_83 xb_X6_83 xo_X6_83_79 dX6_heirs_74 dX6_heirs_77 dX6_heirs_78 dX6_heirs_80 dX6_heirs_83 (by decide) (by decide) (by decide) (by decide) h
  · replace h := h.2 hc
    refine e_aload_n C (x := p0) rfl dX6_heirs_63 (pc' := 64) rfl ?_
    refine f_getR C (ci := 6) (CN := RX6) (TT := TX6) (N := 16) 13 dX6_heirs_64 (pc' := 67) rfl in_X6_heirs_X6 rfl (by decide) fl_X6_heirs_52 h (fun v11 h => ?_)
    refine e_iload_n C (x := p2) rfl dX6_heirs_67 (pc' := 68) rfl ?_
    obtain ⟨hv, h⟩ := h
    refine e_calli (run_V (n := 1) C (m_X2_firstStand hst h) gX6_heirs_X2_firstStand rfl ⟨rfl, by decide, by decide, by decide +kernel⟩ ⟨by decide, by decide⟩ (ci := 2) rfl rfl hv rfl (Nat.le_of_ble_eq_true rfl) dX6_heirs_68 ⟨by decide, by decide⟩ (As := [.int p2]) rfl) (pc' := 71) rfl (cn' := 2) (sn' := 12) rfl rfl (fun v12 ws h => ?_)
    refine e_if_ne C (tg := 84) dX6_heirs_71 (by decide) (pc' := 74) rfl (fun hc => ?_) (fun hc => ?_)
    · replace h := h.1 hc
      refine e_aload_n C (x := p0) rfl dX6_heirs_84 (pc' := 85) rfl ?_
      refine f_getR C (ci := 6) (CN := RX6) (TT := TX6) (N := 16) 13 dX6_heirs_85 (pc' := 88) rfl in_X6_heirs_X6 rfl (by decide) fl_X6_heirs_52 h (fun v13 h => ?_)
      refine e_aload C (x := v1) rfl dX6_heirs_88 (pc' := 90) rfl ?_
      refine f_getI C (ci := 4) (CN := RX4) (TT := TX4) (N := 7) 2 dX6_heirs_90 (pc' := 93) rfl in_X6_heirs_X4 rfl (by decide) fl_X6_heirs_176 h (fun v14 h => ?_)
      refine e_aload C (x := v1) rfl dX6_heirs_93 (pc' := 95) rfl ?_
      refine f_getI C (ci := 4) (CN := RX4) (TT := TX4) (N := 7) 1 dX6_heirs_95 (pc' := 98) rfl in_X6_heirs_X4 rfl (by decide) fl_X6_heirs_173 h (fun v15 h => ?_)
      refine e_isub C dX6_heirs_98 (pc' := 99) rfl ?_
      refine e_iload_n C (x := p2) rfl dX6_heirs_99 (pc' := 100) rfl ?_
      obtain ⟨hv, h⟩ := h
      refine e_calli (run_V (n := 2) C (m_X2_partLength hst h) gX6_heirs_X2_partLength rfl ⟨rfl, by decide, by decide, by decide +kernel⟩ ⟨by decide, by decide⟩ (ci := 2) rfl rfl hv rfl (Nat.le_of_ble_eq_true rfl) dX6_heirs_100 ⟨by decide, by decide⟩ (As := [.int (v14 - v15), .int p2]) rfl) (pc' := 103) rfl (cn' := 2) (sn' := 12) rfl rfl (fun v16 ws h => ?_)
      refine e_istore C (by decide) dX6_heirs_103 (pc' := 105) rfl (lv' := [some (.ref p0), some (.int p1), some (.int p2), some (.int p3), some (.int p4), some (.int p5), some (.int p6), some (.int p7), some (.int p8), some (.int p9), some (.int p10), some (.ref v1), some (.int v16)]) rfl ?_
      refine e_aload_n C (x := p0) rfl dX6_heirs_105 (pc' := 106) rfl ?_
      refine f_getI C (ci := 6) (CN := RX6) (TT := TX6) (N := 16) 11 dX6_heirs_106 (pc' := 109) rfl in_X6_heirs_X6 rfl (by decide) fl_X6_heirs_123 h (fun v17 h => ?_)
      refine e_iload C (x := v16) rfl dX6_heirs_109 (pc' := 111) rfl ?_
      refine e_iadd C dX6_heirs_111 (pc' := 112) rfl ?_
      refine e_iconst C (v := (1 : Int32)) (by decide) dX6_heirs_112 (pc' := 113) rfl ?_
      refine e_isub C dX6_heirs_113 (pc' := 114) rfl ?_
      refine e_bipush C (v := (60 : Int32)) (by decide) dX6_heirs_114 (pc' := 116) rfl ?_
      refine e_icmp_le C (tg := 129) dX6_heirs_116 (by decide) (pc' := 119) rfl (fun hc => ?_) (fun hc => ?_)
      · replace h := h.1 hc
        refine e_aload_n C (x := p0) rfl dX6_heirs_129 (pc' := 130) rfl ?_
        refine e_aload C (x := v1) rfl dX6_heirs_130 (pc' := 132) rfl ?_
        refine e_iload_n C (x := p2) rfl dX6_heirs_132 (pc' := 133) rfl ?_
        obtain ⟨hv, h⟩ := h
        refine e_callv (run_V (n := 2) C (m_X6_leaveTo hst h) gX6_heirs_X6_leaveTo rfl ⟨rfl, by decide, by decide, by decide +kernel⟩ ⟨by decide, by decide⟩ (ci := 6) rfl rfl hv rfl (Nat.le_of_ble_eq_true rfl) dX6_heirs_133 ⟨by decide, by decide⟩ (As := [.ref v1, .int p2]) rfl) (pc' := 136) rfl (cn' := 2) (sn' := 12) rfl rfl (fun ws h => ?_)
        refine e_iload C (x := v16) rfl dX6_heirs_136 (pc' := 138) rfl ?_
        exact x_int C F dX6_heirs_138 (by decide) (by decide) h
      · replace h := h.2 hc
        exact x_throwS C F (E := "java/lang/UnsupportedOperationException") (tx := "more than 60 shares") (by decide) (by decide) w_X6_heirs_k89 w_X6_heirs_i89 (by decide) gw_X6_heirs_93 xb_X6_93 xo_X6_93_89 dX6_heirs_119 dX6_heirs_122 dX6_heirs_123 dX6_heirs_125 dX6_heirs_128 (by decide) (by decide) (by decide) (by decide) h
    · replace h := h.2 hc
      exact x_throwS C F (E := "java/lang/IllegalArgumentException") (tx := "many, an owner or a part is none") (by decide) (by decide) w_X6_heirs_k79 w_X6_heirs_i79 (by decide) gw_X6_heirs_83 xb_X6_83 xo_X6_83_79 dX6_heirs_74 dX6_heirs_77 dX6_heirs_78 dX6_heirs_80 dX6_heirs_83 (by decide) (by decide) (by decide) (by decide) h
abbrev rm_X6_let : Room := { frames := 8, cells := 3, slots := 18, locals := 125 }
set_option maxRecDepth 20000 in
theorem w_X6_let_k79 : Cond.classLink RX6 79 "java/lang/IllegalArgumentException" ∈ wsX6_let := by decide +kernel
set_option maxRecDepth 20000 in
theorem w_X6_let_i79 : Cond.initialized "java/lang/IllegalArgumentException" ∈ wsX6_let := by decide +kernel
set_option maxRecDepth 20000 in
theorem gw_X6_let_83 : ∀ w ∈ (vx_atS RX6 83 "java/lang/IllegalArgumentException" xnms).filter goodWord, w ∈ wsX6_let := by decide +kernel
set_option maxRecDepth 20000 in
theorem in_X6_let_X4 : ∀ w ∈ wsX40, w ∈ wsX6_let := by decide +kernel
set_option maxRecDepth 20000 in
theorem fl_X6_let_186 : Cond.fieldLink RX6 186 (TX4 3).1 (TX4 3).2.1 (TX4 3).2.2.1 ∈ wsX6_let := by decide +kernel
set_option maxRecDepth 20000 in
theorem in_X6_let_X6 : ∀ w ∈ wsX60, w ∈ wsX6_let := by decide +kernel
set_option maxRecDepth 20000 in
theorem fl_X6_let_208 : Cond.fieldLink RX6 208 (TX6 12).1 (TX6 12).2.1 (TX6 12).2.2.1 ∈ wsX6_let := by decide +kernel
set_option maxRecDepth 20000 in
theorem w_X6_let_c211 : Cond.constant RX6 211 (100000000 : Int32) ∈ wsX6_let := by decide +kernel
set_option maxRecDepth 20000 in
theorem fl_X6_let_214 : Cond.fieldLink RX6 214 (TX4 4).1 (TX4 4).2.1 (TX4 4).2.2.1 ∈ wsX6_let := by decide +kernel
set_option maxRecDepth 20000 in
theorem fl_X6_let_217 : Cond.fieldLink RX6 217 (TX4 5).1 (TX4 5).2.1 (TX4 5).2.2.1 ∈ wsX6_let := by decide +kernel
set_option maxRecDepth 20000 in
theorem fl_X6_let_220 : Cond.fieldLink RX6 220 (TX4 6).1 (TX4 6).2.1 (TX4 6).2.2.1 ∈ wsX6_let := by decide +kernel
def F_X6_let (G : Gx) (p0 : Nat) (p1 : Int32) (p2 : Int32) (p3 : Int32) (p4 : Int32) (ws : va_W) (Q : va_W → Prop) (X : String → va_W → Prop) : Prop := (qV 6 p0 ws ∧ F_X6_unletAt G p0 p1 ws (fun v1 ws => (F_X6_isOwner G p2 ws (fun v2 ws => ((v2 = 0 → X "java/lang/IllegalArgumentException" ws) ∧ (¬ v2 = 0 → qI 4 3 v1 ws (fun v3 => ((p2 = v3 → X "java/lang/IllegalArgumentException" ws) ∧ (¬ p2 = v3 → qI 6 12 p0 ws (fun v4 => ((p3 < v4 → X "java/lang/IllegalArgumentException" ws) ∧ (¬ p3 < v4 → ((p4 ≤ p3 → X "java/lang/IllegalArgumentException" ws) ∧ (¬ p4 ≤ p3 → ((p4 ≤ (100000000 : Int32) → qP 4 4 v1 (.int p2) ws (fun ws => qP 4 5 v1 (.int p3) ws (fun ws => qP 4 6 v1 (.int p4) ws (fun ws => Q ws)))) ∧ (¬ p4 ≤ (100000000 : Int32) → X "java/lang/IllegalArgumentException" ws))))))))))))))) X)
set_option maxRecDepth 20000 in
set_option maxHeartbeats 4000000 in
theorem m_X6_let {G : Gx} (hst : (gl G).stackTraces = false) {p0 : Nat} {p1 : Int32} {p2 : Int32} {p3 : Int32} {p4 : Int32} {ws : va_W} {Q : va_W → Prop} {X : String → va_W → Prop} (h : F_X6_let G p0 p1 p2 p3 p4 ws Q X) : Xt G yX6_let wsX6_let rm_X6_let [.ref p0, .int p1, .int p2, .int p3, .int p4] ws (QtV G Q) X := by
  refine mk_Xt (cc := cX6_let) (nL := 6) (own := RX6) (ret := none) (lv0 := [some (.ref p0), some (.int p1), some (.int p2), some (.int p3), some (.int p4), none]) hst (by decide) rfl rfl (Nat.le_of_ble_eq_true rfl) rfl ?_
  intro K C F
  refine e_aload_n C (x := p0) rfl dX6_let_0 (pc' := 1) rfl ?_
  refine e_iload_n C (x := p1) rfl dX6_let_1 (pc' := 2) rfl ?_
  obtain ⟨hv, h⟩ := h
  refine e_xcallr (run_XV (n := 1) C (m_X6_unletAt hst h) gX6_let_X6_unletAt rfl ⟨rfl, by decide, by decide, by decide +kernel⟩ ⟨by decide, by decide⟩ (ci := 6) rfl rfl hv rfl (Nat.le_of_ble_eq_true rfl) dX6_let_2 ⟨by decide, by decide⟩ (As := [.int p1]) rfl) (pc' := 5) rfl (cn' := 2) (sn' := 12) rfl rfl (fun E u hx => x_out C F (by decide) (by decide) hx) (fun v1 ws h => ?_)
  refine e_astore C (by decide) dX6_let_5 (pc' := 7) rfl (lv' := [some (.ref p0), some (.int p1), some (.int p2), some (.int p3), some (.int p4), some (.ref v1)]) rfl ?_
  refine e_iload_n C (x := p2) rfl dX6_let_7 (pc' := 8) rfl ?_
  refine e_calli (run_S (n := 1) C (m_X6_isOwner hst h) gX6_let_X6_isOwner rfl ⟨rfl, by decide, by decide, by decide +kernel⟩ ⟨by decide, by decide⟩ rfl (Nat.le_of_ble_eq_true rfl) dX6_let_8 ⟨by decide, by decide⟩ (As := [.int p2]) rfl) (pc' := 11) rfl (cn' := 2) (sn' := 12) rfl rfl (fun v2 ws h => ?_)
  refine e_if_eq C (tg := 44) dX6_let_11 (by decide) (pc' := 14) rfl (fun hc => ?_) (fun hc => ?_)
  · replace h := h.1 hc
    exact x_throwS C F (E := "java/lang/IllegalArgumentException") (tx := "the other one or the time is none") (by decide) (by decide) w_X6_let_k79 w_X6_let_i79 (by decide) gw_X6_let_83 xb_X6_83 xo_X6_83_79 dX6_let_44 dX6_let_47 dX6_let_48 dX6_let_50 dX6_let_53 (by decide) (by decide) (by decide) (by decide) h
  · replace h := h.2 hc
    refine e_iload_n C (x := p2) rfl dX6_let_14 (pc' := 15) rfl ?_
    refine e_aload C (x := v1) rfl dX6_let_15 (pc' := 17) rfl ?_
    refine f_getI C (ci := 4) (CN := RX4) (TT := TX4) (N := 7) 3 dX6_let_17 (pc' := 20) rfl in_X6_let_X4 rfl (by decide) fl_X6_let_186 h (fun v3 h => ?_)
    refine e_icmp_eq C (tg := 44) dX6_let_20 (by decide) (pc' := 23) rfl (fun hc => ?_) (fun hc => ?_)
    · replace h := h.1 hc
      exact x_throwS C F (E := "java/lang/IllegalArgumentException") (tx := "the other one or the time is none") (by decide) (by decide) w_X6_let_k79 w_X6_let_i79 (by decide) gw_X6_let_83 xb_X6_83 xo_X6_83_79 dX6_let_44 dX6_let_47 dX6_let_48 dX6_let_50 dX6_let_53 (by decide) (by decide) (by decide) (by decide) h
    · replace h := h.2 hc
      refine e_iload_n C (x := p3) rfl dX6_let_23 (pc' := 24) rfl ?_
      refine e_aload_n C (x := p0) rfl dX6_let_24 (pc' := 25) rfl ?_
      refine f_getI C (ci := 6) (CN := RX6) (TT := TX6) (N := 16) 12 dX6_let_25 (pc' := 28) rfl in_X6_let_X6 rfl (by decide) fl_X6_let_208 h (fun v4 h => ?_)
      refine e_icmp_lt C (tg := 44) dX6_let_28 (by decide) (pc' := 31) rfl (fun hc => ?_) (fun hc => ?_)
      · replace h := h.1 hc
        exact x_throwS C F (E := "java/lang/IllegalArgumentException") (tx := "the other one or the time is none") (by decide) (by decide) w_X6_let_k79 w_X6_let_i79 (by decide) gw_X6_let_83 xb_X6_83 xo_X6_83_79 dX6_let_44 dX6_let_47 dX6_let_48 dX6_let_50 dX6_let_53 (by decide) (by decide) (by decide) (by decide) h
      · replace h := h.2 hc
        refine e_iload_n C (x := p3) rfl dX6_let_31 (pc' := 32) rfl ?_
        refine e_iload C (x := p4) rfl dX6_let_32 (pc' := 34) rfl ?_
        refine e_icmp_ge C (tg := 44) dX6_let_34 (by decide) (pc' := 37) rfl (fun hc => ?_) (fun hc => ?_)
        · replace h := h.1 hc
          exact x_throwS C F (E := "java/lang/IllegalArgumentException") (tx := "the other one or the time is none") (by decide) (by decide) w_X6_let_k79 w_X6_let_i79 (by decide) gw_X6_let_83 xb_X6_83 xo_X6_83_79 dX6_let_44 dX6_let_47 dX6_let_48 dX6_let_50 dX6_let_53 (by decide) (by decide) (by decide) (by decide) h
        · replace h := h.2 hc
          refine e_iload C (x := p4) rfl dX6_let_37 (pc' := 39) rfl ?_
          refine e_ldc C (v := (100000000 : Int32)) w_X6_let_c211 dX6_let_39 (pc' := 41) rfl ?_
          refine e_icmp_le C (tg := 54) dX6_let_41 (by decide) (pc' := 44) rfl (fun hc => ?_) (fun hc => ?_)
          · replace h := h.1 hc
            refine e_aload C (x := v1) rfl dX6_let_54 (pc' := 56) rfl ?_
            refine e_iload_n C (x := p2) rfl dX6_let_56 (pc' := 57) rfl ?_
            refine f_putI C (ci := 4) (CN := RX4) (TT := TX4) (N := 7) 4 tyX4 dX6_let_57 (pc' := 60) rfl in_X6_let_X4 tyX4_ok nmX4 rfl (by decide) fl_X6_let_214 rfl (by decide +kernel) h (fun ws h => ?_)
            refine e_aload C (x := v1) rfl dX6_let_60 (pc' := 62) rfl ?_
            refine e_iload_n C (x := p3) rfl dX6_let_62 (pc' := 63) rfl ?_
            refine f_putI C (ci := 4) (CN := RX4) (TT := TX4) (N := 7) 5 tyX4 dX6_let_63 (pc' := 66) rfl in_X6_let_X4 tyX4_ok nmX4 rfl (by decide) fl_X6_let_217 rfl (by decide +kernel) h (fun ws h => ?_)
            refine e_aload C (x := v1) rfl dX6_let_66 (pc' := 68) rfl ?_
            refine e_iload C (x := p4) rfl dX6_let_68 (pc' := 70) rfl ?_
            refine f_putI C (ci := 4) (CN := RX4) (TT := TX4) (N := 7) 6 tyX4 dX6_let_70 (pc' := 73) rfl in_X6_let_X4 tyX4_ok nmX4 rfl (by decide) fl_X6_let_220 rfl (by decide +kernel) h (fun ws h => ?_)
            exact x_void C F dX6_let_73 (by decide) (by decide) h
          · replace h := h.2 hc
            exact x_throwS C F (E := "java/lang/IllegalArgumentException") (tx := "the other one or the time is none") (by decide) (by decide) w_X6_let_k79 w_X6_let_i79 (by decide) gw_X6_let_83 xb_X6_83 xo_X6_83_79 dX6_let_44 dX6_let_47 dX6_let_48 dX6_let_50 dX6_let_53 (by decide) (by decide) (by decide) (by decide) h
abbrev rm_X6_minutes : Room := { frames := 6, cells := 1, slots := 6, locals := 82 }
set_option maxRecDepth 20000 in
theorem w_X6_minutes_c223 : Cond.constant RX6 223 (100000 : Int32) ∈ wsX6_minutes := by decide +kernel
set_option maxRecDepth 20000 in
theorem in_X6_minutes_X6 : ∀ w ∈ wsX60, w ∈ wsX6_minutes := by decide +kernel
set_option maxRecDepth 20000 in
theorem fl_X6_minutes_208 : Cond.fieldLink RX6 208 (TX6 12).1 (TX6 12).2.1 (TX6 12).2.2.1 ∈ wsX6_minutes := by decide +kernel
set_option maxRecDepth 20000 in
theorem w_X6_minutes_k79 : Cond.classLink RX6 79 "java/lang/IllegalArgumentException" ∈ wsX6_minutes := by decide +kernel
set_option maxRecDepth 20000 in
theorem w_X6_minutes_i79 : Cond.initialized "java/lang/IllegalArgumentException" ∈ wsX6_minutes := by decide +kernel
set_option maxRecDepth 20000 in
theorem gw_X6_minutes_83 : ∀ w ∈ (vx_atS RX6 83 "java/lang/IllegalArgumentException" xnms).filter goodWord, w ∈ wsX6_minutes := by decide +kernel
def F_X6_minutes (G : Gx) (p0 : Nat) (p1 : Int32) (ws : va_W) (Q : Int32 → va_W → Prop) (X : String → va_W → Prop) : Prop := (F_X6_isWithin G p1 (0 : Int32) (100000 : Int32) ws (fun v1 ws => ((¬ v1 = 0 → qI 6 12 p0 ws (fun v2 => qP 6 12 p0 (.int (v2 + p1)) ws (fun ws => qI 6 12 p0 ws (fun v3 => Q v3 ws)))) ∧ (v1 = 0 → X "java/lang/IllegalArgumentException" ws))))
set_option maxRecDepth 20000 in
set_option maxHeartbeats 4000000 in
theorem m_X6_minutes {G : Gx} (hst : (gl G).stackTraces = false) {p0 : Nat} {p1 : Int32} {ws : va_W} {Q : Int32 → va_W → Prop} {X : String → va_W → Prop} (h : F_X6_minutes G p0 p1 ws Q X) : Xt G yX6_minutes wsX6_minutes rm_X6_minutes [.ref p0, .int p1] ws (QtI G Q) X := by
  refine mk_Xt (cc := cX6_minutes) (nL := 2) (own := RX6) (ret := (some .int)) (lv0 := [some (.ref p0), some (.int p1)]) hst (by decide) rfl rfl (Nat.le_of_ble_eq_true rfl) rfl ?_
  intro K C F
  refine e_iload_n C (x := p1) rfl dX6_minutes_0 (pc' := 1) rfl ?_
  refine e_iconst C (v := (0 : Int32)) (by decide) dX6_minutes_1 (pc' := 2) rfl ?_
  refine e_ldc C (v := (100000 : Int32)) w_X6_minutes_c223 dX6_minutes_2 (pc' := 4) rfl ?_
  refine e_calli (run_S (n := 3) C (m_X6_isWithin hst h) gX6_minutes_X6_isWithin rfl ⟨rfl, by decide, by decide, by decide +kernel⟩ ⟨by decide, by decide⟩ rfl (Nat.le_of_ble_eq_true rfl) dX6_minutes_4 ⟨by decide, by decide⟩ (As := [.int p1, .int (0 : Int32), .int (100000 : Int32)]) rfl) (pc' := 7) rfl (cn' := 0) (sn' := 0) rfl rfl (fun v1 ws h => ?_)
  refine e_if_ne C (tg := 20) dX6_minutes_7 (by decide) (pc' := 10) rfl (fun hc => ?_) (fun hc => ?_)
  · replace h := h.1 hc
    refine e_aload_n C (x := p0) rfl dX6_minutes_20 (pc' := 21) rfl ?_
    refine e_dup C rfl dX6_minutes_21 (pc' := 22) rfl ?_
    refine f_getI C (ci := 6) (CN := RX6) (TT := TX6) (N := 16) 12 dX6_minutes_22 (pc' := 25) rfl in_X6_minutes_X6 rfl (by decide) fl_X6_minutes_208 h (fun v2 h => ?_)
    refine e_iload_n C (x := p1) rfl dX6_minutes_25 (pc' := 26) rfl ?_
    refine e_iadd C dX6_minutes_26 (pc' := 27) rfl ?_
    refine f_putI C (ci := 6) (CN := RX6) (TT := TX6) (N := 16) 12 tyX6 dX6_minutes_27 (pc' := 30) rfl in_X6_minutes_X6 tyX6_ok nmX6 rfl (by decide) fl_X6_minutes_208 rfl (by decide +kernel) h (fun ws h => ?_)
    refine e_aload_n C (x := p0) rfl dX6_minutes_30 (pc' := 31) rfl ?_
    refine f_getI C (ci := 6) (CN := RX6) (TT := TX6) (N := 16) 12 dX6_minutes_31 (pc' := 34) rfl in_X6_minutes_X6 rfl (by decide) fl_X6_minutes_208 h (fun v3 h => ?_)
    exact x_int C F dX6_minutes_34 (by decide) (by decide) h
  · replace h := h.2 hc
    exact x_throwS C F (E := "java/lang/IllegalArgumentException") (tx := "minutes are none") (by decide) (by decide) w_X6_minutes_k79 w_X6_minutes_i79 (by decide) gw_X6_minutes_83 xb_X6_83 xo_X6_83_79 dX6_minutes_10 dX6_minutes_13 dX6_minutes_14 dX6_minutes_16 dX6_minutes_19 (by decide) (by decide) (by decide) (by decide) h
abbrev rm_X4_heldBy : Room := { frames := 0, cells := 0, slots := 0, locals := 0 }
set_option maxRecDepth 20000 in
theorem in_X4_heldBy_X4 : ∀ w ∈ wsX40, w ∈ wsX4_heldBy := by decide +kernel
set_option maxRecDepth 20000 in
theorem fl_X4_heldBy_27 : Cond.fieldLink RX4 27 (TX4 5).1 (TX4 5).2.1 (TX4 5).2.2.1 ∈ wsX4_heldBy := by decide +kernel
set_option maxRecDepth 20000 in
theorem fl_X4_heldBy_30 : Cond.fieldLink RX4 30 (TX4 6).1 (TX4 6).2.1 (TX4 6).2.2.1 ∈ wsX4_heldBy := by decide +kernel
set_option maxRecDepth 20000 in
theorem fl_X4_heldBy_24 : Cond.fieldLink RX4 24 (TX4 4).1 (TX4 4).2.1 (TX4 4).2.2.1 ∈ wsX4_heldBy := by decide +kernel
set_option maxRecDepth 20000 in
theorem fl_X4_heldBy_21 : Cond.fieldLink RX4 21 (TX4 3).1 (TX4 3).2.1 (TX4 3).2.2.1 ∈ wsX4_heldBy := by decide +kernel
def F_X4_heldBy (G : Gx) (p0 : Nat) (p1 : Int32) (ws : va_W) (Q : Int32 → va_W → Prop) : Prop := ∀ (J23 : va_W → Prop), (∀ (ws : va_W), qI 4 3 p0 ws (fun v4 => Q v4 ws) → J23 ws) → qI 4 5 p0 ws (fun v1 => ((p1 < v1 → J23 ws) ∧ (¬ p1 < v1 → qI 4 6 p0 ws (fun v2 => ((v2 ≤ p1 → J23 ws) ∧ (¬ v2 ≤ p1 → qI 4 4 p0 ws (fun v3 => Q v3 ws)))))))
set_option maxRecDepth 20000 in
set_option maxHeartbeats 4000000 in
theorem m_X4_heldBy {G : Gx} (hst : (gl G).stackTraces = false) {p0 : Nat} {p1 : Int32} {ws : va_W} {Q : Int32 → va_W → Prop} (h : F_X4_heldBy G p0 p1 ws Q) : Mt G yX4_heldBy wsX4_heldBy rm_X4_heldBy [.ref p0, .int p1] ws (QtI G Q) := by
  refine mk_Mt (cc := cX4_heldBy) (nL := 2) (own := RX4) (ret := (some .int)) (lv0 := [some (.ref p0), some (.int p1)]) hst (by decide) rfl rfl (Nat.le_of_ble_eq_true rfl) rfl ?_
  intro K C F
  replace h := h (fun ws => Ev K G 2 0 0 23 [some (.ref p0), none] [] ws)
  replace h := h (by
    intro ws h
    show Ev K G 2 0 0 23 [some (.ref p0), none] [] ws
    refine e_aload_n C (x := p0) rfl dX4_heldBy_23 (pc' := 24) rfl ?_
    refine f_getI C (ci := 4) (CN := RX4) (TT := TX4) (N := 7) 3 dX4_heldBy_24 (pc' := 27) rfl in_X4_heldBy_X4 rfl (by decide) fl_X4_heldBy_21 h (fun v4 h => ?_)
    exact r_int C F dX4_heldBy_27 (by decide) (by decide) h)
  refine e_aload_n C (x := p0) rfl dX4_heldBy_0 (pc' := 1) rfl ?_
  refine f_getI C (ci := 4) (CN := RX4) (TT := TX4) (N := 7) 5 dX4_heldBy_1 (pc' := 4) rfl in_X4_heldBy_X4 rfl (by decide) fl_X4_heldBy_27 h (fun v1 h => ?_)
  refine e_iload_n C (x := p1) rfl dX4_heldBy_4 (pc' := 5) rfl ?_
  refine e_icmp_gt C (tg := 23) dX4_heldBy_5 (by decide) (pc' := 8) rfl (fun hc => ?_) (fun hc => ?_)
  · replace h := h.1 hc
    refine e_mask [true, false] (lv' := [some (.ref p0), none]) rfl ?_
    exact h
  · replace h := h.2 hc
    refine e_iload_n C (x := p1) rfl dX4_heldBy_8 (pc' := 9) rfl ?_
    refine e_aload_n C (x := p0) rfl dX4_heldBy_9 (pc' := 10) rfl ?_
    refine f_getI C (ci := 4) (CN := RX4) (TT := TX4) (N := 7) 6 dX4_heldBy_10 (pc' := 13) rfl in_X4_heldBy_X4 rfl (by decide) fl_X4_heldBy_30 h (fun v2 h => ?_)
    refine e_icmp_ge C (tg := 23) dX4_heldBy_13 (by decide) (pc' := 16) rfl (fun hc => ?_) (fun hc => ?_)
    · replace h := h.1 hc
      refine e_mask [true, false] (lv' := [some (.ref p0), none]) rfl ?_
      exact h
    · replace h := h.2 hc
      refine e_aload_n C (x := p0) rfl dX4_heldBy_16 (pc' := 17) rfl ?_
      refine f_getI C (ci := 4) (CN := RX4) (TT := TX4) (N := 7) 4 dX4_heldBy_17 (pc' := 20) rfl in_X4_heldBy_X4 rfl (by decide) fl_X4_heldBy_24 h (fun v3 h => ?_)
      refine e_goto C (tg := 27) dX4_heldBy_20 (by decide) ?_
      exact r_int C F dX4_heldBy_27 (by decide) (by decide) h
abbrev rm_X6_holder : Room := { frames := 7, cells := 2, slots := 12, locals := 103 }
set_option maxRecDepth 20000 in
theorem in_X6_holder_X0 : ∀ w ∈ wsX00, w ∈ wsX6_holder := by decide +kernel
set_option maxRecDepth 20000 in
theorem fl_X6_holder_126 : Cond.fieldLink RX6 126 (TX0 5).1 (TX0 5).2.1 (TX0 5).2.2.1 ∈ wsX6_holder := by decide +kernel
set_option maxRecDepth 20000 in
theorem w_X6_holder_k79 : Cond.classLink RX6 79 "java/lang/IllegalArgumentException" ∈ wsX6_holder := by decide +kernel
set_option maxRecDepth 20000 in
theorem w_X6_holder_i79 : Cond.initialized "java/lang/IllegalArgumentException" ∈ wsX6_holder := by decide +kernel
set_option maxRecDepth 20000 in
theorem gw_X6_holder_83 : ∀ w ∈ (vx_atS RX6 83 "java/lang/IllegalArgumentException" xnms).filter goodWord, w ∈ wsX6_holder := by decide +kernel
set_option maxRecDepth 20000 in
theorem in_X6_holder_X6 : ∀ w ∈ wsX60, w ∈ wsX6_holder := by decide +kernel
set_option maxRecDepth 20000 in
theorem fl_X6_holder_123 : Cond.fieldLink RX6 123 (TX6 11).1 (TX6 11).2.1 (TX6 11).2.2.1 ∈ wsX6_holder := by decide +kernel
set_option maxRecDepth 20000 in
theorem fl_X6_holder_44 : Cond.fieldLink RX6 44 (TX6 10).1 (TX6 10).2.1 (TX6 10).2.2.1 ∈ wsX6_holder := by decide +kernel
set_option maxRecDepth 20000 in
theorem in_X6_holder_X4 : ∀ w ∈ wsX40, w ∈ wsX6_holder := by decide +kernel
set_option maxRecDepth 20000 in
theorem fl_X6_holder_183 : Cond.fieldLink RX6 183 (TX4 0).1 (TX4 0).2.1 (TX4 0).2.2.1 ∈ wsX6_holder := by decide +kernel
set_option maxRecDepth 20000 in
theorem fl_X6_holder_173 : Cond.fieldLink RX6 173 (TX4 1).1 (TX4 1).2.1 (TX4 1).2.2.1 ∈ wsX6_holder := by decide +kernel
set_option maxRecDepth 20000 in
theorem fl_X6_holder_176 : Cond.fieldLink RX6 176 (TX4 2).1 (TX4 2).2.1 (TX4 2).2.2.1 ∈ wsX6_holder := by decide +kernel
def F_X6_holder (G : Gx) (p0 : Nat) (p1 : Int32) (p2 : Int32) (ws : va_W) (Q : Int32 → va_W → Prop) (X : String → va_W → Prop) : Prop := ∀ (J40 : Int32 → Int32 → va_W → Prop), ∀ (J94 : Int32 → Int32 → va_W → Prop), (∀ (x4 : Int32) (x5 : Int32) (ws : va_W), qI 6 11 p0 ws (fun v4 => ((v4 ≤ x5 → Q (-1 : Int32) ws) ∧ (¬ v4 ≤ x5 → qR 6 10 p0 ws (fun v5 => qQ (gc G 4) v5 x5 ws (fun v6 => qI 4 0 v6 ws (fun v7 => ((¬ v7 = p1 → J94 x4 x5 ws) ∧ (v7 = p1 → qI 4 1 v6 ws (fun v8 => ((x4 < v8 → J94 x4 x5 ws) ∧ (¬ x4 < v8 → qI 4 2 v6 ws (fun v9 => ((v9 ≤ x4 → J94 x4 x5 ws) ∧ (¬ v9 ≤ x4 → (qV 4 v6 ws ∧ F_X4_heldBy G v6 p2 ws (fun v10 ws => Q v10 ws)))))))))))))))) → J40 x4 x5 ws) → (∀ (x4 : Int32) (x5 : Int32) (ws : va_W), J40 x4 (x5 + (1 : Int32)) ws → J94 x4 x5 ws) → (qV 6 p0 ws ∧ F_X6_channelAt G p0 p1 ws (fun v1 ws => ((0 ≤ p2 → qI 0 5 v1 ws (fun v2 => ((0 < v2 → qI 0 5 v1 ws (fun v3 => (¬ v3 = 0 ∧ (J40 (p2 - p2 / v3 * v3) (0 : Int32) ws)))) ∧ (¬ 0 < v2 → Q (-1 : Int32) ws)))) ∧ (¬ 0 ≤ p2 → X "java/lang/IllegalArgumentException" ws))) X)
set_option maxRecDepth 20000 in
set_option maxHeartbeats 4000000 in
theorem m_X6_holder {G : Gx} (hst : (gl G).stackTraces = false) {p0 : Nat} {p1 : Int32} {p2 : Int32} {ws : va_W} {Q : Int32 → va_W → Prop} {X : String → va_W → Prop} (h : F_X6_holder G p0 p1 p2 ws Q X) : Xt G yX6_holder wsX6_holder rm_X6_holder [.ref p0, .int p1, .int p2] ws (QtI G Q) X := by
  refine mk_Xt (cc := cX6_holder) (nL := 7) (own := RX6) (ret := (some .int)) (lv0 := [some (.ref p0), some (.int p1), some (.int p2), none, none, none, none]) hst (by decide) rfl rfl (Nat.le_of_ble_eq_true rfl) rfl ?_
  intro K C F
  replace h := h (fun x4 x5 ws => Ev K G 7 1 6 40 [some (.ref p0), some (.int p1), some (.int p2), none, some (.int x4), some (.int x5), none] [] ws) (fun x4 x5 ws => Ev K G 7 1 6 94 [some (.ref p0), some (.int p1), some (.int p2), none, some (.int x4), some (.int x5), none] [] ws)
  replace h := h (by
    intro x4 x5 ws h
    show Ev K G 7 1 6 40 [some (.ref p0), some (.int p1), some (.int p2), none, some (.int x4), some (.int x5), none] [] ws
    refine e_iload C (x := x5) rfl dX6_holder_40 (pc' := 42) rfl ?_
    refine e_aload_n C (x := p0) rfl dX6_holder_42 (pc' := 43) rfl ?_
    refine f_getI C (ci := 6) (CN := RX6) (TT := TX6) (N := 16) 11 dX6_holder_43 (pc' := 46) rfl in_X6_holder_X6 rfl (by decide) fl_X6_holder_123 h (fun v4 h => ?_)
    refine e_icmp_ge C (tg := 100) dX6_holder_46 (by decide) (pc' := 49) rfl (fun hc => ?_) (fun hc => ?_)
    · replace h := h.1 hc
      refine e_iconst C (v := (-1 : Int32)) (by decide) dX6_holder_100 (pc' := 101) rfl ?_
      exact x_int C F dX6_holder_101 (by decide) (by decide) h
    · replace h := h.2 hc
      refine e_aload_n C (x := p0) rfl dX6_holder_49 (pc' := 50) rfl ?_
      refine f_getR C (ci := 6) (CN := RX6) (TT := TX6) (N := 16) 10 dX6_holder_50 (pc' := 53) rfl in_X6_holder_X6 rfl (by decide) fl_X6_holder_44 h (fun v5 h => ?_)
      refine e_iload C (x := x5) rfl dX6_holder_53 (pc' := 55) rfl ?_
      refine f_aaloadS C dX6_holder_55 (pc' := 56) rfl h (fun v6 h => ?_)
      refine e_astore C (by decide) dX6_holder_56 (pc' := 58) rfl (lv' := [some (.ref p0), some (.int p1), some (.int p2), none, some (.int x4), some (.int x5), some (.ref v6)]) rfl ?_
      refine e_aload C (x := v6) rfl dX6_holder_58 (pc' := 60) rfl ?_
      refine f_getI C (ci := 4) (CN := RX4) (TT := TX4) (N := 7) 0 dX6_holder_60 (pc' := 63) rfl in_X6_holder_X4 rfl (by decide) fl_X6_holder_183 h (fun v7 h => ?_)
      refine e_iload_n C (x := p1) rfl dX6_holder_63 (pc' := 64) rfl ?_
      refine e_icmp_ne C (tg := 94) dX6_holder_64 (by decide) (pc' := 67) rfl (fun hc => ?_) (fun hc => ?_)
      · replace h := h.1 hc
        refine e_mask [true, true, true, false, true, true, false] (lv' := [some (.ref p0), some (.int p1), some (.int p2), none, some (.int x4), some (.int x5), none]) rfl ?_
        exact h
      · replace h := h.2 hc
        refine e_aload C (x := v6) rfl dX6_holder_67 (pc' := 69) rfl ?_
        refine f_getI C (ci := 4) (CN := RX4) (TT := TX4) (N := 7) 1 dX6_holder_69 (pc' := 72) rfl in_X6_holder_X4 rfl (by decide) fl_X6_holder_173 h (fun v8 h => ?_)
        refine e_iload C (x := x4) rfl dX6_holder_72 (pc' := 74) rfl ?_
        refine e_icmp_gt C (tg := 94) dX6_holder_74 (by decide) (pc' := 77) rfl (fun hc => ?_) (fun hc => ?_)
        · replace h := h.1 hc
          refine e_mask [true, true, true, false, true, true, false] (lv' := [some (.ref p0), some (.int p1), some (.int p2), none, some (.int x4), some (.int x5), none]) rfl ?_
          exact h
        · replace h := h.2 hc
          refine e_iload C (x := x4) rfl dX6_holder_77 (pc' := 79) rfl ?_
          refine e_aload C (x := v6) rfl dX6_holder_79 (pc' := 81) rfl ?_
          refine f_getI C (ci := 4) (CN := RX4) (TT := TX4) (N := 7) 2 dX6_holder_81 (pc' := 84) rfl in_X6_holder_X4 rfl (by decide) fl_X6_holder_176 h (fun v9 h => ?_)
          refine e_icmp_ge C (tg := 94) dX6_holder_84 (by decide) (pc' := 87) rfl (fun hc => ?_) (fun hc => ?_)
          · replace h := h.1 hc
            refine e_mask [true, true, true, false, true, true, false] (lv' := [some (.ref p0), some (.int p1), some (.int p2), none, some (.int x4), some (.int x5), none]) rfl ?_
            exact h
          · replace h := h.2 hc
            refine e_aload C (x := v6) rfl dX6_holder_87 (pc' := 89) rfl ?_
            refine e_iload_n C (x := p2) rfl dX6_holder_89 (pc' := 90) rfl ?_
            obtain ⟨hv, h⟩ := h
            refine e_calli (run_V (n := 1) C (m_X4_heldBy hst h) gX6_holder_X4_heldBy rfl ⟨rfl, by decide, by decide, by decide +kernel⟩ ⟨by decide, by decide⟩ (ci := 4) rfl rfl hv rfl (Nat.le_of_ble_eq_true rfl) dX6_holder_90 ⟨by decide, by decide⟩ (As := [.int p2]) rfl) (pc' := 93) rfl (cn' := 1) (sn' := 6) rfl rfl (fun v10 ws h => ?_)
            exact x_int C F dX6_holder_93 (by decide) (by decide) h)
  replace h := h (by
    intro x4 x5 ws h
    show Ev K G 7 1 6 94 [some (.ref p0), some (.int p1), some (.int p2), none, some (.int x4), some (.int x5), none] [] ws
    refine e_iinc C dX6_holder_94 (x := x5) (v := (x5 + (1 : Int32))) rfl rfl (by decide) (pc' := 97) rfl (lv' := [some (.ref p0), some (.int p1), some (.int p2), none, some (.int x4), some (.int (x5 + (1 : Int32))), none]) rfl ?_
    refine e_goto C (tg := 40) dX6_holder_97 (by decide) ?_
    exact h)
  refine e_aload_n C (x := p0) rfl dX6_holder_0 (pc' := 1) rfl ?_
  refine e_iload_n C (x := p1) rfl dX6_holder_1 (pc' := 2) rfl ?_
  obtain ⟨hv, h⟩ := h
  refine e_xcallr (run_XV (n := 1) C (m_X6_channelAt hst h) gX6_holder_X6_channelAt rfl ⟨rfl, by decide, by decide, by decide +kernel⟩ ⟨by decide, by decide⟩ (ci := 6) rfl rfl hv rfl (Nat.le_of_ble_eq_true rfl) dX6_holder_2 ⟨by decide, by decide⟩ (As := [.int p1]) rfl) (pc' := 5) rfl (cn' := 1) (sn' := 6) rfl rfl (fun E u hx => x_out C F (by decide) (by decide) hx) (fun v1 ws h => ?_)
  refine e_astore_n C (by decide) dX6_holder_5 (pc' := 6) rfl (lv' := [some (.ref p0), some (.int p1), some (.int p2), some (.ref v1), none, none, none]) rfl ?_
  refine e_iload_n C (x := p2) rfl dX6_holder_6 (pc' := 7) rfl ?_
  refine e_if_ge C (tg := 20) dX6_holder_7 (by decide) (pc' := 10) rfl (fun hc => ?_) (fun hc => ?_)
  · replace h := h.1 hc
    refine e_aload_n C (x := v1) rfl dX6_holder_20 (pc' := 21) rfl ?_
    refine f_getI C (ci := 0) (CN := RX0) (TT := TX0) (N := 8) 5 dX6_holder_21 (pc' := 24) rfl in_X6_holder_X0 rfl (by decide) fl_X6_holder_126 h (fun v2 h => ?_)
    refine e_if_gt C (tg := 29) dX6_holder_24 (by decide) (pc' := 27) rfl (fun hc => ?_) (fun hc => ?_)
    · replace h := h.1 hc
      refine e_iload_n C (x := p2) rfl dX6_holder_29 (pc' := 30) rfl ?_
      refine e_aload_n C (x := v1) rfl dX6_holder_30 (pc' := 31) rfl ?_
      refine f_getI C (ci := 0) (CN := RX0) (TT := TX0) (N := 8) 5 dX6_holder_31 (pc' := 34) rfl in_X6_holder_X0 rfl (by decide) fl_X6_holder_126 h (fun v3 h => ?_)
      obtain ⟨hz, h⟩ := h
      refine e_irem C hz dX6_holder_34 (pc' := 35) rfl ?_
      refine e_istore C (by decide) dX6_holder_35 (pc' := 37) rfl (lv' := [some (.ref p0), some (.int p1), some (.int p2), some (.ref v1), some (.int (p2 - p2 / v3 * v3)), none, none]) rfl ?_
      refine e_iconst C (v := (0 : Int32)) (by decide) dX6_holder_37 (pc' := 38) rfl ?_
      refine e_istore C (by decide) dX6_holder_38 (pc' := 40) rfl (lv' := [some (.ref p0), some (.int p1), some (.int p2), some (.ref v1), some (.int (p2 - p2 / v3 * v3)), some (.int (0 : Int32)), none]) rfl ?_
      refine e_mask [true, true, true, false, true, true, false] (lv' := [some (.ref p0), some (.int p1), some (.int p2), none, some (.int (p2 - p2 / v3 * v3)), some (.int (0 : Int32)), none]) rfl ?_
      exact h
    · replace h := h.2 hc
      refine e_iconst C (v := (-1 : Int32)) (by decide) dX6_holder_27 (pc' := 28) rfl ?_
      exact x_int C F dX6_holder_28 (by decide) (by decide) h
  · replace h := h.2 hc
    exact x_throwS C F (E := "java/lang/IllegalArgumentException") (tx := "the minute is below 0") (by decide) (by decide) w_X6_holder_k79 w_X6_holder_i79 (by decide) gw_X6_holder_83 xb_X6_83 xo_X6_83_79 dX6_holder_10 dX6_holder_13 dX6_holder_14 dX6_holder_16 dX6_holder_19 (by decide) (by decide) (by decide) (by decide) h
