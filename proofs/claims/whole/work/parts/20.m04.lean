abbrev rm_X6_weighOwners : Room := { frames := 0, cells := 0, slots := 0, locals := 0 }
set_option maxRecDepth 20000 in
theorem in_X6_weighOwners_X6 : ∀ w ∈ wsX60, w ∈ wsX6_weighOwners := by decide +kernel
set_option maxRecDepth 20000 in
theorem fl_X6_weighOwners_21 : Cond.fieldLink RX6 21 (TX6 2).1 (TX6 2).2.1 (TX6 2).2.2.1 ∈ wsX6_weighOwners := by decide +kernel
set_option maxRecDepth 20000 in
theorem fl_X6_weighOwners_56 : Cond.fieldLink RX6 56 (TX6 14).1 (TX6 14).2.1 (TX6 14).2.2.1 ∈ wsX6_weighOwners := by decide +kernel
set_option maxRecDepth 20000 in
theorem fl_X6_weighOwners_123 : Cond.fieldLink RX6 123 (TX6 11).1 (TX6 11).2.1 (TX6 11).2.2.1 ∈ wsX6_weighOwners := by decide +kernel
set_option maxRecDepth 20000 in
theorem fl_X6_weighOwners_44 : Cond.fieldLink RX6 44 (TX6 10).1 (TX6 10).2.1 (TX6 10).2.2.1 ∈ wsX6_weighOwners := by decide +kernel
set_option maxRecDepth 20000 in
theorem in_X6_weighOwners_X4 : ∀ w ∈ wsX40, w ∈ wsX6_weighOwners := by decide +kernel
set_option maxRecDepth 20000 in
theorem fl_X6_weighOwners_183 : Cond.fieldLink RX6 183 (TX4 0).1 (TX4 0).2.1 (TX4 0).2.2.1 ∈ wsX6_weighOwners := by decide +kernel
set_option maxRecDepth 20000 in
theorem fl_X6_weighOwners_186 : Cond.fieldLink RX6 186 (TX4 3).1 (TX4 3).2.1 (TX4 3).2.2.1 ∈ wsX6_weighOwners := by decide +kernel
set_option maxRecDepth 20000 in
theorem fl_X6_weighOwners_176 : Cond.fieldLink RX6 176 (TX4 2).1 (TX4 2).2.1 (TX4 2).2.2.1 ∈ wsX6_weighOwners := by decide +kernel
set_option maxRecDepth 20000 in
theorem fl_X6_weighOwners_173 : Cond.fieldLink RX6 173 (TX4 1).1 (TX4 1).2.1 (TX4 1).2.2.1 ∈ wsX6_weighOwners := by decide +kernel
def F_X6_weighOwners (G : Gx) (p0 : Nat) (p1 : Int32) (ws : va_W) (Q : va_W → Prop) : Prop := ∀ (J2 : Int32 → va_W → Prop), ∀ (J36 : Int32 → va_W → Prop), ∀ (J39 : Int32 → Int32 → va_W → Prop), ∀ (J104 : Int32 → Int32 → va_W → Prop), ∀ (J103 : Int32 → Int32 → Int32 → Int32 → Nat → va_W → Prop), (∀ (x2 : Int32) (ws : va_W), (((30 : Int32) < x2 → qR 6 2 p0 ws (fun v1 => qA (gc G 1) v1 (2 : Int32) ws (fun v2 => ((¬ v2 = (1 : Int32) → J36 (0 : Int32) ws) ∧ (v2 = (1 : Int32) → J36 (1 : Int32) ws))))) ∧ (¬ (30 : Int32) < x2 → qR 6 14 p0 ws (fun v3 => qS (gc G 1) v3 x2 (0 : Int32) ws (fun ws => J2 (x2 + (1 : Int32)) ws)))) → J2 x2 ws) → (∀ (t0 : Int32) (ws : va_W), J39 t0 (0 : Int32) ws → J36 t0 ws) → (∀ (x2 : Int32) (x3 : Int32) (ws : va_W), qI 6 11 p0 ws (fun v4 => ((v4 ≤ x3 → Q ws) ∧ (¬ v4 ≤ x3 → qR 6 10 p0 ws (fun v5 => qQ (gc G 4) v5 x3 ws (fun v6 => qI 4 0 v6 ws (fun v7 => ((¬ v7 = p1 → J104 x2 x3 ws) ∧ (v7 = p1 → qR 6 14 p0 ws (fun v8 => qI 4 3 v6 ws (fun v9 => ((x2 = 0 → qR 6 14 p0 ws (fun v10 => qI 4 3 v6 ws (fun v11 => qA (gc G 1) v10 v11 ws (fun v12 => qI 4 2 v6 ws (fun v13 => qI 4 1 v6 ws (fun v14 => J103 x2 x3 ((v12 + v13) - v14) v9 v8 ws)))))) ∧ (¬ x2 = 0 → J103 x2 x3 (1 : Int32) v9 v8 ws)))))))))))) → J39 x2 x3 ws) → (∀ (x2 : Int32) (x3 : Int32) (ws : va_W), J39 x2 (x3 + (1 : Int32)) ws → J104 x2 x3 ws) → (∀ (x2 : Int32) (x3 : Int32) (t0 : Int32) (t1 : Int32) (t2 : Nat) (ws : va_W), qS (gc G 1) t2 t1 t0 ws (fun ws => J104 x2 x3 ws) → J103 x2 x3 t0 t1 t2 ws) → J2 (0 : Int32) ws
set_option maxRecDepth 20000 in
set_option maxHeartbeats 4000000 in
theorem m_X6_weighOwners {G : Gx} (hst : (gl G).stackTraces = false) {p0 : Nat} {p1 : Int32} {ws : va_W} {Q : va_W → Prop} (h : F_X6_weighOwners G p0 p1 ws Q) : Mt G yX6_weighOwners wsX6_weighOwners rm_X6_weighOwners [.ref p0, .int p1] ws (QtV G Q) := by
  refine mk_Mt (cc := cX6_weighOwners) (nL := 5) (own := RX6) (ret := none) (lv0 := [some (.ref p0), some (.int p1), none, none, none]) hst (by decide) rfl rfl (Nat.le_of_ble_eq_true rfl) rfl ?_
  intro K C F
  replace h := h (fun x2 ws => Ev K G 5 0 0 2 [some (.ref p0), some (.int p1), some (.int x2), none, none] [] ws) (fun t0 ws => Ev K G 5 0 0 36 [some (.ref p0), some (.int p1), none, none, none] [.int t0] ws) (fun x2 x3 ws => Ev K G 5 0 0 39 [some (.ref p0), some (.int p1), some (.int x2), some (.int x3), none] [] ws) (fun x2 x3 ws => Ev K G 5 0 0 104 [some (.ref p0), some (.int p1), some (.int x2), some (.int x3), none] [] ws) (fun x2 x3 t0 t1 t2 ws => Ev K G 5 0 0 103 [some (.ref p0), some (.int p1), some (.int x2), some (.int x3), none] [.int t0, .int t1, .ref t2] ws)
  replace h := h (by
    intro x2 ws h
    show Ev K G 5 0 0 2 [some (.ref p0), some (.int p1), some (.int x2), none, none] [] ws
    refine e_iload_n C (x := x2) rfl dX6_weighOwners_2 (pc' := 3) rfl ?_
    refine e_bipush C (v := (30 : Int32)) (by decide) dX6_weighOwners_3 (pc' := 5) rfl ?_
    refine e_icmp_gt C (tg := 21) dX6_weighOwners_5 (by decide) (pc' := 8) rfl (fun hc => ?_) (fun hc => ?_)
    · replace h := h.1 hc
      refine e_aload_n C (x := p0) rfl dX6_weighOwners_21 (pc' := 22) rfl ?_
      refine f_getR C (ci := 6) (CN := RX6) (TT := TX6) (N := 16) 2 dX6_weighOwners_22 (pc' := 25) rfl in_X6_weighOwners_X6 rfl (by decide) fl_X6_weighOwners_21 h (fun v1 h => ?_)
      refine e_iconst C (v := (2 : Int32)) (by decide) dX6_weighOwners_25 (pc' := 26) rfl ?_
      refine f_iaload C dX6_weighOwners_26 (pc' := 27) rfl h (fun v2 h => ?_)
      refine e_iconst C (v := (1 : Int32)) (by decide) dX6_weighOwners_27 (pc' := 28) rfl ?_
      refine e_icmp_ne C (tg := 35) dX6_weighOwners_28 (by decide) (pc' := 31) rfl (fun hc => ?_) (fun hc => ?_)
      · replace h := h.1 hc
        refine e_iconst C (v := (0 : Int32)) (by decide) dX6_weighOwners_35 (pc' := 36) rfl ?_
        refine e_mask [true, true, false, false, false] (lv' := [some (.ref p0), some (.int p1), none, none, none]) rfl ?_
        exact h
      · replace h := h.2 hc
        refine e_iconst C (v := (1 : Int32)) (by decide) dX6_weighOwners_31 (pc' := 32) rfl ?_
        refine e_goto C (tg := 36) dX6_weighOwners_32 (by decide) ?_
        refine e_mask [true, true, false, false, false] (lv' := [some (.ref p0), some (.int p1), none, none, none]) rfl ?_
        exact h
    · replace h := h.2 hc
      refine e_aload_n C (x := p0) rfl dX6_weighOwners_8 (pc' := 9) rfl ?_
      refine f_getR C (ci := 6) (CN := RX6) (TT := TX6) (N := 16) 14 dX6_weighOwners_9 (pc' := 12) rfl in_X6_weighOwners_X6 rfl (by decide) fl_X6_weighOwners_56 h (fun v3 h => ?_)
      refine e_iload_n C (x := x2) rfl dX6_weighOwners_12 (pc' := 13) rfl ?_
      refine e_iconst C (v := (0 : Int32)) (by decide) dX6_weighOwners_13 (pc' := 14) rfl ?_
      refine f_iastore C dX6_weighOwners_14 (pc' := 15) rfl h (fun ws h => ?_)
      refine e_iinc C dX6_weighOwners_15 (x := x2) (v := (x2 + (1 : Int32))) rfl rfl (by decide) (pc' := 18) rfl (lv' := [some (.ref p0), some (.int p1), some (.int (x2 + (1 : Int32))), none, none]) rfl ?_
      refine e_goto C (tg := 2) dX6_weighOwners_18 (by decide) ?_
      exact h)
  replace h := h (by
    intro t0 ws h
    show Ev K G 5 0 0 36 [some (.ref p0), some (.int p1), none, none, none] [.int t0] ws
    refine e_istore_n C (by decide) dX6_weighOwners_36 (pc' := 37) rfl (lv' := [some (.ref p0), some (.int p1), some (.int t0), none, none]) rfl ?_
    refine e_iconst C (v := (0 : Int32)) (by decide) dX6_weighOwners_37 (pc' := 38) rfl ?_
    refine e_istore_n C (by decide) dX6_weighOwners_38 (pc' := 39) rfl (lv' := [some (.ref p0), some (.int p1), some (.int t0), some (.int (0 : Int32)), none]) rfl ?_
    exact h)
  replace h := h (by
    intro x2 x3 ws h
    show Ev K G 5 0 0 39 [some (.ref p0), some (.int p1), some (.int x2), some (.int x3), none] [] ws
    refine e_iload_n C (x := x3) rfl dX6_weighOwners_39 (pc' := 40) rfl ?_
    refine e_aload_n C (x := p0) rfl dX6_weighOwners_40 (pc' := 41) rfl ?_
    refine f_getI C (ci := 6) (CN := RX6) (TT := TX6) (N := 16) 11 dX6_weighOwners_41 (pc' := 44) rfl in_X6_weighOwners_X6 rfl (by decide) fl_X6_weighOwners_123 h (fun v4 h => ?_)
    refine e_icmp_ge C (tg := 110) dX6_weighOwners_44 (by decide) (pc' := 47) rfl (fun hc => ?_) (fun hc => ?_)
    · replace h := h.1 hc
      exact r_void C F dX6_weighOwners_110 (by decide) (by decide) h
    · replace h := h.2 hc
      refine e_aload_n C (x := p0) rfl dX6_weighOwners_47 (pc' := 48) rfl ?_
      refine f_getR C (ci := 6) (CN := RX6) (TT := TX6) (N := 16) 10 dX6_weighOwners_48 (pc' := 51) rfl in_X6_weighOwners_X6 rfl (by decide) fl_X6_weighOwners_44 h (fun v5 h => ?_)
      refine e_iload_n C (x := x3) rfl dX6_weighOwners_51 (pc' := 52) rfl ?_
      refine f_aaloadS C dX6_weighOwners_52 (pc' := 53) rfl h (fun v6 h => ?_)
      refine e_astore C (by decide) dX6_weighOwners_53 (pc' := 55) rfl (lv' := [some (.ref p0), some (.int p1), some (.int x2), some (.int x3), some (.ref v6)]) rfl ?_
      refine e_aload C (x := v6) rfl dX6_weighOwners_55 (pc' := 57) rfl ?_
      refine f_getI C (ci := 4) (CN := RX4) (TT := TX4) (N := 7) 0 dX6_weighOwners_57 (pc' := 60) rfl in_X6_weighOwners_X4 rfl (by decide) fl_X6_weighOwners_183 h (fun v7 h => ?_)
      refine e_iload_n C (x := p1) rfl dX6_weighOwners_60 (pc' := 61) rfl ?_
      refine e_icmp_ne C (tg := 104) dX6_weighOwners_61 (by decide) (pc' := 64) rfl (fun hc => ?_) (fun hc => ?_)
      · replace h := h.1 hc
        refine e_mask [true, true, true, true, false] (lv' := [some (.ref p0), some (.int p1), some (.int x2), some (.int x3), none]) rfl ?_
        exact h
      · replace h := h.2 hc
        refine e_aload_n C (x := p0) rfl dX6_weighOwners_64 (pc' := 65) rfl ?_
        refine f_getR C (ci := 6) (CN := RX6) (TT := TX6) (N := 16) 14 dX6_weighOwners_65 (pc' := 68) rfl in_X6_weighOwners_X6 rfl (by decide) fl_X6_weighOwners_56 h (fun v8 h => ?_)
        refine e_aload C (x := v6) rfl dX6_weighOwners_68 (pc' := 70) rfl ?_
        refine f_getI C (ci := 4) (CN := RX4) (TT := TX4) (N := 7) 3 dX6_weighOwners_70 (pc' := 73) rfl in_X6_weighOwners_X4 rfl (by decide) fl_X6_weighOwners_186 h (fun v9 h => ?_)
        refine e_iload_n C (x := x2) rfl dX6_weighOwners_73 (pc' := 74) rfl ?_
        refine e_if_eq C (tg := 81) dX6_weighOwners_74 (by decide) (pc' := 77) rfl (fun hc => ?_) (fun hc => ?_)
        · replace h := h.1 hc
          refine e_aload_n C (x := p0) rfl dX6_weighOwners_81 (pc' := 82) rfl ?_
          refine f_getR C (ci := 6) (CN := RX6) (TT := TX6) (N := 16) 14 dX6_weighOwners_82 (pc' := 85) rfl in_X6_weighOwners_X6 rfl (by decide) fl_X6_weighOwners_56 h (fun v10 h => ?_)
          refine e_aload C (x := v6) rfl dX6_weighOwners_85 (pc' := 87) rfl ?_
          refine f_getI C (ci := 4) (CN := RX4) (TT := TX4) (N := 7) 3 dX6_weighOwners_87 (pc' := 90) rfl in_X6_weighOwners_X4 rfl (by decide) fl_X6_weighOwners_186 h (fun v11 h => ?_)
          refine f_iaload C dX6_weighOwners_90 (pc' := 91) rfl h (fun v12 h => ?_)
          refine e_aload C (x := v6) rfl dX6_weighOwners_91 (pc' := 93) rfl ?_
          refine f_getI C (ci := 4) (CN := RX4) (TT := TX4) (N := 7) 2 dX6_weighOwners_93 (pc' := 96) rfl in_X6_weighOwners_X4 rfl (by decide) fl_X6_weighOwners_176 h (fun v13 h => ?_)
          refine e_iadd C dX6_weighOwners_96 (pc' := 97) rfl ?_
          refine e_aload C (x := v6) rfl dX6_weighOwners_97 (pc' := 99) rfl ?_
          refine f_getI C (ci := 4) (CN := RX4) (TT := TX4) (N := 7) 1 dX6_weighOwners_99 (pc' := 102) rfl in_X6_weighOwners_X4 rfl (by decide) fl_X6_weighOwners_173 h (fun v14 h => ?_)
          refine e_isub C dX6_weighOwners_102 (pc' := 103) rfl ?_
          refine e_mask [true, true, true, true, false] (lv' := [some (.ref p0), some (.int p1), some (.int x2), some (.int x3), none]) rfl ?_
          exact h
        · replace h := h.2 hc
          refine e_iconst C (v := (1 : Int32)) (by decide) dX6_weighOwners_77 (pc' := 78) rfl ?_
          refine e_goto C (tg := 103) dX6_weighOwners_78 (by decide) ?_
          refine e_mask [true, true, true, true, false] (lv' := [some (.ref p0), some (.int p1), some (.int x2), some (.int x3), none]) rfl ?_
          exact h)
  replace h := h (by
    intro x2 x3 ws h
    show Ev K G 5 0 0 104 [some (.ref p0), some (.int p1), some (.int x2), some (.int x3), none] [] ws
    refine e_iinc C dX6_weighOwners_104 (x := x3) (v := (x3 + (1 : Int32))) rfl rfl (by decide) (pc' := 107) rfl (lv' := [some (.ref p0), some (.int p1), some (.int x2), some (.int (x3 + (1 : Int32))), none]) rfl ?_
    refine e_goto C (tg := 39) dX6_weighOwners_107 (by decide) ?_
    exact h)
  replace h := h (by
    intro x2 x3 t0 t1 t2 ws h
    show Ev K G 5 0 0 103 [some (.ref p0), some (.int p1), some (.int x2), some (.int x3), none] [.int t0, .int t1, .ref t2] ws
    refine f_iastore C dX6_weighOwners_103 (pc' := 104) rfl h (fun ws h => ?_)
    exact h)
  refine e_iconst C (v := (0 : Int32)) (by decide) dX6_weighOwners_0 (pc' := 1) rfl ?_
  refine e_istore_n C (by decide) dX6_weighOwners_1 (pc' := 2) rfl (lv' := [some (.ref p0), some (.int p1), some (.int (0 : Int32)), none, none]) rfl ?_
  exact h
abbrev rm_X6_paidBy : Room := { frames := 1, cells := 0, slots := 0, locals := 22 }
set_option maxRecDepth 20000 in
theorem in_X6_paidBy_X6 : ∀ w ∈ wsX60, w ∈ wsX6_paidBy := by decide +kernel
set_option maxRecDepth 20000 in
theorem fl_X6_paidBy_56 : Cond.fieldLink RX6 56 (TX6 14).1 (TX6 14).2.1 (TX6 14).2.2.1 ∈ wsX6_paidBy := by decide +kernel
def F_X6_paidBy (G : Gx) (p0 : Nat) (p1 : Int32) (p2 : Int32) (ws : va_W) (Q : Int32 → va_W → Prop) : Prop := ∀ (J5 : Int32 → Int32 → va_W → Prop), ∀ (J37 : Int32 → Int32 → Int32 → Int32 → va_W → Prop), ∀ (J120 : Int32 → Int32 → va_W → Prop), ∀ (J80 : Int32 → Int32 → Int32 → Int32 → va_W → Prop), (∀ (x3 : Int32) (x4 : Int32) (ws : va_W), (((30 : Int32) < x4 → J37 x3 p2 (0 : Int32) (0 : Int32) ws) ∧ (¬ (30 : Int32) < x4 → qR 6 14 p0 ws (fun v1 => qA (gc G 1) v1 x4 ws (fun v2 => J5 (x3 + v2) (x4 + (1 : Int32)) ws)))) → J5 x3 x4 ws) → (∀ (x3 : Int32) (x4 : Int32) (x5 : Int32) (x6 : Int32) (ws : va_W), (((30 : Int32) < x6 → qR 6 14 p0 ws (fun v3 => qA (gc G 1) v3 p1 ws (fun v4 => ((¬ v4 = 0 → qR 6 14 p0 ws (fun v5 => qA (gc G 1) v5 p1 ws (fun v6 => (F_X6_partOf G p2 v6 x3 ws (fun v7 ws => ((x4 ≤ x5 → J120 (0 : Int32) v7 ws) ∧ (¬ x4 ≤ x5 → J120 (1 : Int32) v7 ws))))))) ∧ (v4 = 0 → Q (0 : Int32) ws))))) ∧ (¬ (30 : Int32) < x6 → qR 6 14 p0 ws (fun v8 => qA (gc G 1) v8 x6 ws (fun v9 => (F_X6_partOf G p2 v9 x3 ws (fun v10 ws => ((p1 ≤ x6 → J80 x3 (x4 - v10) x5 x6 ws) ∧ (¬ p1 ≤ x6 → qR 6 14 p0 ws (fun v11 => qA (gc G 1) v11 x6 ws (fun v12 => ((v12 ≤ 0 → J80 x3 (x4 - v10) x5 x6 ws) ∧ (¬ v12 ≤ 0 → J80 x3 (x4 - v10) (x5 + (1 : Int32)) x6 ws)))))))))))) → J37 x3 x4 x5 x6 ws) → (∀ (t0 : Int32) (t1 : Int32) (ws : va_W), Q (t1 + t0) ws → J120 t0 t1 ws) → (∀ (x3 : Int32) (x4 : Int32) (x5 : Int32) (x6 : Int32) (ws : va_W), J37 x3 x4 x5 (x6 + (1 : Int32)) ws → J80 x3 x4 x5 x6 ws) → J5 (0 : Int32) (0 : Int32) ws
set_option maxRecDepth 20000 in
set_option maxHeartbeats 4000000 in
theorem m_X6_paidBy {G : Gx} (hst : (gl G).stackTraces = false) {p0 : Nat} {p1 : Int32} {p2 : Int32} {ws : va_W} {Q : Int32 → va_W → Prop} (h : F_X6_paidBy G p0 p1 p2 ws Q) : Mt G yX6_paidBy wsX6_paidBy rm_X6_paidBy [.ref p0, .int p1, .int p2] ws (QtI G Q) := by
  refine mk_Mt (cc := cX6_paidBy) (nL := 7) (own := RX6) (ret := (some .int)) (lv0 := [some (.ref p0), some (.int p1), some (.int p2), none, none, none, none]) hst (by decide) rfl rfl (Nat.le_of_ble_eq_true rfl) rfl ?_
  intro K C F
  replace h := h (fun x3 x4 ws => Ev K G 7 0 0 5 [some (.ref p0), some (.int p1), some (.int p2), some (.int x3), some (.int x4), none, none] [] ws) (fun x3 x4 x5 x6 ws => Ev K G 7 0 0 37 [some (.ref p0), some (.int p1), some (.int p2), some (.int x3), some (.int x4), some (.int x5), some (.int x6)] [] ws) (fun t0 t1 ws => Ev K G 7 0 0 120 [none, none, none, none, none, none, none] [.int t0, .int t1] ws) (fun x3 x4 x5 x6 ws => Ev K G 7 0 0 80 [some (.ref p0), some (.int p1), some (.int p2), some (.int x3), some (.int x4), some (.int x5), some (.int x6)] [] ws)
  replace h := h (by
    intro x3 x4 ws h
    show Ev K G 7 0 0 5 [some (.ref p0), some (.int p1), some (.int p2), some (.int x3), some (.int x4), none, none] [] ws
    refine e_iload C (x := x4) rfl dX6_paidBy_5 (pc' := 7) rfl ?_
    refine e_bipush C (v := (30 : Int32)) (by decide) dX6_paidBy_7 (pc' := 9) rfl ?_
    refine e_icmp_gt C (tg := 28) dX6_paidBy_9 (by decide) (pc' := 12) rfl (fun hc => ?_) (fun hc => ?_)
    · replace h := h.1 hc
      refine e_iload_n C (x := p2) rfl dX6_paidBy_28 (pc' := 29) rfl ?_
      refine e_istore C (by decide) dX6_paidBy_29 (pc' := 31) rfl (lv' := [some (.ref p0), some (.int p1), some (.int p2), some (.int x3), some (.int p2), none, none]) rfl ?_
      refine e_iconst C (v := (0 : Int32)) (by decide) dX6_paidBy_31 (pc' := 32) rfl ?_
      refine e_istore C (by decide) dX6_paidBy_32 (pc' := 34) rfl (lv' := [some (.ref p0), some (.int p1), some (.int p2), some (.int x3), some (.int p2), some (.int (0 : Int32)), none]) rfl ?_
      refine e_iconst C (v := (0 : Int32)) (by decide) dX6_paidBy_34 (pc' := 35) rfl ?_
      refine e_istore C (by decide) dX6_paidBy_35 (pc' := 37) rfl (lv' := [some (.ref p0), some (.int p1), some (.int p2), some (.int x3), some (.int p2), some (.int (0 : Int32)), some (.int (0 : Int32))]) rfl ?_
      exact h
    · replace h := h.2 hc
      refine e_iload_n C (x := x3) rfl dX6_paidBy_12 (pc' := 13) rfl ?_
      refine e_aload_n C (x := p0) rfl dX6_paidBy_13 (pc' := 14) rfl ?_
      refine f_getR C (ci := 6) (CN := RX6) (TT := TX6) (N := 16) 14 dX6_paidBy_14 (pc' := 17) rfl in_X6_paidBy_X6 rfl (by decide) fl_X6_paidBy_56 h (fun v1 h => ?_)
      refine e_iload C (x := x4) rfl dX6_paidBy_17 (pc' := 19) rfl ?_
      refine f_iaload C dX6_paidBy_19 (pc' := 20) rfl h (fun v2 h => ?_)
      refine e_iadd C dX6_paidBy_20 (pc' := 21) rfl ?_
      refine e_istore_n C (by decide) dX6_paidBy_21 (pc' := 22) rfl (lv' := [some (.ref p0), some (.int p1), some (.int p2), some (.int (x3 + v2)), some (.int x4), none, none]) rfl ?_
      refine e_iinc C dX6_paidBy_22 (x := x4) (v := (x4 + (1 : Int32))) rfl rfl (by decide) (pc' := 25) rfl (lv' := [some (.ref p0), some (.int p1), some (.int p2), some (.int (x3 + v2)), some (.int (x4 + (1 : Int32))), none, none]) rfl ?_
      refine e_goto C (tg := 5) dX6_paidBy_25 (by decide) ?_
      exact h)
  replace h := h (by
    intro x3 x4 x5 x6 ws h
    show Ev K G 7 0 0 37 [some (.ref p0), some (.int p1), some (.int p2), some (.int x3), some (.int x4), some (.int x5), some (.int x6)] [] ws
    refine e_iload C (x := x6) rfl dX6_paidBy_37 (pc' := 39) rfl ?_
    refine e_bipush C (v := (30 : Int32)) (by decide) dX6_paidBy_39 (pc' := 41) rfl ?_
    refine e_icmp_gt C (tg := 86) dX6_paidBy_41 (by decide) (pc' := 44) rfl (fun hc => ?_) (fun hc => ?_)
    · replace h := h.1 hc
      refine e_aload_n C (x := p0) rfl dX6_paidBy_86 (pc' := 87) rfl ?_
      refine f_getR C (ci := 6) (CN := RX6) (TT := TX6) (N := 16) 14 dX6_paidBy_87 (pc' := 90) rfl in_X6_paidBy_X6 rfl (by decide) fl_X6_paidBy_56 h (fun v3 h => ?_)
      refine e_iload_n C (x := p1) rfl dX6_paidBy_90 (pc' := 91) rfl ?_
      refine f_iaload C dX6_paidBy_91 (pc' := 92) rfl h (fun v4 h => ?_)
      refine e_if_ne C (tg := 97) dX6_paidBy_92 (by decide) (pc' := 95) rfl (fun hc => ?_) (fun hc => ?_)
      · replace h := h.1 hc
        refine e_iload_n C (x := p2) rfl dX6_paidBy_97 (pc' := 98) rfl ?_
        refine e_aload_n C (x := p0) rfl dX6_paidBy_98 (pc' := 99) rfl ?_
        refine f_getR C (ci := 6) (CN := RX6) (TT := TX6) (N := 16) 14 dX6_paidBy_99 (pc' := 102) rfl in_X6_paidBy_X6 rfl (by decide) fl_X6_paidBy_56 h (fun v5 h => ?_)
        refine e_iload_n C (x := p1) rfl dX6_paidBy_102 (pc' := 103) rfl ?_
        refine f_iaload C dX6_paidBy_103 (pc' := 104) rfl h (fun v6 h => ?_)
        refine e_iload_n C (x := x3) rfl dX6_paidBy_104 (pc' := 105) rfl ?_
        refine e_calli (run_S (n := 3) C (m_X6_partOf hst h) gX6_paidBy_X6_partOf rfl ⟨rfl, by decide, by decide, by decide +kernel⟩ ⟨by decide, by decide⟩ rfl (Nat.le_of_ble_eq_true rfl) dX6_paidBy_105 ⟨by decide, by decide⟩ (As := [.int p2, .int v6, .int x3]) rfl) (pc' := 108) rfl (cn' := 0) (sn' := 0) rfl rfl (fun v7 ws h => ?_)
        refine e_iload C (x := x5) rfl dX6_paidBy_108 (pc' := 110) rfl ?_
        refine e_iload C (x := x4) rfl dX6_paidBy_110 (pc' := 112) rfl ?_
        refine e_icmp_ge C (tg := 119) dX6_paidBy_112 (by decide) (pc' := 115) rfl (fun hc => ?_) (fun hc => ?_)
        · replace h := h.1 hc
          refine e_iconst C (v := (0 : Int32)) (by decide) dX6_paidBy_119 (pc' := 120) rfl ?_
          refine e_mask [false, false, false, false, false, false, false] (lv' := [none, none, none, none, none, none, none]) rfl ?_
          exact h
        · replace h := h.2 hc
          refine e_iconst C (v := (1 : Int32)) (by decide) dX6_paidBy_115 (pc' := 116) rfl ?_
          refine e_goto C (tg := 120) dX6_paidBy_116 (by decide) ?_
          refine e_mask [false, false, false, false, false, false, false] (lv' := [none, none, none, none, none, none, none]) rfl ?_
          exact h
      · replace h := h.2 hc
        refine e_iconst C (v := (0 : Int32)) (by decide) dX6_paidBy_95 (pc' := 96) rfl ?_
        exact r_int C F dX6_paidBy_96 (by decide) (by decide) h
    · replace h := h.2 hc
      refine e_iload C (x := x4) rfl dX6_paidBy_44 (pc' := 46) rfl ?_
      refine e_iload_n C (x := p2) rfl dX6_paidBy_46 (pc' := 47) rfl ?_
      refine e_aload_n C (x := p0) rfl dX6_paidBy_47 (pc' := 48) rfl ?_
      refine f_getR C (ci := 6) (CN := RX6) (TT := TX6) (N := 16) 14 dX6_paidBy_48 (pc' := 51) rfl in_X6_paidBy_X6 rfl (by decide) fl_X6_paidBy_56 h (fun v8 h => ?_)
      refine e_iload C (x := x6) rfl dX6_paidBy_51 (pc' := 53) rfl ?_
      refine f_iaload C dX6_paidBy_53 (pc' := 54) rfl h (fun v9 h => ?_)
      refine e_iload_n C (x := x3) rfl dX6_paidBy_54 (pc' := 55) rfl ?_
      refine e_calli (run_S (n := 3) C (m_X6_partOf hst h) gX6_paidBy_X6_partOf rfl ⟨rfl, by decide, by decide, by decide +kernel⟩ ⟨by decide, by decide⟩ rfl (Nat.le_of_ble_eq_true rfl) dX6_paidBy_55 ⟨by decide, by decide⟩ (As := [.int p2, .int v9, .int x3]) rfl) (pc' := 58) rfl (cn' := 0) (sn' := 0) rfl rfl (fun v10 ws h => ?_)
      refine e_isub C dX6_paidBy_58 (pc' := 59) rfl ?_
      refine e_istore C (by decide) dX6_paidBy_59 (pc' := 61) rfl (lv' := [some (.ref p0), some (.int p1), some (.int p2), some (.int x3), some (.int (x4 - v10)), some (.int x5), some (.int x6)]) rfl ?_
      refine e_iload C (x := x6) rfl dX6_paidBy_61 (pc' := 63) rfl ?_
      refine e_iload_n C (x := p1) rfl dX6_paidBy_63 (pc' := 64) rfl ?_
      refine e_icmp_ge C (tg := 80) dX6_paidBy_64 (by decide) (pc' := 67) rfl (fun hc => ?_) (fun hc => ?_)
      · replace h := h.1 hc
        exact h
      · replace h := h.2 hc
        refine e_aload_n C (x := p0) rfl dX6_paidBy_67 (pc' := 68) rfl ?_
        refine f_getR C (ci := 6) (CN := RX6) (TT := TX6) (N := 16) 14 dX6_paidBy_68 (pc' := 71) rfl in_X6_paidBy_X6 rfl (by decide) fl_X6_paidBy_56 h (fun v11 h => ?_)
        refine e_iload C (x := x6) rfl dX6_paidBy_71 (pc' := 73) rfl ?_
        refine f_iaload C dX6_paidBy_73 (pc' := 74) rfl h (fun v12 h => ?_)
        refine e_if_le C (tg := 80) dX6_paidBy_74 (by decide) (pc' := 77) rfl (fun hc => ?_) (fun hc => ?_)
        · replace h := h.1 hc
          exact h
        · replace h := h.2 hc
          refine e_iinc C dX6_paidBy_77 (x := x5) (v := (x5 + (1 : Int32))) rfl rfl (by decide) (pc' := 80) rfl (lv' := [some (.ref p0), some (.int p1), some (.int p2), some (.int x3), some (.int (x4 - v10)), some (.int (x5 + (1 : Int32))), some (.int x6)]) rfl ?_
          exact h)
  replace h := h (by
    intro t0 t1 ws h
    show Ev K G 7 0 0 120 [none, none, none, none, none, none, none] [.int t0, .int t1] ws
    refine e_iadd C dX6_paidBy_120 (pc' := 121) rfl ?_
    exact r_int C F dX6_paidBy_121 (by decide) (by decide) h)
  replace h := h (by
    intro x3 x4 x5 x6 ws h
    show Ev K G 7 0 0 80 [some (.ref p0), some (.int p1), some (.int p2), some (.int x3), some (.int x4), some (.int x5), some (.int x6)] [] ws
    refine e_iinc C dX6_paidBy_80 (x := x6) (v := (x6 + (1 : Int32))) rfl rfl (by decide) (pc' := 83) rfl (lv' := [some (.ref p0), some (.int p1), some (.int p2), some (.int x3), some (.int x4), some (.int x5), some (.int (x6 + (1 : Int32)))]) rfl ?_
    refine e_goto C (tg := 37) dX6_paidBy_83 (by decide) ?_
    exact h)
  refine e_iconst C (v := (0 : Int32)) (by decide) dX6_paidBy_0 (pc' := 1) rfl ?_
  refine e_istore_n C (by decide) dX6_paidBy_1 (pc' := 2) rfl (lv' := [some (.ref p0), some (.int p1), some (.int p2), some (.int (0 : Int32)), none, none, none]) rfl ?_
  refine e_iconst C (v := (0 : Int32)) (by decide) dX6_paidBy_2 (pc' := 3) rfl ?_
  refine e_istore C (by decide) dX6_paidBy_3 (pc' := 5) rfl (lv' := [some (.ref p0), some (.int p1), some (.int p2), some (.int (0 : Int32)), some (.int (0 : Int32)), none, none]) rfl ?_
  exact h
abbrev rm_X6_pays : Room := { frames := 8, cells := 3, slots := 18, locals := 125 }
set_option maxRecDepth 20000 in
theorem w_X6_pays_k79 : Cond.classLink RX6 79 "java/lang/IllegalArgumentException" ∈ wsX6_pays := by decide +kernel
set_option maxRecDepth 20000 in
theorem w_X6_pays_i79 : Cond.initialized "java/lang/IllegalArgumentException" ∈ wsX6_pays := by decide +kernel
set_option maxRecDepth 20000 in
theorem gw_X6_pays_83 : ∀ w ∈ (vx_atS RX6 83 "java/lang/IllegalArgumentException" xnms).filter goodWord, w ∈ wsX6_pays := by decide +kernel
set_option maxRecDepth 20000 in
theorem w_X6_pays_c266 : Cond.constant RX6 266 (1000000 : Int32) ∈ wsX6_pays := by decide +kernel
set_option maxRecDepth 20000 in
theorem in_X6_pays_X6 : ∀ w ∈ wsX60, w ∈ wsX6_pays := by decide +kernel
set_option maxRecDepth 20000 in
theorem fl_X6_pays_21 : Cond.fieldLink RX6 21 (TX6 2).1 (TX6 2).2.1 (TX6 2).2.2.1 ∈ wsX6_pays := by decide +kernel
def F_X6_pays (G : Gx) (p0 : Nat) (p1 : Int32) (p2 : Int32) (p3 : Int32) (ws : va_W) (Q : Int32 → va_W → Prop) (X : String → va_W → Prop) : Prop := (qV 6 p0 ws ∧ F_X6_dugAt G p0 p1 ws (fun v1 ws => (F_X6_isOwner G p2 ws (fun v2 ws => ((v2 = 0 → X "java/lang/IllegalArgumentException" ws) ∧ (¬ v2 = 0 → (F_X6_isWithin G p3 (0 : Int32) (1000000 : Int32) ws (fun v3 ws => ((¬ v3 = 0 → (qV 6 p0 ws ∧ F_X6_weighOwners G p0 p1 ws (fun ws => qR 6 2 p0 ws (fun v5 => qA (gc G 1) v5 (3 : Int32) ws (fun v6 => (F_X6_partOf G p3 v6 (100 : Int32) ws (fun v7 ws => (qV 6 p0 ws ∧ F_X6_paidBy G p0 p2 (p3 - v7) ws (fun v8 ws => Q v8 ws))))))))) ∧ (v3 = 0 → X "java/lang/IllegalArgumentException" ws))))))))) X)
set_option maxRecDepth 20000 in
set_option maxHeartbeats 4000000 in
theorem m_X6_pays {G : Gx} (hst : (gl G).stackTraces = false) {p0 : Nat} {p1 : Int32} {p2 : Int32} {p3 : Int32} {ws : va_W} {Q : Int32 → va_W → Prop} {X : String → va_W → Prop} (h : F_X6_pays G p0 p1 p2 p3 ws Q X) : Xt G yX6_pays wsX6_pays rm_X6_pays [.ref p0, .int p1, .int p2, .int p3] ws (QtI G Q) X := by
  refine mk_Xt (cc := cX6_pays) (nL := 4) (own := RX6) (ret := (some .int)) (lv0 := [some (.ref p0), some (.int p1), some (.int p2), some (.int p3)]) hst (by decide) rfl rfl (Nat.le_of_ble_eq_true rfl) rfl ?_
  intro K C F
  refine e_aload_n C (x := p0) rfl dX6_pays_0 (pc' := 1) rfl ?_
  refine e_iload_n C (x := p1) rfl dX6_pays_1 (pc' := 2) rfl ?_
  obtain ⟨hv, h⟩ := h
  refine e_xcallr (run_XV (n := 1) C (m_X6_dugAt hst h) gX6_pays_X6_dugAt rfl ⟨rfl, by decide, by decide, by decide +kernel⟩ ⟨by decide, by decide⟩ (ci := 6) rfl rfl hv rfl (Nat.le_of_ble_eq_true rfl) dX6_pays_2 ⟨by decide, by decide⟩ (As := [.int p1]) rfl) (pc' := 5) rfl (cn' := 2) (sn' := 12) rfl rfl (fun E u hx => x_out C F (by decide) (by decide) hx) (fun v1 ws h => ?_)
  refine e_pop C rfl dX6_pays_5 (pc' := 6) rfl ?_
  refine e_iload_n C (x := p2) rfl dX6_pays_6 (pc' := 7) rfl ?_
  refine e_calli (run_S (n := 1) C (m_X6_isOwner hst h) gX6_pays_X6_isOwner rfl ⟨rfl, by decide, by decide, by decide +kernel⟩ ⟨by decide, by decide⟩ rfl (Nat.le_of_ble_eq_true rfl) dX6_pays_7 ⟨by decide, by decide⟩ (As := [.int p2]) rfl) (pc' := 10) rfl (cn' := 2) (sn' := 12) rfl rfl (fun v2 ws h => ?_)
  refine e_if_eq C (tg := 24) dX6_pays_10 (by decide) (pc' := 13) rfl (fun hc => ?_) (fun hc => ?_)
  · replace h := h.1 hc
    exact x_throwSW C F (E := "java/lang/IllegalArgumentException") (tx := "owner or costs are none") (by decide) (by decide) w_X6_pays_k79 w_X6_pays_i79 (by decide) gw_X6_pays_83 xb_X6_83 xo_X6_83_79 dX6_pays_24 dX6_pays_27 dX6_pays_28 dX6_pays_31 dX6_pays_34 (by decide) (by decide) (by decide) (by decide) h
  · replace h := h.2 hc
    refine e_iload_n C (x := p3) rfl dX6_pays_13 (pc' := 14) rfl ?_
    refine e_iconst C (v := (0 : Int32)) (by decide) dX6_pays_14 (pc' := 15) rfl ?_
    refine e_ldcw C (v := (1000000 : Int32)) w_X6_pays_c266 dX6_pays_15 (pc' := 18) rfl ?_
    refine e_calli (run_S (n := 3) C (m_X6_isWithin hst h) gX6_pays_X6_isWithin rfl ⟨rfl, by decide, by decide, by decide +kernel⟩ ⟨by decide, by decide⟩ rfl (Nat.le_of_ble_eq_true rfl) dX6_pays_18 ⟨by decide, by decide⟩ (As := [.int p3, .int (0 : Int32), .int (1000000 : Int32)]) rfl) (pc' := 21) rfl (cn' := 2) (sn' := 12) rfl rfl (fun v3 ws h => ?_)
    refine e_if_ne C (tg := 35) dX6_pays_21 (by decide) (pc' := 24) rfl (fun hc => ?_) (fun hc => ?_)
    · replace h := h.1 hc
      refine e_aload_n C (x := p0) rfl dX6_pays_35 (pc' := 36) rfl ?_
      refine e_iload_n C (x := p1) rfl dX6_pays_36 (pc' := 37) rfl ?_
      obtain ⟨hv, h⟩ := h
      refine e_callv (run_V (n := 1) C (m_X6_weighOwners hst h) gX6_pays_X6_weighOwners rfl ⟨rfl, by decide, by decide, by decide +kernel⟩ ⟨by decide, by decide⟩ (ci := 6) rfl rfl hv rfl (Nat.le_of_ble_eq_true rfl) dX6_pays_37 ⟨by decide, by decide⟩ (As := [.int p1]) rfl) (pc' := 40) rfl (cn' := 2) (sn' := 12) rfl rfl (fun ws h => ?_)
      refine e_aload_n C (x := p0) rfl dX6_pays_40 (pc' := 41) rfl ?_
      refine e_iload_n C (x := p2) rfl dX6_pays_41 (pc' := 42) rfl ?_
      refine e_iload_n C (x := p3) rfl dX6_pays_42 (pc' := 43) rfl ?_
      refine e_iload_n C (x := p3) rfl dX6_pays_43 (pc' := 44) rfl ?_
      refine e_aload_n C (x := p0) rfl dX6_pays_44 (pc' := 45) rfl ?_
      refine f_getR C (ci := 6) (CN := RX6) (TT := TX6) (N := 16) 2 dX6_pays_45 (pc' := 48) rfl in_X6_pays_X6 rfl (by decide) fl_X6_pays_21 h (fun v5 h => ?_)
      refine e_iconst C (v := (3 : Int32)) (by decide) dX6_pays_48 (pc' := 49) rfl ?_
      refine f_iaload C dX6_pays_49 (pc' := 50) rfl h (fun v6 h => ?_)
      refine e_bipush C (v := (100 : Int32)) (by decide) dX6_pays_50 (pc' := 52) rfl ?_
      refine e_calli (run_S (n := 3) C (m_X6_partOf hst h) gX6_pays_X6_partOf rfl ⟨rfl, by decide, by decide, by decide +kernel⟩ ⟨by decide, by decide⟩ rfl (Nat.le_of_ble_eq_true rfl) dX6_pays_52 ⟨by decide, by decide⟩ (As := [.int p3, .int v6, .int (100 : Int32)]) rfl) (pc' := 55) rfl (cn' := 2) (sn' := 12) rfl rfl (fun v7 ws h => ?_)
      refine e_isub C dX6_pays_55 (pc' := 56) rfl ?_
      obtain ⟨hv, h⟩ := h
      refine e_calli (run_V (n := 2) C (m_X6_paidBy hst h) gX6_pays_X6_paidBy rfl ⟨rfl, by decide, by decide, by decide +kernel⟩ ⟨by decide, by decide⟩ (ci := 6) rfl rfl hv rfl (Nat.le_of_ble_eq_true rfl) dX6_pays_56 ⟨by decide, by decide⟩ (As := [.int p2, .int (p3 - v7)]) rfl) (pc' := 59) rfl (cn' := 2) (sn' := 12) rfl rfl (fun v8 ws h => ?_)
      exact x_int C F dX6_pays_59 (by decide) (by decide) h
    · replace h := h.2 hc
      exact x_throwSW C F (E := "java/lang/IllegalArgumentException") (tx := "owner or costs are none") (by decide) (by decide) w_X6_pays_k79 w_X6_pays_i79 (by decide) gw_X6_pays_83 xb_X6_83 xo_X6_83_79 dX6_pays_24 dX6_pays_27 dX6_pays_28 dX6_pays_31 dX6_pays_34 (by decide) (by decide) (by decide) (by decide) h
abbrev rm_X1_addField : Room := { frames := 0, cells := 0, slots := 0, locals := 0 }
set_option maxRecDepth 20000 in
theorem in_X1_addField_X1 : ∀ w ∈ wsX10, w ∈ wsX1_addField := by decide +kernel
set_option maxRecDepth 20000 in
theorem fl_X1_addField_24 : Cond.fieldLink RX1 24 (TX1 4).1 (TX1 4).2.1 (TX1 4).2.2.1 ∈ wsX1_addField := by decide +kernel
set_option maxRecDepth 20000 in
theorem fl_X1_addField_9 : Cond.fieldLink RX1 9 (TX1 0).1 (TX1 0).2.1 (TX1 0).2.2.1 ∈ wsX1_addField := by decide +kernel
set_option maxRecDepth 20000 in
theorem fl_X1_addField_15 : Cond.fieldLink RX1 15 (TX1 1).1 (TX1 1).2.1 (TX1 1).2.2.1 ∈ wsX1_addField := by decide +kernel
set_option maxRecDepth 20000 in
theorem fl_X1_addField_18 : Cond.fieldLink RX1 18 (TX1 2).1 (TX1 2).2.1 (TX1 2).2.2.1 ∈ wsX1_addField := by decide +kernel
def F_X1_addField (G : Gx) (p0 : Nat) (p1 : Int32) (p2 : Int32) (p3 : Int32) (ws : va_W) (Q : va_W → Prop) : Prop := qI 1 4 p0 ws (fun v1 => (((9 : Int32) ≤ v1 → Q ws) ∧ (¬ (9 : Int32) ≤ v1 → qR 1 0 p0 ws (fun v2 => qI 1 4 p0 ws (fun v3 => qS (gc G 1) v2 v3 p1 ws (fun ws => qR 1 1 p0 ws (fun v4 => qI 1 4 p0 ws (fun v5 => qS (gc G 1) v4 v5 p2 ws (fun ws => qR 1 2 p0 ws (fun v6 => qI 1 4 p0 ws (fun v7 => qS (gc G 1) v6 v7 p3 ws (fun ws => qI 1 4 p0 ws (fun v8 => qP 1 4 p0 (.int (v8 + (1 : Int32))) ws (fun ws => Q ws))))))))))))))
set_option maxRecDepth 20000 in
set_option maxHeartbeats 4000000 in
theorem m_X1_addField {G : Gx} (hst : (gl G).stackTraces = false) {p0 : Nat} {p1 : Int32} {p2 : Int32} {p3 : Int32} {ws : va_W} {Q : va_W → Prop} (h : F_X1_addField G p0 p1 p2 p3 ws Q) : Mt G yX1_addField wsX1_addField rm_X1_addField [.ref p0, .int p1, .int p2, .int p3] ws (QtV G Q) := by
  refine mk_Mt (cc := cX1_addField) (nL := 4) (own := RX1) (ret := none) (lv0 := [some (.ref p0), some (.int p1), some (.int p2), some (.int p3)]) hst (by decide) rfl rfl (Nat.le_of_ble_eq_true rfl) rfl ?_
  intro K C F
  refine e_aload_n C (x := p0) rfl dX1_addField_0 (pc' := 1) rfl ?_
  refine f_getI C (ci := 1) (CN := RX1) (TT := TX1) (N := 5) 4 dX1_addField_1 (pc' := 4) rfl in_X1_addField_X1 rfl (by decide) fl_X1_addField_24 h (fun v1 h => ?_)
  refine e_bipush C (v := (9 : Int32)) (by decide) dX1_addField_4 (pc' := 6) rfl ?_
  refine e_icmp_ge C (tg := 49) dX1_addField_6 (by decide) (pc' := 9) rfl (fun hc => ?_) (fun hc => ?_)
  · replace h := h.1 hc
    exact r_void C F dX1_addField_49 (by decide) (by decide) h
  · replace h := h.2 hc
    refine e_aload_n C (x := p0) rfl dX1_addField_9 (pc' := 10) rfl ?_
    refine f_getR C (ci := 1) (CN := RX1) (TT := TX1) (N := 5) 0 dX1_addField_10 (pc' := 13) rfl in_X1_addField_X1 rfl (by decide) fl_X1_addField_9 h (fun v2 h => ?_)
    refine e_aload_n C (x := p0) rfl dX1_addField_13 (pc' := 14) rfl ?_
    refine f_getI C (ci := 1) (CN := RX1) (TT := TX1) (N := 5) 4 dX1_addField_14 (pc' := 17) rfl in_X1_addField_X1 rfl (by decide) fl_X1_addField_24 h (fun v3 h => ?_)
    refine e_iload_n C (x := p1) rfl dX1_addField_17 (pc' := 18) rfl ?_
    refine f_iastore C dX1_addField_18 (pc' := 19) rfl h (fun ws h => ?_)
    refine e_aload_n C (x := p0) rfl dX1_addField_19 (pc' := 20) rfl ?_
    refine f_getR C (ci := 1) (CN := RX1) (TT := TX1) (N := 5) 1 dX1_addField_20 (pc' := 23) rfl in_X1_addField_X1 rfl (by decide) fl_X1_addField_15 h (fun v4 h => ?_)
    refine e_aload_n C (x := p0) rfl dX1_addField_23 (pc' := 24) rfl ?_
    refine f_getI C (ci := 1) (CN := RX1) (TT := TX1) (N := 5) 4 dX1_addField_24 (pc' := 27) rfl in_X1_addField_X1 rfl (by decide) fl_X1_addField_24 h (fun v5 h => ?_)
    refine e_iload_n C (x := p2) rfl dX1_addField_27 (pc' := 28) rfl ?_
    refine f_iastore C dX1_addField_28 (pc' := 29) rfl h (fun ws h => ?_)
    refine e_aload_n C (x := p0) rfl dX1_addField_29 (pc' := 30) rfl ?_
    refine f_getR C (ci := 1) (CN := RX1) (TT := TX1) (N := 5) 2 dX1_addField_30 (pc' := 33) rfl in_X1_addField_X1 rfl (by decide) fl_X1_addField_18 h (fun v6 h => ?_)
    refine e_aload_n C (x := p0) rfl dX1_addField_33 (pc' := 34) rfl ?_
    refine f_getI C (ci := 1) (CN := RX1) (TT := TX1) (N := 5) 4 dX1_addField_34 (pc' := 37) rfl in_X1_addField_X1 rfl (by decide) fl_X1_addField_24 h (fun v7 h => ?_)
    refine e_iload_n C (x := p3) rfl dX1_addField_37 (pc' := 38) rfl ?_
    refine f_iastore C dX1_addField_38 (pc' := 39) rfl h (fun ws h => ?_)
    refine e_aload_n C (x := p0) rfl dX1_addField_39 (pc' := 40) rfl ?_
    refine e_dup C rfl dX1_addField_40 (pc' := 41) rfl ?_
    refine f_getI C (ci := 1) (CN := RX1) (TT := TX1) (N := 5) 4 dX1_addField_41 (pc' := 44) rfl in_X1_addField_X1 rfl (by decide) fl_X1_addField_24 h (fun v8 h => ?_)
    refine e_iconst C (v := (1 : Int32)) (by decide) dX1_addField_44 (pc' := 45) rfl ?_
    refine e_iadd C dX1_addField_45 (pc' := 46) rfl ?_
    refine f_putI C (ci := 1) (CN := RX1) (TT := TX1) (N := 5) 4 tyX1 dX1_addField_46 (pc' := 49) rfl in_X1_addField_X1 tyX1_ok nmX1 rfl (by decide) fl_X1_addField_24 rfl (by decide +kernel) h (fun ws h => ?_)
    exact r_void C F dX1_addField_49 (by decide) (by decide) h
abbrev rm_X6_field : Room := { frames := 6, cells := 1, slots := 6, locals := 82 }
set_option maxRecDepth 20000 in
theorem w_X6_field_k79 : Cond.classLink RX6 79 "java/lang/IllegalArgumentException" ∈ wsX6_field := by decide +kernel
set_option maxRecDepth 20000 in
theorem w_X6_field_i79 : Cond.initialized "java/lang/IllegalArgumentException" ∈ wsX6_field := by decide +kernel
set_option maxRecDepth 20000 in
theorem gw_X6_field_83 : ∀ w ∈ (vx_atS RX6 83 "java/lang/IllegalArgumentException" xnms).filter goodWord, w ∈ wsX6_field := by decide +kernel
set_option maxRecDepth 20000 in
theorem in_X6_field_X6 : ∀ w ∈ wsX60, w ∈ wsX6_field := by decide +kernel
set_option maxRecDepth 20000 in
theorem fl_X6_field_62 : Cond.fieldLink RX6 62 (TX6 15).1 (TX6 15).2.1 (TX6 15).2.2.1 ∈ wsX6_field := by decide +kernel
set_option maxRecDepth 20000 in
theorem in_X6_field_X1 : ∀ w ∈ wsX10, w ∈ wsX6_field := by decide +kernel
set_option maxRecDepth 20000 in
theorem fl_X6_field_281 : Cond.fieldLink RX6 281 (TX1 4).1 (TX1 4).2.1 (TX1 4).2.2.1 ∈ wsX6_field := by decide +kernel
def F_X6_field (G : Gx) (p0 : Nat) (p1 : Int32) (p2 : Int32) (p3 : Int32) (ws : va_W) (Q : Int32 → va_W → Prop) (X : String → va_W → Prop) : Prop := (F_X6_isWithin G p1 (1 : Int32) (1000 : Int32) ws (fun v1 ws => ((v1 = 0 → X "java/lang/IllegalArgumentException" ws) ∧ (¬ v1 = 0 → (F_X6_isWithin G p2 (0 : Int32) (10000 : Int32) ws (fun v2 ws => ((v2 = 0 → X "java/lang/IllegalArgumentException" ws) ∧ (¬ v2 = 0 → (F_X6_isWithin G p3 (0 : Int32) (100 : Int32) ws (fun v3 ws => ((¬ v3 = 0 → qR 6 15 p0 ws (fun v4 => qI 1 4 v4 ws (fun v5 => ((v5 < (9 : Int32) → qR 6 15 p0 ws (fun v6 => (qV 1 v6 ws ∧ F_X1_addField G v6 p1 p2 p3 ws (fun ws => qR 6 15 p0 ws (fun v8 => qI 1 4 v8 ws (fun v9 => Q v9 ws)))))) ∧ (¬ v5 < (9 : Int32) → Q (-1 : Int32) ws))))) ∧ (v3 = 0 → X "java/lang/IllegalArgumentException" ws))))))))))))
set_option maxRecDepth 20000 in
set_option maxHeartbeats 4000000 in
theorem m_X6_field {G : Gx} (hst : (gl G).stackTraces = false) {p0 : Nat} {p1 : Int32} {p2 : Int32} {p3 : Int32} {ws : va_W} {Q : Int32 → va_W → Prop} {X : String → va_W → Prop} (h : F_X6_field G p0 p1 p2 p3 ws Q X) : Xt G yX6_field wsX6_field rm_X6_field [.ref p0, .int p1, .int p2, .int p3] ws (QtI G Q) X := by
  refine mk_Xt (cc := cX6_field) (nL := 4) (own := RX6) (ret := (some .int)) (lv0 := [some (.ref p0), some (.int p1), some (.int p2), some (.int p3)]) hst (by decide) rfl rfl (Nat.le_of_ble_eq_true rfl) rfl ?_
  intro K C F
  refine e_iload_n C (x := p1) rfl dX6_field_0 (pc' := 1) rfl ?_
  refine e_iconst C (v := (1 : Int32)) (by decide) dX6_field_1 (pc' := 2) rfl ?_
  refine e_sipush C (v := (1000 : Int32)) (by decide) dX6_field_2 (pc' := 5) rfl ?_
  refine e_calli (run_S (n := 3) C (m_X6_isWithin hst h) gX6_field_X6_isWithin rfl ⟨rfl, by decide, by decide, by decide +kernel⟩ ⟨by decide, by decide⟩ rfl (Nat.le_of_ble_eq_true rfl) dX6_field_5 ⟨by decide, by decide⟩ (As := [.int p1, .int (1 : Int32), .int (1000 : Int32)]) rfl) (pc' := 8) rfl (cn' := 0) (sn' := 0) rfl rfl (fun v1 ws h => ?_)
  refine e_if_eq C (tg := 32) dX6_field_8 (by decide) (pc' := 11) rfl (fun hc => ?_) (fun hc => ?_)
  · replace h := h.1 hc
    exact x_throwSW C F (E := "java/lang/IllegalArgumentException") (tx := "a number of the field is none") (by decide) (by decide) w_X6_field_k79 w_X6_field_i79 (by decide) gw_X6_field_83 xb_X6_83 xo_X6_83_79 dX6_field_32 dX6_field_35 dX6_field_36 dX6_field_39 dX6_field_42 (by decide) (by decide) (by decide) (by decide) h
  · replace h := h.2 hc
    refine e_iload_n C (x := p2) rfl dX6_field_11 (pc' := 12) rfl ?_
    refine e_iconst C (v := (0 : Int32)) (by decide) dX6_field_12 (pc' := 13) rfl ?_
    refine e_sipush C (v := (10000 : Int32)) (by decide) dX6_field_13 (pc' := 16) rfl ?_
    refine e_calli (run_S (n := 3) C (m_X6_isWithin hst h) gX6_field_X6_isWithin rfl ⟨rfl, by decide, by decide, by decide +kernel⟩ ⟨by decide, by decide⟩ rfl (Nat.le_of_ble_eq_true rfl) dX6_field_16 ⟨by decide, by decide⟩ (As := [.int p2, .int (0 : Int32), .int (10000 : Int32)]) rfl) (pc' := 19) rfl (cn' := 0) (sn' := 0) rfl rfl (fun v2 ws h => ?_)
    refine e_if_eq C (tg := 32) dX6_field_19 (by decide) (pc' := 22) rfl (fun hc => ?_) (fun hc => ?_)
    · replace h := h.1 hc
      exact x_throwSW C F (E := "java/lang/IllegalArgumentException") (tx := "a number of the field is none") (by decide) (by decide) w_X6_field_k79 w_X6_field_i79 (by decide) gw_X6_field_83 xb_X6_83 xo_X6_83_79 dX6_field_32 dX6_field_35 dX6_field_36 dX6_field_39 dX6_field_42 (by decide) (by decide) (by decide) (by decide) h
    · replace h := h.2 hc
      refine e_iload_n C (x := p3) rfl dX6_field_22 (pc' := 23) rfl ?_
      refine e_iconst C (v := (0 : Int32)) (by decide) dX6_field_23 (pc' := 24) rfl ?_
      refine e_bipush C (v := (100 : Int32)) (by decide) dX6_field_24 (pc' := 26) rfl ?_
      refine e_calli (run_S (n := 3) C (m_X6_isWithin hst h) gX6_field_X6_isWithin rfl ⟨rfl, by decide, by decide, by decide +kernel⟩ ⟨by decide, by decide⟩ rfl (Nat.le_of_ble_eq_true rfl) dX6_field_26 ⟨by decide, by decide⟩ (As := [.int p3, .int (0 : Int32), .int (100 : Int32)]) rfl) (pc' := 29) rfl (cn' := 0) (sn' := 0) rfl rfl (fun v3 ws h => ?_)
      refine e_if_ne C (tg := 43) dX6_field_29 (by decide) (pc' := 32) rfl (fun hc => ?_) (fun hc => ?_)
      · replace h := h.1 hc
        refine e_aload_n C (x := p0) rfl dX6_field_43 (pc' := 44) rfl ?_
        refine f_getR C (ci := 6) (CN := RX6) (TT := TX6) (N := 16) 15 dX6_field_44 (pc' := 47) rfl in_X6_field_X6 rfl (by decide) fl_X6_field_62 h (fun v4 h => ?_)
        refine f_getI C (ci := 1) (CN := RX1) (TT := TX1) (N := 5) 4 dX6_field_47 (pc' := 50) rfl in_X6_field_X1 rfl (by decide) fl_X6_field_281 h (fun v5 h => ?_)
        refine e_bipush C (v := (9 : Int32)) (by decide) dX6_field_50 (pc' := 52) rfl ?_
        refine e_icmp_lt C (tg := 57) dX6_field_52 (by decide) (pc' := 55) rfl (fun hc => ?_) (fun hc => ?_)
        · replace h := h.1 hc
          refine e_aload_n C (x := p0) rfl dX6_field_57 (pc' := 58) rfl ?_
          refine f_getR C (ci := 6) (CN := RX6) (TT := TX6) (N := 16) 15 dX6_field_58 (pc' := 61) rfl in_X6_field_X6 rfl (by decide) fl_X6_field_62 h (fun v6 h => ?_)
          refine e_iload_n C (x := p1) rfl dX6_field_61 (pc' := 62) rfl ?_
          refine e_iload_n C (x := p2) rfl dX6_field_62 (pc' := 63) rfl ?_
          refine e_iload_n C (x := p3) rfl dX6_field_63 (pc' := 64) rfl ?_
          obtain ⟨hv, h⟩ := h
          refine e_callv (run_V (n := 3) C (m_X1_addField hst h) gX6_field_X1_addField rfl ⟨rfl, by decide, by decide, by decide +kernel⟩ ⟨by decide, by decide⟩ (ci := 1) rfl rfl hv rfl (Nat.le_of_ble_eq_true rfl) dX6_field_64 ⟨by decide, by decide⟩ (As := [.int p1, .int p2, .int p3]) rfl) (pc' := 67) rfl (cn' := 0) (sn' := 0) rfl rfl (fun ws h => ?_)
          refine e_aload_n C (x := p0) rfl dX6_field_67 (pc' := 68) rfl ?_
          refine f_getR C (ci := 6) (CN := RX6) (TT := TX6) (N := 16) 15 dX6_field_68 (pc' := 71) rfl in_X6_field_X6 rfl (by decide) fl_X6_field_62 h (fun v8 h => ?_)
          refine f_getI C (ci := 1) (CN := RX1) (TT := TX1) (N := 5) 4 dX6_field_71 (pc' := 74) rfl in_X6_field_X1 rfl (by decide) fl_X6_field_281 h (fun v9 h => ?_)
          exact x_int C F dX6_field_74 (by decide) (by decide) h
        · replace h := h.2 hc
          refine e_iconst C (v := (-1 : Int32)) (by decide) dX6_field_55 (pc' := 56) rfl ?_
          exact x_int C F dX6_field_56 (by decide) (by decide) h
      · replace h := h.2 hc
        exact x_throwSW C F (E := "java/lang/IllegalArgumentException") (tx := "a number of the field is none") (by decide) (by decide) w_X6_field_k79 w_X6_field_i79 (by decide) gw_X6_field_83 xb_X6_83 xo_X6_83_79 dX6_field_32 dX6_field_35 dX6_field_36 dX6_field_39 dX6_field_42 (by decide) (by decide) (by decide) (by decide) h
abbrev rm_X1_minutesOf : Room := { frames := 0, cells := 0, slots := 0, locals := 0 }
set_option maxRecDepth 20000 in
theorem in_X1_minutesOf_X1 : ∀ w ∈ wsX10, w ∈ wsX1_minutesOf := by decide +kernel
set_option maxRecDepth 20000 in
theorem fl_X1_minutesOf_24 : Cond.fieldLink RX1 24 (TX1 4).1 (TX1 4).2.1 (TX1 4).2.2.1 ∈ wsX1_minutesOf := by decide +kernel
set_option maxRecDepth 20000 in
theorem fl_X1_minutesOf_9 : Cond.fieldLink RX1 9 (TX1 0).1 (TX1 0).2.1 (TX1 0).2.2.1 ∈ wsX1_minutesOf := by decide +kernel
def F_X1_minutesOf (G : Gx) (p0 : Nat) (p1 : Int32) (ws : va_W) (Q : Int32 → va_W → Prop) : Prop := ∀ (J4 : Int32 → Int32 → va_W → Prop), ∀ (J32 : Int32 → Int32 → Int32 → va_W → Prop), (∀ (x2 : Int32) (x3 : Int32) (ws : va_W), qI 1 4 p0 ws (fun v1 => ((v1 ≤ x3 → Q x2 ws) ∧ (¬ v1 ≤ x3 → ((¬ ((p1 >>> (x3 &&& 31)) &&& (1 : Int32)) = (1 : Int32) → J32 x3 (0 : Int32) x2 ws) ∧ (((p1 >>> (x3 &&& 31)) &&& (1 : Int32)) = (1 : Int32) → qR 1 0 p0 ws (fun v2 => qA (gc G 1) v2 x3 ws (fun v3 => J32 x3 v3 x2 ws))))))) → J4 x2 x3 ws) → (∀ (x3 : Int32) (t0 : Int32) (t1 : Int32) (ws : va_W), J4 (t1 + t0) (x3 + (1 : Int32)) ws → J32 x3 t0 t1 ws) → J4 (0 : Int32) (0 : Int32) ws
set_option maxRecDepth 20000 in
set_option maxHeartbeats 4000000 in
theorem m_X1_minutesOf {G : Gx} (hst : (gl G).stackTraces = false) {p0 : Nat} {p1 : Int32} {ws : va_W} {Q : Int32 → va_W → Prop} (h : F_X1_minutesOf G p0 p1 ws Q) : Mt G yX1_minutesOf wsX1_minutesOf rm_X1_minutesOf [.ref p0, .int p1] ws (QtI G Q) := by
  refine mk_Mt (cc := cX1_minutesOf) (nL := 4) (own := RX1) (ret := (some .int)) (lv0 := [some (.ref p0), some (.int p1), none, none]) hst (by decide) rfl rfl (Nat.le_of_ble_eq_true rfl) rfl ?_
  intro K C F
  replace h := h (fun x2 x3 ws => Ev K G 4 0 0 4 [some (.ref p0), some (.int p1), some (.int x2), some (.int x3)] [] ws) (fun x3 t0 t1 ws => Ev K G 4 0 0 32 [some (.ref p0), some (.int p1), none, some (.int x3)] [.int t0, .int t1] ws)
  replace h := h (by
    intro x2 x3 ws h
    show Ev K G 4 0 0 4 [some (.ref p0), some (.int p1), some (.int x2), some (.int x3)] [] ws
    refine e_iload_n C (x := x3) rfl dX1_minutesOf_4 (pc' := 5) rfl ?_
    refine e_aload_n C (x := p0) rfl dX1_minutesOf_5 (pc' := 6) rfl ?_
    refine f_getI C (ci := 1) (CN := RX1) (TT := TX1) (N := 5) 4 dX1_minutesOf_6 (pc' := 9) rfl in_X1_minutesOf_X1 rfl (by decide) fl_X1_minutesOf_24 h (fun v1 h => ?_)
    refine e_icmp_ge C (tg := 40) dX1_minutesOf_9 (by decide) (pc' := 12) rfl (fun hc => ?_) (fun hc => ?_)
    · replace h := h.1 hc
      refine e_iload_n C (x := x2) rfl dX1_minutesOf_40 (pc' := 41) rfl ?_
      exact r_int C F dX1_minutesOf_41 (by decide) (by decide) h
    · replace h := h.2 hc
      refine e_iload_n C (x := x2) rfl dX1_minutesOf_12 (pc' := 13) rfl ?_
      refine e_iload_n C (x := p1) rfl dX1_minutesOf_13 (pc' := 14) rfl ?_
      refine e_iload_n C (x := x3) rfl dX1_minutesOf_14 (pc' := 15) rfl ?_
      refine e_ishr C dX1_minutesOf_15 (pc' := 16) rfl ?_
      refine e_iconst C (v := (1 : Int32)) (by decide) dX1_minutesOf_16 (pc' := 17) rfl ?_
      refine e_iand C dX1_minutesOf_17 (pc' := 18) rfl ?_
      refine e_iconst C (v := (1 : Int32)) (by decide) dX1_minutesOf_18 (pc' := 19) rfl ?_
      refine e_icmp_ne C (tg := 31) dX1_minutesOf_19 (by decide) (pc' := 22) rfl (fun hc => ?_) (fun hc => ?_)
      · replace h := h.1 hc
        refine e_iconst C (v := (0 : Int32)) (by decide) dX1_minutesOf_31 (pc' := 32) rfl ?_
        refine e_mask [true, true, false, true] (lv' := [some (.ref p0), some (.int p1), none, some (.int x3)]) rfl ?_
        exact h
      · replace h := h.2 hc
        refine e_aload_n C (x := p0) rfl dX1_minutesOf_22 (pc' := 23) rfl ?_
        refine f_getR C (ci := 1) (CN := RX1) (TT := TX1) (N := 5) 0 dX1_minutesOf_23 (pc' := 26) rfl in_X1_minutesOf_X1 rfl (by decide) fl_X1_minutesOf_9 h (fun v2 h => ?_)
        refine e_iload_n C (x := x3) rfl dX1_minutesOf_26 (pc' := 27) rfl ?_
        refine f_iaload C dX1_minutesOf_27 (pc' := 28) rfl h (fun v3 h => ?_)
        refine e_goto C (tg := 32) dX1_minutesOf_28 (by decide) ?_
        refine e_mask [true, true, false, true] (lv' := [some (.ref p0), some (.int p1), none, some (.int x3)]) rfl ?_
        exact h)
  replace h := h (by
    intro x3 t0 t1 ws h
    show Ev K G 4 0 0 32 [some (.ref p0), some (.int p1), none, some (.int x3)] [.int t0, .int t1] ws
    refine e_iadd C dX1_minutesOf_32 (pc' := 33) rfl ?_
    refine e_istore_n C (by decide) dX1_minutesOf_33 (pc' := 34) rfl (lv' := [some (.ref p0), some (.int p1), some (.int (t1 + t0)), some (.int x3)]) rfl ?_
    refine e_iinc C dX1_minutesOf_34 (x := x3) (v := (x3 + (1 : Int32))) rfl rfl (by decide) (pc' := 37) rfl (lv' := [some (.ref p0), some (.int p1), some (.int (t1 + t0)), some (.int (x3 + (1 : Int32)))]) rfl ?_
    refine e_goto C (tg := 4) dX1_minutesOf_37 (by decide) ?_
    exact h)
  refine e_iconst C (v := (0 : Int32)) (by decide) dX1_minutesOf_0 (pc' := 1) rfl ?_
  refine e_istore_n C (by decide) dX1_minutesOf_1 (pc' := 2) rfl (lv' := [some (.ref p0), some (.int p1), some (.int (0 : Int32)), none]) rfl ?_
  refine e_iconst C (v := (0 : Int32)) (by decide) dX1_minutesOf_2 (pc' := 3) rfl ?_
  refine e_istore_n C (by decide) dX1_minutesOf_3 (pc' := 4) rfl (lv' := [some (.ref p0), some (.int p1), some (.int (0 : Int32)), some (.int (0 : Int32))]) rfl ?_
  exact h
abbrev rm_X1_leastLoss : Room := { frames := 1, cells := 0, slots := 0, locals := 23 }
set_option maxRecDepth 20000 in
theorem in_X1_leastLoss_X1 : ∀ w ∈ wsX10, w ∈ wsX1_leastLoss := by decide +kernel
set_option maxRecDepth 20000 in
theorem fl_X1_leastLoss_24 : Cond.fieldLink RX1 24 (TX1 4).1 (TX1 4).2.1 (TX1 4).2.2.1 ∈ wsX1_leastLoss := by decide +kernel
set_option maxRecDepth 20000 in
theorem fl_X1_leastLoss_21 : Cond.fieldLink RX1 21 (TX1 3).1 (TX1 3).2.1 (TX1 3).2.2.1 ∈ wsX1_leastLoss := by decide +kernel
set_option maxRecDepth 20000 in
theorem w_X1_leastLoss_c32 : Cond.constant RX1 32 (1000000000 : Int32) ∈ wsX1_leastLoss := by decide +kernel
set_option maxRecDepth 20000 in
theorem fl_X1_leastLoss_18 : Cond.fieldLink RX1 18 (TX1 2).1 (TX1 2).2.1 (TX1 2).2.2.1 ∈ wsX1_leastLoss := by decide +kernel
set_option maxRecDepth 20000 in
theorem fl_X1_leastLoss_15 : Cond.fieldLink RX1 15 (TX1 1).1 (TX1 1).2.1 (TX1 1).2.2.1 ∈ wsX1_leastLoss := by decide +kernel
set_option maxRecDepth 20000 in
theorem w_X1_leastLoss_ml33 : Cond.methodLink RX1 33 Lib.Math.max.name ∈ wsX1_leastLoss := by decide +kernel
set_option maxRecDepth 20000 in
theorem w_X1_leastLoss_ms_max : Cond.static Lib.Math.max.name ∈ wsX1_leastLoss := by decide +kernel
set_option maxRecDepth 20000 in
theorem w_X1_leastLoss_mi : Cond.initialized "java/lang/Math" ∈ wsX1_leastLoss := by decide +kernel
set_option maxRecDepth 20000 in
theorem w_X1_leastLoss_mc_max : Cond.code Lib.Math.max.name Lib.Math.max.code 2 (some .int) ∈ wsX1_leastLoss := by decide +kernel
set_option maxRecDepth 20000 in
theorem w_X1_leastLoss_ml39 : Cond.methodLink RX1 39 Lib.Math.min.name ∈ wsX1_leastLoss := by decide +kernel
set_option maxRecDepth 20000 in
theorem w_X1_leastLoss_ms_min : Cond.static Lib.Math.min.name ∈ wsX1_leastLoss := by decide +kernel
set_option maxRecDepth 20000 in
theorem w_X1_leastLoss_mc_min : Cond.code Lib.Math.min.name Lib.Math.min.code 2 (some .int) ∈ wsX1_leastLoss := by decide +kernel
def F_X1_leastLoss (G : Gx) (p0 : Nat) (ws : va_W) (Q : Int32 → va_W → Prop) : Prop := ∀ (J16 : Int32 → Int32 → va_W → Prop), ∀ (J38 : Int32 → Int32 → Int32 → Int32 → va_W → Prop), ∀ (J109 : Int32 → Int32 → Int32 → Int32 → va_W → Prop), (∀ (x1 : Int32) (x2 : Int32) (ws : va_W), ((x1 ≤ x2 → qR 1 3 p0 ws (fun v3 => qA (gc G 1) v3 (x1 - (1 : Int32)) ws (fun v4 => Q v4 ws))) ∧ (¬ x1 ≤ x2 → (qV 1 p0 ws ∧ F_X1_minutesOf G p0 x2 ws (fun v5 ws => qR 1 3 p0 ws (fun v6 => qS (gc G 1) v6 x2 (1000000000 : Int32) ws (fun ws => J38 x1 x2 v5 (0 : Int32) ws)))))) → J16 x1 x2 ws) → (∀ (x1 : Int32) (x2 : Int32) (x3 : Int32) (x4 : Int32) (ws : va_W), qI 1 4 p0 ws (fun v7 => ((v7 ≤ x4 → J16 x1 (x2 + (1 : Int32)) ws) ∧ (¬ v7 ≤ x4 → ((¬ ((x2 >>> (x4 &&& 31)) &&& (1 : Int32)) = (1 : Int32) → J109 x1 x2 x3 x4 ws) ∧ (((x2 >>> (x4 &&& 31)) &&& (1 : Int32)) = (1 : Int32) → qR 1 2 p0 ws (fun v8 => qA (gc G 1) v8 x4 ws (fun v9 => qR 1 1 p0 ws (fun v10 => qA (gc G 1) v10 x4 ws (fun v11 => qR 1 3 p0 ws (fun v12 => qR 1 3 p0 ws (fun v13 => qA (gc G 1) v13 x2 ws (fun v14 => qR 1 3 p0 ws (fun v15 => qA (gc G 1) v15 (x2 ^^^ ((1 : Int32) <<< (x4 &&& 31))) ws (fun v16 => qS (gc G 1) v12 x2 (if (v16 + (v9 * (if (0 : Int32) < (x3 - v11) then (x3 - v11) else (0 : Int32)))) < v14 then (v16 + (v9 * (if (0 : Int32) < (x3 - v11) then (x3 - v11) else (0 : Int32)))) else v14) ws (fun ws => J109 x1 x2 x3 x4 ws))))))))))))))) → J38 x1 x2 x3 x4 ws) → (∀ (x1 : Int32) (x2 : Int32) (x3 : Int32) (x4 : Int32) (ws : va_W), J38 x1 x2 x3 (x4 + (1 : Int32)) ws → J109 x1 x2 x3 x4 ws) → qI 1 4 p0 ws (fun v1 => qR 1 3 p0 ws (fun v2 => qS (gc G 1) v2 (0 : Int32) (0 : Int32) ws (fun ws => J16 ((1 : Int32) <<< (v1 &&& 31)) (1 : Int32) ws)))
set_option maxRecDepth 20000 in
set_option maxHeartbeats 4000000 in
theorem m_X1_leastLoss {G : Gx} (hst : (gl G).stackTraces = false) {p0 : Nat} {ws : va_W} {Q : Int32 → va_W → Prop} (h : F_X1_leastLoss G p0 ws Q) : Mt G yX1_leastLoss wsX1_leastLoss rm_X1_leastLoss [.ref p0] ws (QtI G Q) := by
  refine mk_Mt (cc := cX1_leastLoss) (nL := 6) (own := RX1) (ret := (some .int)) (lv0 := [some (.ref p0), none, none, none, none, none]) hst (by decide) rfl rfl (Nat.le_of_ble_eq_true rfl) rfl ?_
  intro K C F
  replace h := h (fun x1 x2 ws => Ev K G 6 0 0 16 [some (.ref p0), some (.int x1), some (.int x2), none, none, none] [] ws) (fun x1 x2 x3 x4 ws => Ev K G 6 0 0 38 [some (.ref p0), some (.int x1), some (.int x2), some (.int x3), some (.int x4), none] [] ws) (fun x1 x2 x3 x4 ws => Ev K G 6 0 0 109 [some (.ref p0), some (.int x1), some (.int x2), some (.int x3), some (.int x4), none] [] ws)
  replace h := h (by
    intro x1 x2 ws h
    show Ev K G 6 0 0 16 [some (.ref p0), some (.int x1), some (.int x2), none, none, none] [] ws
    refine e_iload_n C (x := x2) rfl dX1_leastLoss_16 (pc' := 17) rfl ?_
    refine e_iload_n C (x := x1) rfl dX1_leastLoss_17 (pc' := 18) rfl ?_
    refine e_icmp_ge C (tg := 121) dX1_leastLoss_18 (by decide) (pc' := 21) rfl (fun hc => ?_) (fun hc => ?_)
    · replace h := h.1 hc
      refine e_aload_n C (x := p0) rfl dX1_leastLoss_121 (pc' := 122) rfl ?_
      refine f_getR C (ci := 1) (CN := RX1) (TT := TX1) (N := 5) 3 dX1_leastLoss_122 (pc' := 125) rfl in_X1_leastLoss_X1 rfl (by decide) fl_X1_leastLoss_21 h (fun v3 h => ?_)
      refine e_iload_n C (x := x1) rfl dX1_leastLoss_125 (pc' := 126) rfl ?_
      refine e_iconst C (v := (1 : Int32)) (by decide) dX1_leastLoss_126 (pc' := 127) rfl ?_
      refine e_isub C dX1_leastLoss_127 (pc' := 128) rfl ?_
      refine f_iaload C dX1_leastLoss_128 (pc' := 129) rfl h (fun v4 h => ?_)
      exact r_int C F dX1_leastLoss_129 (by decide) (by decide) h
    · replace h := h.2 hc
      refine e_aload_n C (x := p0) rfl dX1_leastLoss_21 (pc' := 22) rfl ?_
      refine e_iload_n C (x := x2) rfl dX1_leastLoss_22 (pc' := 23) rfl ?_
      obtain ⟨hv, h⟩ := h
      refine e_calli (run_V (n := 1) C (m_X1_minutesOf hst h) gX1_leastLoss_X1_minutesOf rfl ⟨rfl, by decide, by decide, by decide +kernel⟩ ⟨by decide, by decide⟩ (ci := 1) rfl rfl hv rfl (Nat.le_of_ble_eq_true rfl) dX1_leastLoss_23 ⟨by decide, by decide⟩ (As := [.int x2]) rfl) (pc' := 26) rfl (cn' := 0) (sn' := 0) rfl rfl (fun v5 ws h => ?_)
      refine e_istore_n C (by decide) dX1_leastLoss_26 (pc' := 27) rfl (lv' := [some (.ref p0), some (.int x1), some (.int x2), some (.int v5), none, none]) rfl ?_
      refine e_aload_n C (x := p0) rfl dX1_leastLoss_27 (pc' := 28) rfl ?_
      refine f_getR C (ci := 1) (CN := RX1) (TT := TX1) (N := 5) 3 dX1_leastLoss_28 (pc' := 31) rfl in_X1_leastLoss_X1 rfl (by decide) fl_X1_leastLoss_21 h (fun v6 h => ?_)
      refine e_iload_n C (x := x2) rfl dX1_leastLoss_31 (pc' := 32) rfl ?_
      refine e_ldc C (v := (1000000000 : Int32)) w_X1_leastLoss_c32 dX1_leastLoss_32 (pc' := 34) rfl ?_
      refine f_iastore C dX1_leastLoss_34 (pc' := 35) rfl h (fun ws h => ?_)
      refine e_iconst C (v := (0 : Int32)) (by decide) dX1_leastLoss_35 (pc' := 36) rfl ?_
      refine e_istore C (by decide) dX1_leastLoss_36 (pc' := 38) rfl (lv' := [some (.ref p0), some (.int x1), some (.int x2), some (.int v5), some (.int (0 : Int32)), none]) rfl ?_
      exact h)
  replace h := h (by
    intro x1 x2 x3 x4 ws h
    show Ev K G 6 0 0 38 [some (.ref p0), some (.int x1), some (.int x2), some (.int x3), some (.int x4), none] [] ws
    refine e_iload C (x := x4) rfl dX1_leastLoss_38 (pc' := 40) rfl ?_
    refine e_aload_n C (x := p0) rfl dX1_leastLoss_40 (pc' := 41) rfl ?_
    refine f_getI C (ci := 1) (CN := RX1) (TT := TX1) (N := 5) 4 dX1_leastLoss_41 (pc' := 44) rfl in_X1_leastLoss_X1 rfl (by decide) fl_X1_leastLoss_24 h (fun v7 h => ?_)
    refine e_icmp_ge C (tg := 115) dX1_leastLoss_44 (by decide) (pc' := 47) rfl (fun hc => ?_) (fun hc => ?_)
    · replace h := h.1 hc
      refine e_iinc C dX1_leastLoss_115 (x := x2) (v := (x2 + (1 : Int32))) rfl rfl (by decide) (pc' := 118) rfl (lv' := [some (.ref p0), some (.int x1), some (.int (x2 + (1 : Int32))), some (.int x3), some (.int x4), none]) rfl ?_
      refine e_goto C (tg := 16) dX1_leastLoss_118 (by decide) ?_
      refine e_mask [true, true, true, false, false, false] (lv' := [some (.ref p0), some (.int x1), some (.int (x2 + (1 : Int32))), none, none, none]) rfl ?_
      exact h
    · replace h := h.2 hc
      refine e_iload_n C (x := x2) rfl dX1_leastLoss_47 (pc' := 48) rfl ?_
      refine e_iload C (x := x4) rfl dX1_leastLoss_48 (pc' := 50) rfl ?_
      refine e_ishr C dX1_leastLoss_50 (pc' := 51) rfl ?_
      refine e_iconst C (v := (1 : Int32)) (by decide) dX1_leastLoss_51 (pc' := 52) rfl ?_
      refine e_iand C dX1_leastLoss_52 (pc' := 53) rfl ?_
      refine e_iconst C (v := (1 : Int32)) (by decide) dX1_leastLoss_53 (pc' := 54) rfl ?_
      refine e_icmp_ne C (tg := 109) dX1_leastLoss_54 (by decide) (pc' := 57) rfl (fun hc => ?_) (fun hc => ?_)
      · replace h := h.1 hc
        exact h
      · replace h := h.2 hc
        refine e_aload_n C (x := p0) rfl dX1_leastLoss_57 (pc' := 58) rfl ?_
        refine f_getR C (ci := 1) (CN := RX1) (TT := TX1) (N := 5) 2 dX1_leastLoss_58 (pc' := 61) rfl in_X1_leastLoss_X1 rfl (by decide) fl_X1_leastLoss_18 h (fun v8 h => ?_)
        refine e_iload C (x := x4) rfl dX1_leastLoss_61 (pc' := 63) rfl ?_
        refine f_iaload C dX1_leastLoss_63 (pc' := 64) rfl h (fun v9 h => ?_)
        refine e_iconst C (v := (0 : Int32)) (by decide) dX1_leastLoss_64 (pc' := 65) rfl ?_
        refine e_iload_n C (x := x3) rfl dX1_leastLoss_65 (pc' := 66) rfl ?_
        refine e_aload_n C (x := p0) rfl dX1_leastLoss_66 (pc' := 67) rfl ?_
        refine f_getR C (ci := 1) (CN := RX1) (TT := TX1) (N := 5) 1 dX1_leastLoss_67 (pc' := 70) rfl in_X1_leastLoss_X1 rfl (by decide) fl_X1_leastLoss_15 h (fun v10 h => ?_)
        refine e_iload C (x := x4) rfl dX1_leastLoss_70 (pc' := 72) rfl ?_
        refine f_iaload C dX1_leastLoss_72 (pc' := 73) rfl h (fun v11 h => ?_)
        refine e_isub C dX1_leastLoss_73 (pc' := 74) rfl ?_
        refine e_mmax C dX1_leastLoss_74 (pc' := 77) rfl w_X1_leastLoss_ml33 w_X1_leastLoss_ms_max w_X1_leastLoss_mi w_X1_leastLoss_mc_max (by decide) (Nat.le_of_ble_eq_true rfl) (by decide) (by decide) ?_
        refine e_imul C dX1_leastLoss_77 (pc' := 78) rfl ?_
        refine e_istore C (by decide) dX1_leastLoss_78 (pc' := 80) rfl (lv' := [some (.ref p0), some (.int x1), some (.int x2), some (.int x3), some (.int x4), some (.int (v9 * (if (0 : Int32) < (x3 - v11) then (x3 - v11) else (0 : Int32))))]) rfl ?_
        refine e_aload_n C (x := p0) rfl dX1_leastLoss_80 (pc' := 81) rfl ?_
        refine f_getR C (ci := 1) (CN := RX1) (TT := TX1) (N := 5) 3 dX1_leastLoss_81 (pc' := 84) rfl in_X1_leastLoss_X1 rfl (by decide) fl_X1_leastLoss_21 h (fun v12 h => ?_)
        refine e_iload_n C (x := x2) rfl dX1_leastLoss_84 (pc' := 85) rfl ?_
        refine e_aload_n C (x := p0) rfl dX1_leastLoss_85 (pc' := 86) rfl ?_
        refine f_getR C (ci := 1) (CN := RX1) (TT := TX1) (N := 5) 3 dX1_leastLoss_86 (pc' := 89) rfl in_X1_leastLoss_X1 rfl (by decide) fl_X1_leastLoss_21 h (fun v13 h => ?_)
        refine e_iload_n C (x := x2) rfl dX1_leastLoss_89 (pc' := 90) rfl ?_
        refine f_iaload C dX1_leastLoss_90 (pc' := 91) rfl h (fun v14 h => ?_)
        refine e_aload_n C (x := p0) rfl dX1_leastLoss_91 (pc' := 92) rfl ?_
        refine f_getR C (ci := 1) (CN := RX1) (TT := TX1) (N := 5) 3 dX1_leastLoss_92 (pc' := 95) rfl in_X1_leastLoss_X1 rfl (by decide) fl_X1_leastLoss_21 h (fun v15 h => ?_)
        refine e_iload_n C (x := x2) rfl dX1_leastLoss_95 (pc' := 96) rfl ?_
        refine e_iconst C (v := (1 : Int32)) (by decide) dX1_leastLoss_96 (pc' := 97) rfl ?_
        refine e_iload C (x := x4) rfl dX1_leastLoss_97 (pc' := 99) rfl ?_
        refine e_ishl C dX1_leastLoss_99 (pc' := 100) rfl ?_
        refine e_ixor C dX1_leastLoss_100 (pc' := 101) rfl ?_
        refine f_iaload C dX1_leastLoss_101 (pc' := 102) rfl h (fun v16 h => ?_)
        refine e_iload C (x := (v9 * (if (0 : Int32) < (x3 - v11) then (x3 - v11) else (0 : Int32)))) rfl dX1_leastLoss_102 (pc' := 104) rfl ?_
        refine e_iadd C dX1_leastLoss_104 (pc' := 105) rfl ?_
        refine e_mmin C dX1_leastLoss_105 (pc' := 108) rfl w_X1_leastLoss_ml39 w_X1_leastLoss_ms_min w_X1_leastLoss_mi w_X1_leastLoss_mc_min (by decide) (Nat.le_of_ble_eq_true rfl) (by decide) (by decide) ?_
        refine f_iastore C dX1_leastLoss_108 (pc' := 109) rfl h (fun ws h => ?_)
        refine e_mask [true, true, true, true, true, false] (lv' := [some (.ref p0), some (.int x1), some (.int x2), some (.int x3), some (.int x4), none]) rfl ?_
        exact h)
  replace h := h (by
    intro x1 x2 x3 x4 ws h
    show Ev K G 6 0 0 109 [some (.ref p0), some (.int x1), some (.int x2), some (.int x3), some (.int x4), none] [] ws
    refine e_iinc C dX1_leastLoss_109 (x := x4) (v := (x4 + (1 : Int32))) rfl rfl (by decide) (pc' := 112) rfl (lv' := [some (.ref p0), some (.int x1), some (.int x2), some (.int x3), some (.int (x4 + (1 : Int32))), none]) rfl ?_
    refine e_goto C (tg := 38) dX1_leastLoss_112 (by decide) ?_
    exact h)
  refine e_iconst C (v := (1 : Int32)) (by decide) dX1_leastLoss_0 (pc' := 1) rfl ?_
  refine e_aload_n C (x := p0) rfl dX1_leastLoss_1 (pc' := 2) rfl ?_
  refine f_getI C (ci := 1) (CN := RX1) (TT := TX1) (N := 5) 4 dX1_leastLoss_2 (pc' := 5) rfl in_X1_leastLoss_X1 rfl (by decide) fl_X1_leastLoss_24 h (fun v1 h => ?_)
  refine e_ishl C dX1_leastLoss_5 (pc' := 6) rfl ?_
  refine e_istore_n C (by decide) dX1_leastLoss_6 (pc' := 7) rfl (lv' := [some (.ref p0), some (.int ((1 : Int32) <<< (v1 &&& 31))), none, none, none, none]) rfl ?_
  refine e_aload_n C (x := p0) rfl dX1_leastLoss_7 (pc' := 8) rfl ?_
  refine f_getR C (ci := 1) (CN := RX1) (TT := TX1) (N := 5) 3 dX1_leastLoss_8 (pc' := 11) rfl in_X1_leastLoss_X1 rfl (by decide) fl_X1_leastLoss_21 h (fun v2 h => ?_)
  refine e_iconst C (v := (0 : Int32)) (by decide) dX1_leastLoss_11 (pc' := 12) rfl ?_
  refine e_iconst C (v := (0 : Int32)) (by decide) dX1_leastLoss_12 (pc' := 13) rfl ?_
  refine f_iastore C dX1_leastLoss_13 (pc' := 14) rfl h (fun ws h => ?_)
  refine e_iconst C (v := (1 : Int32)) (by decide) dX1_leastLoss_14 (pc' := 15) rfl ?_
  refine e_istore_n C (by decide) dX1_leastLoss_15 (pc' := 16) rfl (lv' := [some (.ref p0), some (.int ((1 : Int32) <<< (v1 &&& 31))), some (.int (1 : Int32)), none, none, none]) rfl ?_
  exact h
abbrev rm_X6_least : Room := { frames := 2, cells := 0, slots := 0, locals := 48 }
set_option maxRecDepth 20000 in
theorem in_X6_least_X6 : ∀ w ∈ wsX60, w ∈ wsX6_least := by decide +kernel
set_option maxRecDepth 20000 in
theorem fl_X6_least_62 : Cond.fieldLink RX6 62 (TX6 15).1 (TX6 15).2.1 (TX6 15).2.2.1 ∈ wsX6_least := by decide +kernel
set_option maxRecDepth 20000 in
theorem in_X6_least_X1 : ∀ w ∈ wsX10, w ∈ wsX6_least := by decide +kernel
set_option maxRecDepth 20000 in
theorem fl_X6_least_281 : Cond.fieldLink RX6 281 (TX1 4).1 (TX1 4).2.1 (TX1 4).2.2.1 ∈ wsX6_least := by decide +kernel
def F_X6_least (G : Gx) (p0 : Nat) (ws : va_W) (Q : Int32 → va_W → Prop) : Prop := qR 6 15 p0 ws (fun v1 => (qV 1 v1 ws ∧ F_X1_leastLoss G v1 ws (fun v2 ws => qR 6 15 p0 ws (fun v3 => qP 1 4 v3 (.int (0 : Int32)) ws (fun ws => Q v2 ws)))))
set_option maxRecDepth 20000 in
set_option maxHeartbeats 4000000 in
theorem m_X6_least {G : Gx} (hst : (gl G).stackTraces = false) {p0 : Nat} {ws : va_W} {Q : Int32 → va_W → Prop} (h : F_X6_least G p0 ws Q) : Mt G yX6_least wsX6_least rm_X6_least [.ref p0] ws (QtI G Q) := by
  refine mk_Mt (cc := cX6_least) (nL := 2) (own := RX6) (ret := (some .int)) (lv0 := [some (.ref p0), none]) hst (by decide) rfl rfl (Nat.le_of_ble_eq_true rfl) rfl ?_
  intro K C F
  refine e_aload_n C (x := p0) rfl dX6_least_0 (pc' := 1) rfl ?_
  refine f_getR C (ci := 6) (CN := RX6) (TT := TX6) (N := 16) 15 dX6_least_1 (pc' := 4) rfl in_X6_least_X6 rfl (by decide) fl_X6_least_62 h (fun v1 h => ?_)
  obtain ⟨hv, h⟩ := h
  refine e_calli (run_V (n := 0) C (m_X1_leastLoss hst h) gX6_least_X1_leastLoss rfl ⟨rfl, by decide, by decide, by decide +kernel⟩ ⟨by decide, by decide⟩ (ci := 1) rfl rfl hv rfl (Nat.le_of_ble_eq_true rfl) dX6_least_4 ⟨by decide, by decide⟩ (As := []) rfl) (pc' := 7) rfl (cn' := 0) (sn' := 0) rfl rfl (fun v2 ws h => ?_)
  refine e_istore_n C (by decide) dX6_least_7 (pc' := 8) rfl (lv' := [some (.ref p0), some (.int v2)]) rfl ?_
  refine e_aload_n C (x := p0) rfl dX6_least_8 (pc' := 9) rfl ?_
  refine f_getR C (ci := 6) (CN := RX6) (TT := TX6) (N := 16) 15 dX6_least_9 (pc' := 12) rfl in_X6_least_X6 rfl (by decide) fl_X6_least_62 h (fun v3 h => ?_)
  refine e_iconst C (v := (0 : Int32)) (by decide) dX6_least_12 (pc' := 13) rfl ?_
  refine f_putI C (ci := 1) (CN := RX1) (TT := TX1) (N := 5) 4 tyX1 dX6_least_13 (pc' := 16) rfl in_X6_least_X1 tyX1_ok nmX1 rfl (by decide) fl_X6_least_281 rfl (by decide +kernel) h (fun ws h => ?_)
  refine e_iload_n C (x := v2) rfl dX6_least_16 (pc' := 17) rfl ?_
  exact r_int C F dX6_least_17 (by decide) (by decide) h
abbrev rm_X6_letShares : Room := { frames := 1, cells := 0, slots := 0, locals := 21 }
set_option maxRecDepth 20000 in
theorem in_X6_letShares_X6 : ∀ w ∈ wsX60, w ∈ wsX6_letShares := by decide +kernel
set_option maxRecDepth 20000 in
theorem fl_X6_letShares_123 : Cond.fieldLink RX6 123 (TX6 11).1 (TX6 11).2.1 (TX6 11).2.2.1 ∈ wsX6_letShares := by decide +kernel
set_option maxRecDepth 20000 in
theorem fl_X6_letShares_44 : Cond.fieldLink RX6 44 (TX6 10).1 (TX6 10).2.1 (TX6 10).2.2.1 ∈ wsX6_letShares := by decide +kernel
set_option maxRecDepth 20000 in
theorem fl_X6_letShares_208 : Cond.fieldLink RX6 208 (TX6 12).1 (TX6 12).2.1 (TX6 12).2.2.1 ∈ wsX6_letShares := by decide +kernel
def F_X6_letShares (G : Gx) (p0 : Nat) (ws : va_W) (Q : Int32 → va_W → Prop) : Prop := ∀ (J4 : Int32 → Int32 → va_W → Prop), ∀ (J31 : Int32 → Int32 → va_W → Prop), (∀ (x1 : Int32) (x2 : Int32) (ws : va_W), qI 6 11 p0 ws (fun v1 => ((v1 ≤ x2 → Q x1 ws) ∧ (¬ v1 ≤ x2 → qR 6 10 p0 ws (fun v2 => qQ (gc G 4) v2 x2 ws (fun v3 => qI 6 12 p0 ws (fun v4 => (qV 4 v3 ws ∧ F_X4_isLetFrom G v3 v4 ws (fun v5 ws => ((v5 = 0 → J31 x1 x2 ws) ∧ (¬ v5 = 0 → J31 (x1 + (1 : Int32)) x2 ws)))))))))) → J4 x1 x2 ws) → (∀ (x1 : Int32) (x2 : Int32) (ws : va_W), J4 x1 (x2 + (1 : Int32)) ws → J31 x1 x2 ws) → J4 (0 : Int32) (0 : Int32) ws
set_option maxRecDepth 20000 in
set_option maxHeartbeats 4000000 in
theorem m_X6_letShares {G : Gx} (hst : (gl G).stackTraces = false) {p0 : Nat} {ws : va_W} {Q : Int32 → va_W → Prop} (h : F_X6_letShares G p0 ws Q) : Mt G yX6_letShares wsX6_letShares rm_X6_letShares [.ref p0] ws (QtI G Q) := by
  refine mk_Mt (cc := cX6_letShares) (nL := 3) (own := RX6) (ret := (some .int)) (lv0 := [some (.ref p0), none, none]) hst (by decide) rfl rfl (Nat.le_of_ble_eq_true rfl) rfl ?_
  intro K C F
  replace h := h (fun x1 x2 ws => Ev K G 3 0 0 4 [some (.ref p0), some (.int x1), some (.int x2)] [] ws) (fun x1 x2 ws => Ev K G 3 0 0 31 [some (.ref p0), some (.int x1), some (.int x2)] [] ws)
  replace h := h (by
    intro x1 x2 ws h
    show Ev K G 3 0 0 4 [some (.ref p0), some (.int x1), some (.int x2)] [] ws
    refine e_iload_n C (x := x2) rfl dX6_letShares_4 (pc' := 5) rfl ?_
    refine e_aload_n C (x := p0) rfl dX6_letShares_5 (pc' := 6) rfl ?_
    refine f_getI C (ci := 6) (CN := RX6) (TT := TX6) (N := 16) 11 dX6_letShares_6 (pc' := 9) rfl in_X6_letShares_X6 rfl (by decide) fl_X6_letShares_123 h (fun v1 h => ?_)
    refine e_icmp_ge C (tg := 37) dX6_letShares_9 (by decide) (pc' := 12) rfl (fun hc => ?_) (fun hc => ?_)
    · replace h := h.1 hc
      refine e_iload_n C (x := x1) rfl dX6_letShares_37 (pc' := 38) rfl ?_
      exact r_int C F dX6_letShares_38 (by decide) (by decide) h
    · replace h := h.2 hc
      refine e_aload_n C (x := p0) rfl dX6_letShares_12 (pc' := 13) rfl ?_
      refine f_getR C (ci := 6) (CN := RX6) (TT := TX6) (N := 16) 10 dX6_letShares_13 (pc' := 16) rfl in_X6_letShares_X6 rfl (by decide) fl_X6_letShares_44 h (fun v2 h => ?_)
      refine e_iload_n C (x := x2) rfl dX6_letShares_16 (pc' := 17) rfl ?_
      refine f_aaloadS C dX6_letShares_17 (pc' := 18) rfl h (fun v3 h => ?_)
      refine e_aload_n C (x := p0) rfl dX6_letShares_18 (pc' := 19) rfl ?_
      refine f_getI C (ci := 6) (CN := RX6) (TT := TX6) (N := 16) 12 dX6_letShares_19 (pc' := 22) rfl in_X6_letShares_X6 rfl (by decide) fl_X6_letShares_208 h (fun v4 h => ?_)
      obtain ⟨hv, h⟩ := h
      refine e_calli (run_V (n := 1) C (m_X4_isLetFrom hst h) gX6_letShares_X4_isLetFrom rfl ⟨rfl, by decide, by decide, by decide +kernel⟩ ⟨by decide, by decide⟩ (ci := 4) rfl rfl hv rfl (Nat.le_of_ble_eq_true rfl) dX6_letShares_22 ⟨by decide, by decide⟩ (As := [.int v4]) rfl) (pc' := 25) rfl (cn' := 0) (sn' := 0) rfl rfl (fun v5 ws h => ?_)
      refine e_if_eq C (tg := 31) dX6_letShares_25 (by decide) (pc' := 28) rfl (fun hc => ?_) (fun hc => ?_)
      · replace h := h.1 hc
        exact h
      · replace h := h.2 hc
        refine e_iinc C dX6_letShares_28 (x := x1) (v := (x1 + (1 : Int32))) rfl rfl (by decide) (pc' := 31) rfl (lv' := [some (.ref p0), some (.int (x1 + (1 : Int32))), some (.int x2)]) rfl ?_
        exact h)
  replace h := h (by
    intro x1 x2 ws h
    show Ev K G 3 0 0 31 [some (.ref p0), some (.int x1), some (.int x2)] [] ws
    refine e_iinc C dX6_letShares_31 (x := x2) (v := (x2 + (1 : Int32))) rfl rfl (by decide) (pc' := 34) rfl (lv' := [some (.ref p0), some (.int x1), some (.int (x2 + (1 : Int32)))]) rfl ?_
    refine e_goto C (tg := 4) dX6_letShares_34 (by decide) ?_
    exact h)
  refine e_iconst C (v := (0 : Int32)) (by decide) dX6_letShares_0 (pc' := 1) rfl ?_
  refine e_istore_n C (by decide) dX6_letShares_1 (pc' := 2) rfl (lv' := [some (.ref p0), some (.int (0 : Int32)), none]) rfl ?_
  refine e_iconst C (v := (0 : Int32)) (by decide) dX6_letShares_2 (pc' := 3) rfl ?_
  refine e_istore_n C (by decide) dX6_letShares_3 (pc' := 4) rfl (lv' := [some (.ref p0), some (.int (0 : Int32)), some (.int (0 : Int32))]) rfl ?_
  exact h
abbrev rm_X6_flowOfAll : Room := { frames := 5, cells := 0, slots := 0, locals := 113 }
set_option maxRecDepth 20000 in
theorem in_X6_flowOfAll_X6 : ∀ w ∈ wsX60, w ∈ wsX6_flowOfAll := by decide +kernel
set_option maxRecDepth 20000 in
theorem fl_X6_flowOfAll_86 : Cond.fieldLink RX6 86 (TX6 5).1 (TX6 5).2.1 (TX6 5).2.2.1 ∈ wsX6_flowOfAll := by decide +kernel
set_option maxRecDepth 20000 in
theorem fl_X6_flowOfAll_31 : Cond.fieldLink RX6 31 (TX6 4).1 (TX6 4).2.1 (TX6 4).2.2.1 ∈ wsX6_flowOfAll := by decide +kernel
set_option maxRecDepth 20000 in
theorem fl_X6_flowOfAll_135 : Cond.fieldLink RX6 135 (TX6 6).1 (TX6 6).2.1 (TX6 6).2.2.1 ∈ wsX6_flowOfAll := by decide +kernel
def F_X6_flowOfAll (G : Gx) (p0 : Nat) (ws : va_W) (Q : Int32 → va_W → Prop) : Prop := ∀ (J4 : Int32 → Int32 → va_W → Prop), ∀ (J41 : Int32 → Int32 → va_W → Prop), (∀ (x1 : Int32) (x2 : Int32) (ws : va_W), qI 6 5 p0 ws (fun v1 => ((v1 ≤ x2 → Q x1 ws) ∧ (¬ v1 ≤ x2 → qR 6 4 p0 ws (fun v2 => qQ (gc G 3) v2 x2 ws (fun v3 => (qV 0 v3 ws ∧ F_X0_isDug G v3 ws (fun v4 ws => ((v4 = 0 → J41 x1 x2 ws) ∧ (¬ v4 = 0 → qR 6 4 p0 ws (fun v5 => qQ (gc G 3) v5 x2 ws (fun v6 => qI 6 6 p0 ws (fun v7 => (qV 6 p0 ws ∧ F_X6_flowOf G p0 v6 v7 ws (fun v8 ws => J41 (x1 + v8) x2 ws)))))))))))))) → J4 x1 x2 ws) → (∀ (x1 : Int32) (x2 : Int32) (ws : va_W), J4 x1 (x2 + (1 : Int32)) ws → J41 x1 x2 ws) → J4 (0 : Int32) (0 : Int32) ws
set_option maxRecDepth 20000 in
set_option maxHeartbeats 4000000 in
theorem m_X6_flowOfAll {G : Gx} (hst : (gl G).stackTraces = false) {p0 : Nat} {ws : va_W} {Q : Int32 → va_W → Prop} (h : F_X6_flowOfAll G p0 ws Q) : Mt G yX6_flowOfAll wsX6_flowOfAll rm_X6_flowOfAll [.ref p0] ws (QtI G Q) := by
  refine mk_Mt (cc := cX6_flowOfAll) (nL := 3) (own := RX6) (ret := (some .int)) (lv0 := [some (.ref p0), none, none]) hst (by decide) rfl rfl (Nat.le_of_ble_eq_true rfl) rfl ?_
  intro K C F
  replace h := h (fun x1 x2 ws => Ev K G 3 0 0 4 [some (.ref p0), some (.int x1), some (.int x2)] [] ws) (fun x1 x2 ws => Ev K G 3 0 0 41 [some (.ref p0), some (.int x1), some (.int x2)] [] ws)
  replace h := h (by
    intro x1 x2 ws h
    show Ev K G 3 0 0 4 [some (.ref p0), some (.int x1), some (.int x2)] [] ws
    refine e_iload_n C (x := x2) rfl dX6_flowOfAll_4 (pc' := 5) rfl ?_
    refine e_aload_n C (x := p0) rfl dX6_flowOfAll_5 (pc' := 6) rfl ?_
    refine f_getI C (ci := 6) (CN := RX6) (TT := TX6) (N := 16) 5 dX6_flowOfAll_6 (pc' := 9) rfl in_X6_flowOfAll_X6 rfl (by decide) fl_X6_flowOfAll_86 h (fun v1 h => ?_)
    refine e_icmp_ge C (tg := 47) dX6_flowOfAll_9 (by decide) (pc' := 12) rfl (fun hc => ?_) (fun hc => ?_)
    · replace h := h.1 hc
      refine e_iload_n C (x := x1) rfl dX6_flowOfAll_47 (pc' := 48) rfl ?_
      exact r_int C F dX6_flowOfAll_48 (by decide) (by decide) h
    · replace h := h.2 hc
      refine e_aload_n C (x := p0) rfl dX6_flowOfAll_12 (pc' := 13) rfl ?_
      refine f_getR C (ci := 6) (CN := RX6) (TT := TX6) (N := 16) 4 dX6_flowOfAll_13 (pc' := 16) rfl in_X6_flowOfAll_X6 rfl (by decide) fl_X6_flowOfAll_31 h (fun v2 h => ?_)
      refine e_iload_n C (x := x2) rfl dX6_flowOfAll_16 (pc' := 17) rfl ?_
      refine f_aaloadC C dX6_flowOfAll_17 (pc' := 18) rfl h (fun v3 h => ?_)
      obtain ⟨hv, h⟩ := h
      refine e_calli (run_V (n := 0) C (m_X0_isDug hst h) gX6_flowOfAll_X0_isDug rfl ⟨rfl, by decide, by decide, by decide +kernel⟩ ⟨by decide, by decide⟩ (ci := 0) rfl rfl hv rfl (Nat.le_of_ble_eq_true rfl) dX6_flowOfAll_18 ⟨by decide, by decide⟩ (As := []) rfl) (pc' := 21) rfl (cn' := 0) (sn' := 0) rfl rfl (fun v4 ws h => ?_)
      refine e_if_eq C (tg := 41) dX6_flowOfAll_21 (by decide) (pc' := 24) rfl (fun hc => ?_) (fun hc => ?_)
      · replace h := h.1 hc
        exact h
      · replace h := h.2 hc
        refine e_iload_n C (x := x1) rfl dX6_flowOfAll_24 (pc' := 25) rfl ?_
        refine e_aload_n C (x := p0) rfl dX6_flowOfAll_25 (pc' := 26) rfl ?_
        refine e_aload_n C (x := p0) rfl dX6_flowOfAll_26 (pc' := 27) rfl ?_
        refine f_getR C (ci := 6) (CN := RX6) (TT := TX6) (N := 16) 4 dX6_flowOfAll_27 (pc' := 30) rfl in_X6_flowOfAll_X6 rfl (by decide) fl_X6_flowOfAll_31 h (fun v5 h => ?_)
        refine e_iload_n C (x := x2) rfl dX6_flowOfAll_30 (pc' := 31) rfl ?_
        refine f_aaloadC C dX6_flowOfAll_31 (pc' := 32) rfl h (fun v6 h => ?_)
        refine e_aload_n C (x := p0) rfl dX6_flowOfAll_32 (pc' := 33) rfl ?_
        refine f_getI C (ci := 6) (CN := RX6) (TT := TX6) (N := 16) 6 dX6_flowOfAll_33 (pc' := 36) rfl in_X6_flowOfAll_X6 rfl (by decide) fl_X6_flowOfAll_135 h (fun v7 h => ?_)
        obtain ⟨hv, h⟩ := h
        refine e_calli (run_V (n := 2) C (m_X6_flowOf hst h) gX6_flowOfAll_X6_flowOf rfl ⟨rfl, by decide, by decide, by decide +kernel⟩ ⟨by decide, by decide⟩ (ci := 6) rfl rfl hv rfl (Nat.le_of_ble_eq_true rfl) dX6_flowOfAll_36 ⟨by decide, by decide⟩ (As := [.ref v6, .int v7]) rfl) (pc' := 39) rfl (cn' := 0) (sn' := 0) rfl rfl (fun v8 ws h => ?_)
        refine e_iadd C dX6_flowOfAll_39 (pc' := 40) rfl ?_
        refine e_istore_n C (by decide) dX6_flowOfAll_40 (pc' := 41) rfl (lv' := [some (.ref p0), some (.int (x1 + v8)), some (.int x2)]) rfl ?_
        exact h)
  replace h := h (by
    intro x1 x2 ws h
    show Ev K G 3 0 0 41 [some (.ref p0), some (.int x1), some (.int x2)] [] ws
    refine e_iinc C dX6_flowOfAll_41 (x := x2) (v := (x2 + (1 : Int32))) rfl rfl (by decide) (pc' := 44) rfl (lv' := [some (.ref p0), some (.int x1), some (.int (x2 + (1 : Int32)))]) rfl ?_
    refine e_goto C (tg := 4) dX6_flowOfAll_44 (by decide) ?_
    exact h)
  refine e_iconst C (v := (0 : Int32)) (by decide) dX6_flowOfAll_0 (pc' := 1) rfl ?_
  refine e_istore_n C (by decide) dX6_flowOfAll_1 (pc' := 2) rfl (lv' := [some (.ref p0), some (.int (0 : Int32)), none]) rfl ?_
  refine e_iconst C (v := (0 : Int32)) (by decide) dX6_flowOfAll_2 (pc' := 3) rfl ?_
  refine e_istore_n C (by decide) dX6_flowOfAll_3 (pc' := 4) rfl (lv' := [some (.ref p0), some (.int (0 : Int32)), some (.int (0 : Int32))]) rfl ?_
  exact h
abbrev rm_X6_count : Room := { frames := 6, cells := 0, slots := 0, locals := 135 }
set_option maxRecDepth 20000 in
theorem in_X6_count_X6 : ∀ w ∈ wsX60, w ∈ wsX6_count := by decide +kernel
set_option maxRecDepth 20000 in
theorem fl_X6_count_86 : Cond.fieldLink RX6 86 (TX6 5).1 (TX6 5).2.1 (TX6 5).2.2.1 ∈ wsX6_count := by decide +kernel
set_option maxRecDepth 20000 in
theorem fl_X6_count_135 : Cond.fieldLink RX6 135 (TX6 6).1 (TX6 6).2.1 (TX6 6).2.2.1 ∈ wsX6_count := by decide +kernel
set_option maxRecDepth 20000 in
theorem fl_X6_count_129 : Cond.fieldLink RX6 129 (TX6 9).1 (TX6 9).2.1 (TX6 9).2.2.1 ∈ wsX6_count := by decide +kernel
set_option maxRecDepth 20000 in
theorem fl_X6_count_208 : Cond.fieldLink RX6 208 (TX6 12).1 (TX6 12).2.1 (TX6 12).2.2.1 ∈ wsX6_count := by decide +kernel
set_option maxRecDepth 20000 in
theorem fl_X6_count_123 : Cond.fieldLink RX6 123 (TX6 11).1 (TX6 11).2.1 (TX6 11).2.2.1 ∈ wsX6_count := by decide +kernel
set_option maxRecDepth 20000 in
theorem fl_X6_count_62 : Cond.fieldLink RX6 62 (TX6 15).1 (TX6 15).2.1 (TX6 15).2.2.1 ∈ wsX6_count := by decide +kernel
set_option maxRecDepth 20000 in
theorem in_X6_count_X1 : ∀ w ∈ wsX10, w ∈ wsX6_count := by decide +kernel
set_option maxRecDepth 20000 in
theorem fl_X6_count_281 : Cond.fieldLink RX6 281 (TX1 4).1 (TX1 4).2.1 (TX1 4).2.2.1 ∈ wsX6_count := by decide +kernel
def F_X6_count (G : Gx) (p0 : Nat) (p1 : Int32) (ws : va_W) (Q : Int32 → va_W → Prop) : Prop := ((p1 = (0 : Int32) → qI 6 5 p0 ws (fun v1 => Q v1 ws)) ∧ (p1 = (1 : Int32) → qI 6 6 p0 ws (fun v2 => Q v2 ws)) ∧ (p1 = (2 : Int32) → qI 6 9 p0 ws (fun v3 => Q v3 ws)) ∧ (p1 = (3 : Int32) → qI 6 12 p0 ws (fun v4 => Q v4 ws)) ∧ (p1 = (4 : Int32) → qI 6 11 p0 ws (fun v5 => Q v5 ws)) ∧ (p1 = (5 : Int32) → (qV 6 p0 ws ∧ F_X6_letShares G p0 ws (fun v6 ws => Q v6 ws))) ∧ (p1 = (6 : Int32) → qR 6 15 p0 ws (fun v7 => qI 1 4 v7 ws (fun v8 => Q v8 ws))) ∧ (p1 = (7 : Int32) → (qV 6 p0 ws ∧ F_X6_flowOfAll G p0 ws (fun v9 ws => Q v9 ws))) ∧ ((p1.toInt < 0 ∨ (7 : Int) < p1.toInt) → Q (-1 : Int32) ws))
set_option maxRecDepth 20000 in
set_option maxHeartbeats 4000000 in
theorem m_X6_count {G : Gx} (hst : (gl G).stackTraces = false) {p0 : Nat} {p1 : Int32} {ws : va_W} {Q : Int32 → va_W → Prop} (h : F_X6_count G p0 p1 ws Q) : Mt G yX6_count wsX6_count rm_X6_count [.ref p0, .int p1] ws (QtI G Q) := by
  refine mk_Mt (cc := cX6_count) (nL := 2) (own := RX6) (ret := (some .int)) (lv0 := [some (.ref p0), some (.int p1)]) hst (by decide) rfl rfl (Nat.le_of_ble_eq_true rfl) rfl ?_
  intro K C F
  refine e_iload_n C (x := p1) rfl dX6_count_0 (pc' := 1) rfl ?_
  obtain ⟨h0, h1, h2, h3, h4, h5, h6, h7, hd⟩ := h
  rcases sw_cases (p1) 7 with hc | hc
  · replace h := hd hc
    refine e_tabOut C (tg := 91) dX6_count_1 hc (by decide) ?_
    refine e_iconst C (v := (-1 : Int32)) (by decide) dX6_count_91 (pc' := 92) rfl ?_
    exact r_int C F dX6_count_92 (by decide) (by decide) h
  · obtain ⟨q9, hq9, hc⟩ := hc
    rcases (show q9 = 0 ∨ q9 = 1 ∨ q9 = 2 ∨ q9 = 3 ∨ q9 = 4 ∨ q9 = 5 ∨ q9 = 6 ∨ q9 = 7 by omega) with rfl | rfl | rfl | rfl | rfl | rfl | rfl | rfl
    · replace h := h0 hc
      refine e_tabIn C (tg := 48) dX6_count_1 (by rw [hc]; decide) (by rw [hc]; decide) (by rw [hc]; rfl) (by decide) ?_
      refine e_aload_n C (x := p0) rfl dX6_count_48 (pc' := 49) rfl ?_
      refine f_getI C (ci := 6) (CN := RX6) (TT := TX6) (N := 16) 5 dX6_count_49 (pc' := 52) rfl in_X6_count_X6 rfl (by decide) fl_X6_count_86 h (fun v1 h => ?_)
      exact r_int C F dX6_count_52 (by decide) (by decide) h
    · replace h := h1 hc
      refine e_tabIn C (tg := 53) dX6_count_1 (by rw [hc]; decide) (by rw [hc]; decide) (by rw [hc]; rfl) (by decide) ?_
      refine e_aload_n C (x := p0) rfl dX6_count_53 (pc' := 54) rfl ?_
      refine f_getI C (ci := 6) (CN := RX6) (TT := TX6) (N := 16) 6 dX6_count_54 (pc' := 57) rfl in_X6_count_X6 rfl (by decide) fl_X6_count_135 h (fun v2 h => ?_)
      exact r_int C F dX6_count_57 (by decide) (by decide) h
    · replace h := h2 hc
      refine e_tabIn C (tg := 58) dX6_count_1 (by rw [hc]; decide) (by rw [hc]; decide) (by rw [hc]; rfl) (by decide) ?_
      refine e_aload_n C (x := p0) rfl dX6_count_58 (pc' := 59) rfl ?_
      refine f_getI C (ci := 6) (CN := RX6) (TT := TX6) (N := 16) 9 dX6_count_59 (pc' := 62) rfl in_X6_count_X6 rfl (by decide) fl_X6_count_129 h (fun v3 h => ?_)
      exact r_int C F dX6_count_62 (by decide) (by decide) h
    · replace h := h3 hc
      refine e_tabIn C (tg := 63) dX6_count_1 (by rw [hc]; decide) (by rw [hc]; decide) (by rw [hc]; rfl) (by decide) ?_
      refine e_aload_n C (x := p0) rfl dX6_count_63 (pc' := 64) rfl ?_
      refine f_getI C (ci := 6) (CN := RX6) (TT := TX6) (N := 16) 12 dX6_count_64 (pc' := 67) rfl in_X6_count_X6 rfl (by decide) fl_X6_count_208 h (fun v4 h => ?_)
      exact r_int C F dX6_count_67 (by decide) (by decide) h
    · replace h := h4 hc
      refine e_tabIn C (tg := 68) dX6_count_1 (by rw [hc]; decide) (by rw [hc]; decide) (by rw [hc]; rfl) (by decide) ?_
      refine e_aload_n C (x := p0) rfl dX6_count_68 (pc' := 69) rfl ?_
      refine f_getI C (ci := 6) (CN := RX6) (TT := TX6) (N := 16) 11 dX6_count_69 (pc' := 72) rfl in_X6_count_X6 rfl (by decide) fl_X6_count_123 h (fun v5 h => ?_)
      exact r_int C F dX6_count_72 (by decide) (by decide) h
    · replace h := h5 hc
      refine e_tabIn C (tg := 73) dX6_count_1 (by rw [hc]; decide) (by rw [hc]; decide) (by rw [hc]; rfl) (by decide) ?_
      refine e_aload_n C (x := p0) rfl dX6_count_73 (pc' := 74) rfl ?_
      obtain ⟨hv, h⟩ := h
      refine e_calli (run_V (n := 0) C (m_X6_letShares hst h) gX6_count_X6_letShares rfl ⟨rfl, by decide, by decide, by decide +kernel⟩ ⟨by decide, by decide⟩ (ci := 6) rfl rfl hv rfl (Nat.le_of_ble_eq_true rfl) dX6_count_74 ⟨by decide, by decide⟩ (As := []) rfl) (pc' := 77) rfl (cn' := 0) (sn' := 0) rfl rfl (fun v6 ws h => ?_)
      exact r_int C F dX6_count_77 (by decide) (by decide) h
    · replace h := h6 hc
      refine e_tabIn C (tg := 78) dX6_count_1 (by rw [hc]; decide) (by rw [hc]; decide) (by rw [hc]; rfl) (by decide) ?_
      refine e_aload_n C (x := p0) rfl dX6_count_78 (pc' := 79) rfl ?_
      refine f_getR C (ci := 6) (CN := RX6) (TT := TX6) (N := 16) 15 dX6_count_79 (pc' := 82) rfl in_X6_count_X6 rfl (by decide) fl_X6_count_62 h (fun v7 h => ?_)
      refine f_getI C (ci := 1) (CN := RX1) (TT := TX1) (N := 5) 4 dX6_count_82 (pc' := 85) rfl in_X6_count_X1 rfl (by decide) fl_X6_count_281 h (fun v8 h => ?_)
      exact r_int C F dX6_count_85 (by decide) (by decide) h
    · replace h := h7 hc
      refine e_tabIn C (tg := 86) dX6_count_1 (by rw [hc]; decide) (by rw [hc]; decide) (by rw [hc]; rfl) (by decide) ?_
      refine e_aload_n C (x := p0) rfl dX6_count_86 (pc' := 87) rfl ?_
      obtain ⟨hv, h⟩ := h
      refine e_calli (run_V (n := 0) C (m_X6_flowOfAll hst h) gX6_count_X6_flowOfAll rfl ⟨rfl, by decide, by decide, by decide +kernel⟩ ⟨by decide, by decide⟩ (ci := 6) rfl rfl hv rfl (Nat.le_of_ble_eq_true rfl) dX6_count_87 ⟨by decide, by decide⟩ (As := []) rfl) (pc' := 90) rfl (cn' := 0) (sn' := 0) rfl rfl (fun v9 ws h => ?_)
      exact r_int C F dX6_count_90 (by decide) (by decide) h
