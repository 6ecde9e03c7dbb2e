abbrev rm_L_sell : Room := { frames := 9, cells := 3, slots := 18, locals := 152 }
set_option maxRecDepth 20000 in
theorem w_L_sell_k25 : Cond.classLink RL 25 "java/lang/IndexOutOfBoundsException" ∈ wsL_sell := by decide +kernel
set_option maxRecDepth 20000 in
theorem w_L_sell_k27 : Cond.classLink RL 27 "java/lang/IllegalStateException" ∈ wsL_sell := by decide +kernel
set_option maxRecDepth 20000 in
theorem w_L_sell_k13 : Cond.classLink RL 13 "java/lang/IllegalArgumentException" ∈ wsL_sell := by decide +kernel
set_option maxRecDepth 20000 in
theorem w_L_sell_k19 : Cond.classLink RL 19 "java/lang/UnsupportedOperationException" ∈ wsL_sell := by decide +kernel
def F_L_sell (G : Gx) (p0 : Nat) (p1 : Int32) (p2 : Int32) (p3 : Int32) (p4 : Int32) (ws : va_W) (Q : Int32 → va_W → Prop) : Prop := (qV 6 p0 ws ∧ F_X6_sell G p0 p1 p2 p3 p4 ws (fun ws => Q (0 : Int32) ws) (fun E ws => (E = "java/lang/IndexOutOfBoundsException" ∧ Q (1 : Int32) ws) ∨ (E = "java/lang/IllegalStateException" ∧ Q (2 : Int32) ws) ∨ (E = "java/lang/IllegalArgumentException" ∧ Q (3 : Int32) ws) ∨ (E = "java/lang/UnsupportedOperationException" ∧ Q (4 : Int32) ws)))
set_option maxRecDepth 20000 in
set_option maxHeartbeats 4000000 in
theorem m_L_sell {G : Gx} (hst : (gl G).stackTraces = false) {p0 : Nat} {p1 : Int32} {p2 : Int32} {p3 : Int32} {p4 : Int32} {ws : va_W} {Q : Int32 → va_W → Prop} (h : F_L_sell G p0 p1 p2 p3 p4 ws Q) : Mt G yL_sell wsL_sell rm_L_sell [.ref p0, .int p1, .int p2, .int p3, .int p4] ws (QtI G Q) := by
  refine mk_Mw (cc := cL_sell) (nL := 6) (own := RL) (ret := (some .int)) (lv0 := [some (.ref p0), some (.int p1), some (.int p2), some (.int p3), some (.int p4), none]) hst (by decide) rfl rfl (Nat.le_of_ble_eq_true rfl) rfl ?_
  intro K C F hT
  refine e_aload_n C (x := p0) rfl dL_sell_0 (pc' := 1) rfl ?_
  refine e_iload_n C (x := p1) rfl dL_sell_1 (pc' := 2) rfl ?_
  refine e_iload_n C (x := p2) rfl dL_sell_2 (pc' := 3) rfl ?_
  refine e_iload_n C (x := p3) rfl dL_sell_3 (pc' := 4) rfl ?_
  refine e_iload C (x := p4) rfl dL_sell_4 (pc' := 6) rfl ?_
  obtain ⟨hv, h⟩ := h
  refine e_xcallv (run_XV (n := 4) C (m_X6_sell hst h) gL_sell_X6_sell rfl ⟨rfl, by decide, by decide, by decide +kernel⟩ ⟨by decide, by decide⟩ (ci := 6) rfl rfl hv rfl (Nat.le_of_ble_eq_true rfl) dL_sell_6 ⟨by decide, by decide⟩ (As := [.int p1, .int p2, .int p3, .int p4]) rfl) (pc' := 9) rfl (cn' := 3) (sn' := 18) rfl rfl (fun E ws h => ?_) (fun ws h => ?_)
  · rcases h with ⟨rfl, h⟩ | ⟨rfl, h⟩ | ⟨rfl, h⟩ | ⟨rfl, h⟩
    · refine e_catch C hT [] ⟨0, 9, 12, 25⟩ [⟨0, 9, 16, 27⟩, ⟨0, 9, 20, 13⟩, ⟨0, 9, 24, 19⟩] rfl (by decide) (by decide +kernel) (by decide) (by decide) w_L_sell_k25 (fun q2 => ?_)
      refine e_astore C (by decide) dL_sell_12 (pc' := 14) rfl (lv' := [some (.ref p0), some (.int p1), some (.int p2), some (.int p3), some (.int p4), some (.ref q2)]) rfl ?_
      refine e_iconst C (v := (1 : Int32)) (by decide) dL_sell_14 (pc' := 15) rfl ?_
      exact r_int C F dL_sell_15 (by decide) (by decide) h
    · refine e_catch C hT [⟨0, 9, 12, 25⟩] ⟨0, 9, 16, 27⟩ [⟨0, 9, 20, 13⟩, ⟨0, 9, 24, 19⟩] rfl (by decide) (by decide +kernel) (by decide) (by decide) w_L_sell_k27 (fun q3 => ?_)
      refine e_astore C (by decide) dL_sell_16 (pc' := 18) rfl (lv' := [some (.ref p0), some (.int p1), some (.int p2), some (.int p3), some (.int p4), some (.ref q3)]) rfl ?_
      refine e_iconst C (v := (2 : Int32)) (by decide) dL_sell_18 (pc' := 19) rfl ?_
      exact r_int C F dL_sell_19 (by decide) (by decide) h
    · refine e_catch C hT [⟨0, 9, 12, 25⟩, ⟨0, 9, 16, 27⟩] ⟨0, 9, 20, 13⟩ [⟨0, 9, 24, 19⟩] rfl (by decide) (by decide +kernel) (by decide) (by decide) w_L_sell_k13 (fun q4 => ?_)
      refine e_astore C (by decide) dL_sell_20 (pc' := 22) rfl (lv' := [some (.ref p0), some (.int p1), some (.int p2), some (.int p3), some (.int p4), some (.ref q4)]) rfl ?_
      refine e_iconst C (v := (3 : Int32)) (by decide) dL_sell_22 (pc' := 23) rfl ?_
      exact r_int C F dL_sell_23 (by decide) (by decide) h
    · refine e_catch C hT [⟨0, 9, 12, 25⟩, ⟨0, 9, 16, 27⟩, ⟨0, 9, 20, 13⟩] ⟨0, 9, 24, 19⟩ [] rfl (by decide) (by decide +kernel) (by decide) (by decide) w_L_sell_k19 (fun q5 => ?_)
      refine e_astore C (by decide) dL_sell_24 (pc' := 26) rfl (lv' := [some (.ref p0), some (.int p1), some (.int p2), some (.int p3), some (.int p4), some (.ref q5)]) rfl ?_
      refine e_iconst C (v := (4 : Int32)) (by decide) dL_sell_26 (pc' := 27) rfl ?_
      exact r_int C F dL_sell_27 (by decide) (by decide) h
  refine e_goto C (tg := 28) dL_sell_9 (by decide) ?_
  refine e_iconst C (v := (0 : Int32)) (by decide) dL_sell_28 (pc' := 29) rfl ?_
  exact r_int C F dL_sell_29 (by decide) (by decide) h
abbrev rm_L_heirs : Room := { frames := 9, cells := 3, slots := 18, locals := 157 }
set_option maxRecDepth 20000 in
theorem w_L_heirs_k25 : Cond.classLink RL 25 "java/lang/IndexOutOfBoundsException" ∈ wsL_heirs := by decide +kernel
set_option maxRecDepth 20000 in
theorem w_L_heirs_k27 : Cond.classLink RL 27 "java/lang/IllegalStateException" ∈ wsL_heirs := by decide +kernel
set_option maxRecDepth 20000 in
theorem w_L_heirs_k13 : Cond.classLink RL 13 "java/lang/IllegalArgumentException" ∈ wsL_heirs := by decide +kernel
set_option maxRecDepth 20000 in
theorem w_L_heirs_k19 : Cond.classLink RL 19 "java/lang/UnsupportedOperationException" ∈ wsL_heirs := by decide +kernel
def F_L_heirs (G : Gx) (p0 : Nat) (p1 : Int32) (p2 : Int32) (p3 : Int32) (p4 : Int32) (p5 : Int32) (p6 : Int32) (p7 : Int32) (p8 : Int32) (p9 : Int32) (p10 : Int32) (p11 : Nat) (ws : va_W) (Q : Int32 → va_W → Prop) : Prop := (qV 6 p0 ws ∧ F_X6_heirs G p0 p1 p2 p3 p4 p5 p6 p7 p8 p9 p10 ws (fun v1 ws => qLs (gc G 5) p11 (0 : Int32) (v1.toInt64) ws (fun ws => Q (0 : Int32) ws)) (fun E ws => (E = "java/lang/IndexOutOfBoundsException" ∧ Q (1 : Int32) ws) ∨ (E = "java/lang/IllegalStateException" ∧ Q (2 : Int32) ws) ∨ (E = "java/lang/IllegalArgumentException" ∧ Q (3 : Int32) ws) ∨ (E = "java/lang/UnsupportedOperationException" ∧ Q (4 : Int32) ws)))
set_option maxRecDepth 20000 in
set_option maxHeartbeats 4000000 in
theorem m_L_heirs {G : Gx} (hst : (gl G).stackTraces = false) {p0 : Nat} {p1 : Int32} {p2 : Int32} {p3 : Int32} {p4 : Int32} {p5 : Int32} {p6 : Int32} {p7 : Int32} {p8 : Int32} {p9 : Int32} {p10 : Int32} {p11 : Nat} {ws : va_W} {Q : Int32 → va_W → Prop} (h : F_L_heirs G p0 p1 p2 p3 p4 p5 p6 p7 p8 p9 p10 p11 ws Q) : Mt G yL_heirs wsL_heirs rm_L_heirs [.ref p0, .int p1, .int p2, .int p3, .int p4, .int p5, .int p6, .int p7, .int p8, .int p9, .int p10, .ref p11] ws (QtI G Q) := by
  refine mk_Mw (cc := cL_heirs) (nL := 13) (own := RL) (ret := (some .int)) (lv0 := [some (.ref p0), some (.int p1), some (.int p2), some (.int p3), some (.int p4), some (.int p5), some (.int p6), some (.int p7), some (.int p8), some (.int p9), some (.int p10), some (.ref p11), none]) hst (by decide) rfl rfl (Nat.le_of_ble_eq_true rfl) rfl ?_
  intro K C F hT
  refine e_aload C (x := p11) rfl dL_heirs_0 (pc' := 2) rfl ?_
  refine e_iconst C (v := (0 : Int32)) (by decide) dL_heirs_2 (pc' := 3) rfl ?_
  refine e_aload_n C (x := p0) rfl dL_heirs_3 (pc' := 4) rfl ?_
  refine e_iload_n C (x := p1) rfl dL_heirs_4 (pc' := 5) rfl ?_
  refine e_iload_n C (x := p2) rfl dL_heirs_5 (pc' := 6) rfl ?_
  refine e_iload_n C (x := p3) rfl dL_heirs_6 (pc' := 7) rfl ?_
  refine e_iload C (x := p4) rfl dL_heirs_7 (pc' := 9) rfl ?_
  refine e_iload C (x := p5) rfl dL_heirs_9 (pc' := 11) rfl ?_
  refine e_iload C (x := p6) rfl dL_heirs_11 (pc' := 13) rfl ?_
  refine e_iload C (x := p7) rfl dL_heirs_13 (pc' := 15) rfl ?_
  refine e_iload C (x := p8) rfl dL_heirs_15 (pc' := 17) rfl ?_
  refine e_iload C (x := p9) rfl dL_heirs_17 (pc' := 19) rfl ?_
  refine e_iload C (x := p10) rfl dL_heirs_19 (pc' := 21) rfl ?_
  obtain ⟨hv, h⟩ := h
  refine e_xcalli (run_XV (n := 10) C (m_X6_heirs hst h) gL_heirs_X6_heirs rfl ⟨rfl, by decide, by decide, by decide +kernel⟩ ⟨by decide, by decide⟩ (ci := 6) rfl rfl hv rfl (Nat.le_of_ble_eq_true rfl) dL_heirs_21 ⟨by decide, by decide⟩ (As := [.int p1, .int p2, .int p3, .int p4, .int p5, .int p6, .int p7, .int p8, .int p9, .int p10]) rfl) (pc' := 24) rfl (cn' := 3) (sn' := 18) rfl rfl (fun E ws h => ?_) (fun v1 ws h => ?_)
  · rcases h with ⟨rfl, h⟩ | ⟨rfl, h⟩ | ⟨rfl, h⟩ | ⟨rfl, h⟩
    · refine e_catch C hT [] ⟨0, 26, 29, 25⟩ [⟨0, 26, 33, 27⟩, ⟨0, 26, 37, 13⟩, ⟨0, 26, 41, 19⟩] rfl (by decide) (by decide +kernel) (by decide) (by decide) w_L_heirs_k25 (fun q2 => ?_)
      refine e_astore C (by decide) dL_heirs_29 (pc' := 31) rfl (lv' := [some (.ref p0), some (.int p1), some (.int p2), some (.int p3), some (.int p4), some (.int p5), some (.int p6), some (.int p7), some (.int p8), some (.int p9), some (.int p10), some (.ref p11), some (.ref q2)]) rfl ?_
      refine e_iconst C (v := (1 : Int32)) (by decide) dL_heirs_31 (pc' := 32) rfl ?_
      exact r_int C F dL_heirs_32 (by decide) (by decide) h
    · refine e_catch C hT [⟨0, 26, 29, 25⟩] ⟨0, 26, 33, 27⟩ [⟨0, 26, 37, 13⟩, ⟨0, 26, 41, 19⟩] rfl (by decide) (by decide +kernel) (by decide) (by decide) w_L_heirs_k27 (fun q3 => ?_)
      refine e_astore C (by decide) dL_heirs_33 (pc' := 35) rfl (lv' := [some (.ref p0), some (.int p1), some (.int p2), some (.int p3), some (.int p4), some (.int p5), some (.int p6), some (.int p7), some (.int p8), some (.int p9), some (.int p10), some (.ref p11), some (.ref q3)]) rfl ?_
      refine e_iconst C (v := (2 : Int32)) (by decide) dL_heirs_35 (pc' := 36) rfl ?_
      exact r_int C F dL_heirs_36 (by decide) (by decide) h
    · refine e_catch C hT [⟨0, 26, 29, 25⟩, ⟨0, 26, 33, 27⟩] ⟨0, 26, 37, 13⟩ [⟨0, 26, 41, 19⟩] rfl (by decide) (by decide +kernel) (by decide) (by decide) w_L_heirs_k13 (fun q4 => ?_)
      refine e_astore C (by decide) dL_heirs_37 (pc' := 39) rfl (lv' := [some (.ref p0), some (.int p1), some (.int p2), some (.int p3), some (.int p4), some (.int p5), some (.int p6), some (.int p7), some (.int p8), some (.int p9), some (.int p10), some (.ref p11), some (.ref q4)]) rfl ?_
      refine e_iconst C (v := (3 : Int32)) (by decide) dL_heirs_39 (pc' := 40) rfl ?_
      exact r_int C F dL_heirs_40 (by decide) (by decide) h
    · refine e_catch C hT [⟨0, 26, 29, 25⟩, ⟨0, 26, 33, 27⟩, ⟨0, 26, 37, 13⟩] ⟨0, 26, 41, 19⟩ [] rfl (by decide) (by decide +kernel) (by decide) (by decide) w_L_heirs_k19 (fun q5 => ?_)
      refine e_astore C (by decide) dL_heirs_41 (pc' := 43) rfl (lv' := [some (.ref p0), some (.int p1), some (.int p2), some (.int p3), some (.int p4), some (.int p5), some (.int p6), some (.int p7), some (.int p8), some (.int p9), some (.int p10), some (.ref p11), some (.ref q5)]) rfl ?_
      refine e_iconst C (v := (4 : Int32)) (by decide) dL_heirs_43 (pc' := 44) rfl ?_
      exact r_int C F dL_heirs_44 (by decide) (by decide) h
  refine e_i2l C dL_heirs_24 (pc' := 25) rfl ?_
  refine f_lastore C dL_heirs_25 (pc' := 26) rfl h (fun ws h => ?_)
  refine e_goto C (tg := 45) dL_heirs_26 (by decide) ?_
  refine e_iconst C (v := (0 : Int32)) (by decide) dL_heirs_45 (pc' := 46) rfl ?_
  exact r_int C F dL_heirs_46 (by decide) (by decide) h
abbrev rm_L_let : Room := { frames := 9, cells := 3, slots := 18, locals := 150 }
set_option maxRecDepth 20000 in
theorem w_L_let_k25 : Cond.classLink RL 25 "java/lang/IndexOutOfBoundsException" ∈ wsL_let := by decide +kernel
set_option maxRecDepth 20000 in
theorem w_L_let_k27 : Cond.classLink RL 27 "java/lang/IllegalStateException" ∈ wsL_let := by decide +kernel
set_option maxRecDepth 20000 in
theorem w_L_let_k13 : Cond.classLink RL 13 "java/lang/IllegalArgumentException" ∈ wsL_let := by decide +kernel
def F_L_let (G : Gx) (p0 : Nat) (p1 : Int32) (p2 : Int32) (p3 : Int32) (p4 : Int32) (ws : va_W) (Q : Int32 → va_W → Prop) : Prop := (qV 6 p0 ws ∧ F_X6_let G p0 p1 p2 p3 p4 ws (fun ws => Q (0 : Int32) ws) (fun E ws => (E = "java/lang/IndexOutOfBoundsException" ∧ Q (1 : Int32) ws) ∨ (E = "java/lang/IllegalStateException" ∧ Q (2 : Int32) ws) ∨ (E = "java/lang/IllegalArgumentException" ∧ Q (3 : Int32) ws)))
set_option maxRecDepth 20000 in
set_option maxHeartbeats 4000000 in
theorem m_L_let {G : Gx} (hst : (gl G).stackTraces = false) {p0 : Nat} {p1 : Int32} {p2 : Int32} {p3 : Int32} {p4 : Int32} {ws : va_W} {Q : Int32 → va_W → Prop} (h : F_L_let G p0 p1 p2 p3 p4 ws Q) : Mt G yL_let wsL_let rm_L_let [.ref p0, .int p1, .int p2, .int p3, .int p4] ws (QtI G Q) := by
  refine mk_Mw (cc := cL_let) (nL := 6) (own := RL) (ret := (some .int)) (lv0 := [some (.ref p0), some (.int p1), some (.int p2), some (.int p3), some (.int p4), none]) hst (by decide) rfl rfl (Nat.le_of_ble_eq_true rfl) rfl ?_
  intro K C F hT
  refine e_aload_n C (x := p0) rfl dL_let_0 (pc' := 1) rfl ?_
  refine e_iload_n C (x := p1) rfl dL_let_1 (pc' := 2) rfl ?_
  refine e_iload_n C (x := p2) rfl dL_let_2 (pc' := 3) rfl ?_
  refine e_iload_n C (x := p3) rfl dL_let_3 (pc' := 4) rfl ?_
  refine e_iload C (x := p4) rfl dL_let_4 (pc' := 6) rfl ?_
  obtain ⟨hv, h⟩ := h
  refine e_xcallv (run_XV (n := 4) C (m_X6_let hst h) gL_let_X6_let rfl ⟨rfl, by decide, by decide, by decide +kernel⟩ ⟨by decide, by decide⟩ (ci := 6) rfl rfl hv rfl (Nat.le_of_ble_eq_true rfl) dL_let_6 ⟨by decide, by decide⟩ (As := [.int p1, .int p2, .int p3, .int p4]) rfl) (pc' := 9) rfl (cn' := 3) (sn' := 18) rfl rfl (fun E ws h => ?_) (fun ws h => ?_)
  · rcases h with ⟨rfl, h⟩ | ⟨rfl, h⟩ | ⟨rfl, h⟩
    · refine e_catch C hT [] ⟨0, 9, 12, 25⟩ [⟨0, 9, 16, 27⟩, ⟨0, 9, 20, 13⟩] rfl (by decide) (by decide +kernel) (by decide) (by decide) w_L_let_k25 (fun q2 => ?_)
      refine e_astore C (by decide) dL_let_12 (pc' := 14) rfl (lv' := [some (.ref p0), some (.int p1), some (.int p2), some (.int p3), some (.int p4), some (.ref q2)]) rfl ?_
      refine e_iconst C (v := (1 : Int32)) (by decide) dL_let_14 (pc' := 15) rfl ?_
      exact r_int C F dL_let_15 (by decide) (by decide) h
    · refine e_catch C hT [⟨0, 9, 12, 25⟩] ⟨0, 9, 16, 27⟩ [⟨0, 9, 20, 13⟩] rfl (by decide) (by decide +kernel) (by decide) (by decide) w_L_let_k27 (fun q3 => ?_)
      refine e_astore C (by decide) dL_let_16 (pc' := 18) rfl (lv' := [some (.ref p0), some (.int p1), some (.int p2), some (.int p3), some (.int p4), some (.ref q3)]) rfl ?_
      refine e_iconst C (v := (2 : Int32)) (by decide) dL_let_18 (pc' := 19) rfl ?_
      exact r_int C F dL_let_19 (by decide) (by decide) h
    · refine e_catch C hT [⟨0, 9, 12, 25⟩, ⟨0, 9, 16, 27⟩] ⟨0, 9, 20, 13⟩ [] rfl (by decide) (by decide +kernel) (by decide) (by decide) w_L_let_k13 (fun q4 => ?_)
      refine e_astore C (by decide) dL_let_20 (pc' := 22) rfl (lv' := [some (.ref p0), some (.int p1), some (.int p2), some (.int p3), some (.int p4), some (.ref q4)]) rfl ?_
      refine e_iconst C (v := (3 : Int32)) (by decide) dL_let_22 (pc' := 23) rfl ?_
      exact r_int C F dL_let_23 (by decide) (by decide) h
  refine e_goto C (tg := 24) dL_let_9 (by decide) ?_
  refine e_iconst C (v := (0 : Int32)) (by decide) dL_let_24 (pc' := 25) rfl ?_
  exact r_int C F dL_let_25 (by decide) (by decide) h
abbrev rm_L_minutes : Room := { frames := 7, cells := 1, slots := 6, locals := 103 }
set_option maxRecDepth 20000 in
theorem w_L_minutes_k13 : Cond.classLink RL 13 "java/lang/IllegalArgumentException" ∈ wsL_minutes := by decide +kernel
def F_L_minutes (G : Gx) (p0 : Nat) (p1 : Int32) (p2 : Nat) (ws : va_W) (Q : Int32 → va_W → Prop) : Prop := (qV 6 p0 ws ∧ F_X6_minutes G p0 p1 ws (fun v1 ws => qLs (gc G 5) p2 (0 : Int32) (v1.toInt64) ws (fun ws => Q (0 : Int32) ws)) (fun E ws => (E = "java/lang/IllegalArgumentException" ∧ Q (1 : Int32) ws)))
set_option maxRecDepth 20000 in
set_option maxHeartbeats 4000000 in
theorem m_L_minutes {G : Gx} (hst : (gl G).stackTraces = false) {p0 : Nat} {p1 : Int32} {p2 : Nat} {ws : va_W} {Q : Int32 → va_W → Prop} (h : F_L_minutes G p0 p1 p2 ws Q) : Mt G yL_minutes wsL_minutes rm_L_minutes [.ref p0, .int p1, .ref p2] ws (QtI G Q) := by
  refine mk_Mw (cc := cL_minutes) (nL := 4) (own := RL) (ret := (some .int)) (lv0 := [some (.ref p0), some (.int p1), some (.ref p2), none]) hst (by decide) rfl rfl (Nat.le_of_ble_eq_true rfl) rfl ?_
  intro K C F hT
  refine e_aload_n C (x := p2) rfl dL_minutes_0 (pc' := 1) rfl ?_
  refine e_iconst C (v := (0 : Int32)) (by decide) dL_minutes_1 (pc' := 2) rfl ?_
  refine e_aload_n C (x := p0) rfl dL_minutes_2 (pc' := 3) rfl ?_
  refine e_iload_n C (x := p1) rfl dL_minutes_3 (pc' := 4) rfl ?_
  obtain ⟨hv, h⟩ := h
  refine e_xcalli (run_XV (n := 1) C (m_X6_minutes hst h) gL_minutes_X6_minutes rfl ⟨rfl, by decide, by decide, by decide +kernel⟩ ⟨by decide, by decide⟩ (ci := 6) rfl rfl hv rfl (Nat.le_of_ble_eq_true rfl) dL_minutes_4 ⟨by decide, by decide⟩ (As := [.int p1]) rfl) (pc' := 7) rfl (cn' := 1) (sn' := 6) rfl rfl (fun E ws h => ?_) (fun v1 ws h => ?_)
  · obtain ⟨rfl, h⟩ := h
    refine e_catch C hT [] ⟨0, 9, 12, 13⟩ [] rfl (by decide) (by decide +kernel) (by decide) (by decide) w_L_minutes_k13 (fun q2 => ?_)
    refine e_astore_n C (by decide) dL_minutes_12 (pc' := 13) rfl (lv' := [some (.ref p0), some (.int p1), some (.ref p2), some (.ref q2)]) rfl ?_
    refine e_iconst C (v := (1 : Int32)) (by decide) dL_minutes_13 (pc' := 14) rfl ?_
    exact r_int C F dL_minutes_14 (by decide) (by decide) h
  refine e_i2l C dL_minutes_7 (pc' := 8) rfl ?_
  refine f_lastore C dL_minutes_8 (pc' := 9) rfl h (fun ws h => ?_)
  refine e_goto C (tg := 15) dL_minutes_9 (by decide) ?_
  refine e_iconst C (v := (0 : Int32)) (by decide) dL_minutes_15 (pc' := 16) rfl ?_
  exact r_int C F dL_minutes_16 (by decide) (by decide) h
abbrev rm_L_holder : Room := { frames := 8, cells := 2, slots := 12, locals := 129 }
set_option maxRecDepth 20000 in
theorem w_L_holder_k25 : Cond.classLink RL 25 "java/lang/IndexOutOfBoundsException" ∈ wsL_holder := by decide +kernel
set_option maxRecDepth 20000 in
theorem w_L_holder_k13 : Cond.classLink RL 13 "java/lang/IllegalArgumentException" ∈ wsL_holder := by decide +kernel
def F_L_holder (G : Gx) (p0 : Nat) (p1 : Int32) (p2 : Int32) (p3 : Nat) (ws : va_W) (Q : Int32 → va_W → Prop) : Prop := (qV 6 p0 ws ∧ F_X6_holder G p0 p1 p2 ws (fun v1 ws => qLs (gc G 5) p3 (0 : Int32) (v1.toInt64) ws (fun ws => Q (0 : Int32) ws)) (fun E ws => (E = "java/lang/IndexOutOfBoundsException" ∧ Q (1 : Int32) ws) ∨ (E = "java/lang/IllegalArgumentException" ∧ Q (2 : Int32) ws)))
set_option maxRecDepth 20000 in
set_option maxHeartbeats 4000000 in
theorem m_L_holder {G : Gx} (hst : (gl G).stackTraces = false) {p0 : Nat} {p1 : Int32} {p2 : Int32} {p3 : Nat} {ws : va_W} {Q : Int32 → va_W → Prop} (h : F_L_holder G p0 p1 p2 p3 ws Q) : Mt G yL_holder wsL_holder rm_L_holder [.ref p0, .int p1, .int p2, .ref p3] ws (QtI G Q) := by
  refine mk_Mw (cc := cL_holder) (nL := 5) (own := RL) (ret := (some .int)) (lv0 := [some (.ref p0), some (.int p1), some (.int p2), some (.ref p3), none]) hst (by decide) rfl rfl (Nat.le_of_ble_eq_true rfl) rfl ?_
  intro K C F hT
  refine e_aload_n C (x := p3) rfl dL_holder_0 (pc' := 1) rfl ?_
  refine e_iconst C (v := (0 : Int32)) (by decide) dL_holder_1 (pc' := 2) rfl ?_
  refine e_aload_n C (x := p0) rfl dL_holder_2 (pc' := 3) rfl ?_
  refine e_iload_n C (x := p1) rfl dL_holder_3 (pc' := 4) rfl ?_
  refine e_iload_n C (x := p2) rfl dL_holder_4 (pc' := 5) rfl ?_
  obtain ⟨hv, h⟩ := h
  refine e_xcalli (run_XV (n := 2) C (m_X6_holder hst h) gL_holder_X6_holder rfl ⟨rfl, by decide, by decide, by decide +kernel⟩ ⟨by decide, by decide⟩ (ci := 6) rfl rfl hv rfl (Nat.le_of_ble_eq_true rfl) dL_holder_5 ⟨by decide, by decide⟩ (As := [.int p1, .int p2]) rfl) (pc' := 8) rfl (cn' := 2) (sn' := 12) rfl rfl (fun E ws h => ?_) (fun v1 ws h => ?_)
  · rcases h with ⟨rfl, h⟩ | ⟨rfl, h⟩
    · refine e_catch C hT [] ⟨0, 10, 13, 25⟩ [⟨0, 10, 17, 13⟩] rfl (by decide) (by decide +kernel) (by decide) (by decide) w_L_holder_k25 (fun q2 => ?_)
      refine e_astore C (by decide) dL_holder_13 (pc' := 15) rfl (lv' := [some (.ref p0), some (.int p1), some (.int p2), some (.ref p3), some (.ref q2)]) rfl ?_
      refine e_iconst C (v := (1 : Int32)) (by decide) dL_holder_15 (pc' := 16) rfl ?_
      exact r_int C F dL_holder_16 (by decide) (by decide) h
    · refine e_catch C hT [⟨0, 10, 13, 25⟩] ⟨0, 10, 17, 13⟩ [] rfl (by decide) (by decide +kernel) (by decide) (by decide) w_L_holder_k13 (fun q3 => ?_)
      refine e_astore C (by decide) dL_holder_17 (pc' := 19) rfl (lv' := [some (.ref p0), some (.int p1), some (.int p2), some (.ref p3), some (.ref q3)]) rfl ?_
      refine e_iconst C (v := (2 : Int32)) (by decide) dL_holder_19 (pc' := 20) rfl ?_
      exact r_int C F dL_holder_20 (by decide) (by decide) h
  refine e_i2l C dL_holder_8 (pc' := 9) rfl ?_
  refine f_lastore C dL_holder_9 (pc' := 10) rfl h (fun ws h => ?_)
  refine e_goto C (tg := 21) dL_holder_10 (by decide) ?_
  refine e_iconst C (v := (0 : Int32)) (by decide) dL_holder_21 (pc' := 22) rfl ?_
  exact r_int C F dL_holder_22 (by decide) (by decide) h
abbrev rm_L_share : Room := { frames := 8, cells := 2, slots := 12, locals := 126 }
set_option maxRecDepth 20000 in
theorem w_L_share_k25 : Cond.classLink RL 25 "java/lang/IndexOutOfBoundsException" ∈ wsL_share := by decide +kernel
set_option maxRecDepth 20000 in
theorem w_L_share_k75 : Cond.classLink RL 75 "java/util/NoSuchElementException" ∈ wsL_share := by decide +kernel
def F_L_share (G : Gx) (p0 : Nat) (p1 : Int32) (p2 : Int32) (p3 : Nat) (ws : va_W) (Q : Int32 → va_W → Prop) : Prop := (qV 6 p0 ws ∧ F_X6_share G p0 p1 p2 ws (fun v1 ws => qLs (gc G 5) p3 (0 : Int32) (v1.toInt64) ws (fun ws => Q (0 : Int32) ws)) (fun E ws => (E = "java/lang/IndexOutOfBoundsException" ∧ Q (1 : Int32) ws) ∨ (E = "java/util/NoSuchElementException" ∧ Q (2 : Int32) ws)))
set_option maxRecDepth 20000 in
set_option maxHeartbeats 4000000 in
theorem m_L_share {G : Gx} (hst : (gl G).stackTraces = false) {p0 : Nat} {p1 : Int32} {p2 : Int32} {p3 : Nat} {ws : va_W} {Q : Int32 → va_W → Prop} (h : F_L_share G p0 p1 p2 p3 ws Q) : Mt G yL_share wsL_share rm_L_share [.ref p0, .int p1, .int p2, .ref p3] ws (QtI G Q) := by
  refine mk_Mw (cc := cL_share) (nL := 5) (own := RL) (ret := (some .int)) (lv0 := [some (.ref p0), some (.int p1), some (.int p2), some (.ref p3), none]) hst (by decide) rfl rfl (Nat.le_of_ble_eq_true rfl) rfl ?_
  intro K C F hT
  refine e_aload_n C (x := p3) rfl dL_share_0 (pc' := 1) rfl ?_
  refine e_iconst C (v := (0 : Int32)) (by decide) dL_share_1 (pc' := 2) rfl ?_
  refine e_aload_n C (x := p0) rfl dL_share_2 (pc' := 3) rfl ?_
  refine e_iload_n C (x := p1) rfl dL_share_3 (pc' := 4) rfl ?_
  refine e_iload_n C (x := p2) rfl dL_share_4 (pc' := 5) rfl ?_
  obtain ⟨hv, h⟩ := h
  refine e_xcalli (run_XV (n := 2) C (m_X6_share hst h) gL_share_X6_share rfl ⟨rfl, by decide, by decide, by decide +kernel⟩ ⟨by decide, by decide⟩ (ci := 6) rfl rfl hv rfl (Nat.le_of_ble_eq_true rfl) dL_share_5 ⟨by decide, by decide⟩ (As := [.int p1, .int p2]) rfl) (pc' := 8) rfl (cn' := 2) (sn' := 12) rfl rfl (fun E ws h => ?_) (fun v1 ws h => ?_)
  · rcases h with ⟨rfl, h⟩ | ⟨rfl, h⟩
    · refine e_catch C hT [] ⟨0, 10, 13, 25⟩ [⟨0, 10, 17, 75⟩] rfl (by decide) (by decide +kernel) (by decide) (by decide) w_L_share_k25 (fun q2 => ?_)
      refine e_astore C (by decide) dL_share_13 (pc' := 15) rfl (lv' := [some (.ref p0), some (.int p1), some (.int p2), some (.ref p3), some (.ref q2)]) rfl ?_
      refine e_iconst C (v := (1 : Int32)) (by decide) dL_share_15 (pc' := 16) rfl ?_
      exact r_int C F dL_share_16 (by decide) (by decide) h
    · refine e_catch C hT [⟨0, 10, 13, 25⟩] ⟨0, 10, 17, 75⟩ [] rfl (by decide) (by decide +kernel) (by decide) (by decide) w_L_share_k75 (fun q3 => ?_)
      refine e_astore C (by decide) dL_share_17 (pc' := 19) rfl (lv' := [some (.ref p0), some (.int p1), some (.int p2), some (.ref p3), some (.ref q3)]) rfl ?_
      refine e_iconst C (v := (2 : Int32)) (by decide) dL_share_19 (pc' := 20) rfl ?_
      exact r_int C F dL_share_20 (by decide) (by decide) h
  refine e_i2l C dL_share_8 (pc' := 9) rfl ?_
  refine f_lastore C dL_share_9 (pc' := 10) rfl h (fun ws h => ?_)
  refine e_goto C (tg := 21) dL_share_10 (by decide) ?_
  refine e_iconst C (v := (0 : Int32)) (by decide) dL_share_21 (pc' := 22) rfl ?_
  exact r_int C F dL_share_22 (by decide) (by decide) h
abbrev rm_L_law : Room := { frames := 9, cells := 1, slots := 6, locals := 191 }
set_option maxRecDepth 20000 in
theorem w_L_law_k13 : Cond.classLink RL 13 "java/lang/IllegalArgumentException" ∈ wsL_law := by decide +kernel
def F_L_law (G : Gx) (p0 : Nat) (p1 : Nat) (ws : va_W) (Q : Int32 → va_W → Prop) : Prop := (qV 6 p0 ws ∧ F_X6_law G p0 ws (fun v1 ws => qLs (gc G 5) p1 (0 : Int32) (v1.toInt64) ws (fun ws => Q (0 : Int32) ws)) (fun E ws => (E = "java/lang/IllegalArgumentException" ∧ Q (1 : Int32) ws)))
set_option maxRecDepth 20000 in
set_option maxHeartbeats 4000000 in
theorem m_L_law {G : Gx} (hst : (gl G).stackTraces = false) {p0 : Nat} {p1 : Nat} {ws : va_W} {Q : Int32 → va_W → Prop} (h : F_L_law G p0 p1 ws Q) : Mt G yL_law wsL_law rm_L_law [.ref p0, .ref p1] ws (QtI G Q) := by
  refine mk_Mw (cc := cL_law) (nL := 3) (own := RL) (ret := (some .int)) (lv0 := [some (.ref p0), some (.ref p1), none]) hst (by decide) rfl rfl (Nat.le_of_ble_eq_true rfl) rfl ?_
  intro K C F hT
  refine e_aload_n C (x := p1) rfl dL_law_0 (pc' := 1) rfl ?_
  refine e_iconst C (v := (0 : Int32)) (by decide) dL_law_1 (pc' := 2) rfl ?_
  refine e_aload_n C (x := p0) rfl dL_law_2 (pc' := 3) rfl ?_
  obtain ⟨hv, h⟩ := h
  refine e_xcalli (run_XV (n := 0) C (m_X6_law hst h) gL_law_X6_law rfl ⟨rfl, by decide, by decide, by decide +kernel⟩ ⟨by decide, by decide⟩ (ci := 6) rfl rfl hv rfl (Nat.le_of_ble_eq_true rfl) dL_law_3 ⟨by decide, by decide⟩ (As := []) rfl) (pc' := 6) rfl (cn' := 1) (sn' := 6) rfl rfl (fun E ws h => ?_) (fun v1 ws h => ?_)
  · obtain ⟨rfl, h⟩ := h
    refine e_catch C hT [] ⟨0, 8, 11, 13⟩ [] rfl (by decide) (by decide +kernel) (by decide) (by decide) w_L_law_k13 (fun q2 => ?_)
    refine e_astore_n C (by decide) dL_law_11 (pc' := 12) rfl (lv' := [some (.ref p0), some (.ref p1), some (.ref q2)]) rfl ?_
    refine e_iconst C (v := (1 : Int32)) (by decide) dL_law_12 (pc' := 13) rfl ?_
    exact r_int C F dL_law_13 (by decide) (by decide) h
  refine e_i2l C dL_law_6 (pc' := 7) rfl ?_
  refine f_lastore C dL_law_7 (pc' := 8) rfl h (fun ws h => ?_)
  refine e_goto C (tg := 14) dL_law_8 (by decide) ?_
  refine e_iconst C (v := (0 : Int32)) (by decide) dL_law_14 (pc' := 15) rfl ?_
  exact r_int C F dL_law_15 (by decide) (by decide) h
abbrev rm_L_says : Room := { frames := 7, cells := 1, slots := 6, locals := 103 }
set_option maxRecDepth 20000 in
theorem w_L_says_k75 : Cond.classLink RL 75 "java/util/NoSuchElementException" ∈ wsL_says := by decide +kernel
def F_L_says (G : Gx) (p0 : Nat) (p1 : Int32) (p2 : Nat) (ws : va_W) (Q : Int32 → va_W → Prop) : Prop := (qV 6 p0 ws ∧ F_X6_says G p0 p1 ws (fun v1 ws => qLs (gc G 5) p2 (0 : Int32) (v1.toInt64) ws (fun ws => Q (0 : Int32) ws)) (fun E ws => (E = "java/util/NoSuchElementException" ∧ Q (1 : Int32) ws)))
set_option maxRecDepth 20000 in
set_option maxHeartbeats 4000000 in
theorem m_L_says {G : Gx} (hst : (gl G).stackTraces = false) {p0 : Nat} {p1 : Int32} {p2 : Nat} {ws : va_W} {Q : Int32 → va_W → Prop} (h : F_L_says G p0 p1 p2 ws Q) : Mt G yL_says wsL_says rm_L_says [.ref p0, .int p1, .ref p2] ws (QtI G Q) := by
  refine mk_Mw (cc := cL_says) (nL := 4) (own := RL) (ret := (some .int)) (lv0 := [some (.ref p0), some (.int p1), some (.ref p2), none]) hst (by decide) rfl rfl (Nat.le_of_ble_eq_true rfl) rfl ?_
  intro K C F hT
  refine e_aload_n C (x := p2) rfl dL_says_0 (pc' := 1) rfl ?_
  refine e_iconst C (v := (0 : Int32)) (by decide) dL_says_1 (pc' := 2) rfl ?_
  refine e_aload_n C (x := p0) rfl dL_says_2 (pc' := 3) rfl ?_
  refine e_iload_n C (x := p1) rfl dL_says_3 (pc' := 4) rfl ?_
  obtain ⟨hv, h⟩ := h
  refine e_xcalli (run_XV (n := 1) C (m_X6_says hst h) gL_says_X6_says rfl ⟨rfl, by decide, by decide, by decide +kernel⟩ ⟨by decide, by decide⟩ (ci := 6) rfl rfl hv rfl (Nat.le_of_ble_eq_true rfl) dL_says_4 ⟨by decide, by decide⟩ (As := [.int p1]) rfl) (pc' := 7) rfl (cn' := 1) (sn' := 6) rfl rfl (fun E ws h => ?_) (fun v1 ws h => ?_)
  · obtain ⟨rfl, h⟩ := h
    refine e_catch C hT [] ⟨0, 9, 12, 75⟩ [] rfl (by decide) (by decide +kernel) (by decide) (by decide) w_L_says_k75 (fun q2 => ?_)
    refine e_astore_n C (by decide) dL_says_12 (pc' := 13) rfl (lv' := [some (.ref p0), some (.int p1), some (.ref p2), some (.ref q2)]) rfl ?_
    refine e_iconst C (v := (1 : Int32)) (by decide) dL_says_13 (pc' := 14) rfl ?_
    exact r_int C F dL_says_14 (by decide) (by decide) h
  refine e_i2l C dL_says_7 (pc' := 8) rfl ?_
  refine f_lastore C dL_says_8 (pc' := 9) rfl h (fun ws h => ?_)
  refine e_goto C (tg := 15) dL_says_9 (by decide) ?_
  refine e_iconst C (v := (0 : Int32)) (by decide) dL_says_15 (pc' := 16) rfl ?_
  exact r_int C F dL_says_16 (by decide) (by decide) h
abbrev rm_L_pays : Room := { frames := 9, cells := 3, slots := 18, locals := 148 }
set_option maxRecDepth 20000 in
theorem w_L_pays_k25 : Cond.classLink RL 25 "java/lang/IndexOutOfBoundsException" ∈ wsL_pays := by decide +kernel
set_option maxRecDepth 20000 in
theorem w_L_pays_k27 : Cond.classLink RL 27 "java/lang/IllegalStateException" ∈ wsL_pays := by decide +kernel
set_option maxRecDepth 20000 in
theorem w_L_pays_k13 : Cond.classLink RL 13 "java/lang/IllegalArgumentException" ∈ wsL_pays := by decide +kernel
def F_L_pays (G : Gx) (p0 : Nat) (p1 : Int32) (p2 : Int32) (p3 : Int32) (p4 : Nat) (ws : va_W) (Q : Int32 → va_W → Prop) : Prop := (qV 6 p0 ws ∧ F_X6_pays G p0 p1 p2 p3 ws (fun v1 ws => qLs (gc G 5) p4 (0 : Int32) (v1.toInt64) ws (fun ws => Q (0 : Int32) ws)) (fun E ws => (E = "java/lang/IndexOutOfBoundsException" ∧ Q (1 : Int32) ws) ∨ (E = "java/lang/IllegalStateException" ∧ Q (2 : Int32) ws) ∨ (E = "java/lang/IllegalArgumentException" ∧ Q (3 : Int32) ws)))
set_option maxRecDepth 20000 in
set_option maxHeartbeats 4000000 in
theorem m_L_pays {G : Gx} (hst : (gl G).stackTraces = false) {p0 : Nat} {p1 : Int32} {p2 : Int32} {p3 : Int32} {p4 : Nat} {ws : va_W} {Q : Int32 → va_W → Prop} (h : F_L_pays G p0 p1 p2 p3 p4 ws Q) : Mt G yL_pays wsL_pays rm_L_pays [.ref p0, .int p1, .int p2, .int p3, .ref p4] ws (QtI G Q) := by
  refine mk_Mw (cc := cL_pays) (nL := 6) (own := RL) (ret := (some .int)) (lv0 := [some (.ref p0), some (.int p1), some (.int p2), some (.int p3), some (.ref p4), none]) hst (by decide) rfl rfl (Nat.le_of_ble_eq_true rfl) rfl ?_
  intro K C F hT
  refine e_aload C (x := p4) rfl dL_pays_0 (pc' := 2) rfl ?_
  refine e_iconst C (v := (0 : Int32)) (by decide) dL_pays_2 (pc' := 3) rfl ?_
  refine e_aload_n C (x := p0) rfl dL_pays_3 (pc' := 4) rfl ?_
  refine e_iload_n C (x := p1) rfl dL_pays_4 (pc' := 5) rfl ?_
  refine e_iload_n C (x := p2) rfl dL_pays_5 (pc' := 6) rfl ?_
  refine e_iload_n C (x := p3) rfl dL_pays_6 (pc' := 7) rfl ?_
  obtain ⟨hv, h⟩ := h
  refine e_xcalli (run_XV (n := 3) C (m_X6_pays hst h) gL_pays_X6_pays rfl ⟨rfl, by decide, by decide, by decide +kernel⟩ ⟨by decide, by decide⟩ (ci := 6) rfl rfl hv rfl (Nat.le_of_ble_eq_true rfl) dL_pays_7 ⟨by decide, by decide⟩ (As := [.int p1, .int p2, .int p3]) rfl) (pc' := 10) rfl (cn' := 3) (sn' := 18) rfl rfl (fun E ws h => ?_) (fun v1 ws h => ?_)
  · rcases h with ⟨rfl, h⟩ | ⟨rfl, h⟩ | ⟨rfl, h⟩
    · refine e_catch C hT [] ⟨0, 12, 15, 25⟩ [⟨0, 12, 19, 27⟩, ⟨0, 12, 23, 13⟩] rfl (by decide) (by decide +kernel) (by decide) (by decide) w_L_pays_k25 (fun q2 => ?_)
      refine e_astore C (by decide) dL_pays_15 (pc' := 17) rfl (lv' := [some (.ref p0), some (.int p1), some (.int p2), some (.int p3), some (.ref p4), some (.ref q2)]) rfl ?_
      refine e_iconst C (v := (1 : Int32)) (by decide) dL_pays_17 (pc' := 18) rfl ?_
      exact r_int C F dL_pays_18 (by decide) (by decide) h
    · refine e_catch C hT [⟨0, 12, 15, 25⟩] ⟨0, 12, 19, 27⟩ [⟨0, 12, 23, 13⟩] rfl (by decide) (by decide +kernel) (by decide) (by decide) w_L_pays_k27 (fun q3 => ?_)
      refine e_astore C (by decide) dL_pays_19 (pc' := 21) rfl (lv' := [some (.ref p0), some (.int p1), some (.int p2), some (.int p3), some (.ref p4), some (.ref q3)]) rfl ?_
      refine e_iconst C (v := (2 : Int32)) (by decide) dL_pays_21 (pc' := 22) rfl ?_
      exact r_int C F dL_pays_22 (by decide) (by decide) h
    · refine e_catch C hT [⟨0, 12, 15, 25⟩, ⟨0, 12, 19, 27⟩] ⟨0, 12, 23, 13⟩ [] rfl (by decide) (by decide +kernel) (by decide) (by decide) w_L_pays_k13 (fun q4 => ?_)
      refine e_astore C (by decide) dL_pays_23 (pc' := 25) rfl (lv' := [some (.ref p0), some (.int p1), some (.int p2), some (.int p3), some (.ref p4), some (.ref q4)]) rfl ?_
      refine e_iconst C (v := (3 : Int32)) (by decide) dL_pays_25 (pc' := 26) rfl ?_
      exact r_int C F dL_pays_26 (by decide) (by decide) h
  refine e_i2l C dL_pays_10 (pc' := 11) rfl ?_
  refine f_lastore C dL_pays_11 (pc' := 12) rfl h (fun ws h => ?_)
  refine e_goto C (tg := 27) dL_pays_12 (by decide) ?_
  refine e_iconst C (v := (0 : Int32)) (by decide) dL_pays_27 (pc' := 28) rfl ?_
  exact r_int C F dL_pays_28 (by decide) (by decide) h
abbrev rm_L_field : Room := { frames := 7, cells := 1, slots := 6, locals := 105 }
set_option maxRecDepth 20000 in
theorem w_L_field_k13 : Cond.classLink RL 13 "java/lang/IllegalArgumentException" ∈ wsL_field := by decide +kernel
def F_L_field (G : Gx) (p0 : Nat) (p1 : Int32) (p2 : Int32) (p3 : Int32) (p4 : Nat) (ws : va_W) (Q : Int32 → va_W → Prop) : Prop := (qV 6 p0 ws ∧ F_X6_field G p0 p1 p2 p3 ws (fun v1 ws => qLs (gc G 5) p4 (0 : Int32) (v1.toInt64) ws (fun ws => Q (0 : Int32) ws)) (fun E ws => (E = "java/lang/IllegalArgumentException" ∧ Q (1 : Int32) ws)))
set_option maxRecDepth 20000 in
set_option maxHeartbeats 4000000 in
theorem m_L_field {G : Gx} (hst : (gl G).stackTraces = false) {p0 : Nat} {p1 : Int32} {p2 : Int32} {p3 : Int32} {p4 : Nat} {ws : va_W} {Q : Int32 → va_W → Prop} (h : F_L_field G p0 p1 p2 p3 p4 ws Q) : Mt G yL_field wsL_field rm_L_field [.ref p0, .int p1, .int p2, .int p3, .ref p4] ws (QtI G Q) := by
  refine mk_Mw (cc := cL_field) (nL := 6) (own := RL) (ret := (some .int)) (lv0 := [some (.ref p0), some (.int p1), some (.int p2), some (.int p3), some (.ref p4), none]) hst (by decide) rfl rfl (Nat.le_of_ble_eq_true rfl) rfl ?_
  intro K C F hT
  refine e_aload C (x := p4) rfl dL_field_0 (pc' := 2) rfl ?_
  refine e_iconst C (v := (0 : Int32)) (by decide) dL_field_2 (pc' := 3) rfl ?_
  refine e_aload_n C (x := p0) rfl dL_field_3 (pc' := 4) rfl ?_
  refine e_iload_n C (x := p1) rfl dL_field_4 (pc' := 5) rfl ?_
  refine e_iload_n C (x := p2) rfl dL_field_5 (pc' := 6) rfl ?_
  refine e_iload_n C (x := p3) rfl dL_field_6 (pc' := 7) rfl ?_
  obtain ⟨hv, h⟩ := h
  refine e_xcalli (run_XV (n := 3) C (m_X6_field hst h) gL_field_X6_field rfl ⟨rfl, by decide, by decide, by decide +kernel⟩ ⟨by decide, by decide⟩ (ci := 6) rfl rfl hv rfl (Nat.le_of_ble_eq_true rfl) dL_field_7 ⟨by decide, by decide⟩ (As := [.int p1, .int p2, .int p3]) rfl) (pc' := 10) rfl (cn' := 1) (sn' := 6) rfl rfl (fun E ws h => ?_) (fun v1 ws h => ?_)
  · obtain ⟨rfl, h⟩ := h
    refine e_catch C hT [] ⟨0, 12, 15, 13⟩ [] rfl (by decide) (by decide +kernel) (by decide) (by decide) w_L_field_k13 (fun q2 => ?_)
    refine e_astore C (by decide) dL_field_15 (pc' := 17) rfl (lv' := [some (.ref p0), some (.int p1), some (.int p2), some (.int p3), some (.ref p4), some (.ref q2)]) rfl ?_
    refine e_iconst C (v := (1 : Int32)) (by decide) dL_field_17 (pc' := 18) rfl ?_
    exact r_int C F dL_field_18 (by decide) (by decide) h
  refine e_i2l C dL_field_10 (pc' := 11) rfl ?_
  refine f_lastore C dL_field_11 (pc' := 12) rfl h (fun ws h => ?_)
  refine e_goto C (tg := 19) dL_field_12 (by decide) ?_
  refine e_iconst C (v := (0 : Int32)) (by decide) dL_field_19 (pc' := 20) rfl ?_
  exact r_int C F dL_field_20 (by decide) (by decide) h
