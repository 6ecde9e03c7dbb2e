abbrev rm_X6_share : Room := { frames := 7, cells := 2, slots := 12, locals := 103 }
set_option maxRecDepth 20000 in
theorem w_X6_share_k241 : Cond.classLink RX6 241 "java/util/NoSuchElementException" ∈ wsX6_share := by decide +kernel
set_option maxRecDepth 20000 in
theorem w_X6_share_i241 : Cond.initialized "java/util/NoSuchElementException" ∈ wsX6_share := by decide +kernel
set_option maxRecDepth 20000 in
theorem gw_X6_share_245 : ∀ w ∈ (vx_atN).filter goodWord, w ∈ wsX6_share := by decide +kernel
set_option maxRecDepth 20000 in
theorem in_X6_share_X4 : ∀ w ∈ wsX40, w ∈ wsX6_share := by decide +kernel
set_option maxRecDepth 20000 in
theorem fl_X6_share_183 : Cond.fieldLink RX6 183 (TX4 0).1 (TX4 0).2.1 (TX4 0).2.2.1 ∈ wsX6_share := by decide +kernel
set_option maxRecDepth 20000 in
theorem fl_X6_share_173 : Cond.fieldLink RX6 173 (TX4 1).1 (TX4 1).2.1 (TX4 1).2.2.1 ∈ wsX6_share := by decide +kernel
set_option maxRecDepth 20000 in
theorem fl_X6_share_176 : Cond.fieldLink RX6 176 (TX4 2).1 (TX4 2).2.1 (TX4 2).2.2.1 ∈ wsX6_share := by decide +kernel
set_option maxRecDepth 20000 in
theorem fl_X6_share_186 : Cond.fieldLink RX6 186 (TX4 3).1 (TX4 3).2.1 (TX4 3).2.2.1 ∈ wsX6_share := by decide +kernel
set_option maxRecDepth 20000 in
theorem in_X6_share_X6 : ∀ w ∈ wsX60, w ∈ wsX6_share := by decide +kernel
set_option maxRecDepth 20000 in
theorem fl_X6_share_208 : Cond.fieldLink RX6 208 (TX6 12).1 (TX6 12).2.1 (TX6 12).2.2.1 ∈ wsX6_share := by decide +kernel
def F_X6_share (G : Gx) (p0 : Nat) (p1 : Int32) (p2 : Int32) (ws : va_W) (Q : Int32 → va_W → Prop) (X : String → va_W → Prop) : Prop := (qV 6 p0 ws ∧ F_X6_shareAt G p0 p1 ws (fun v1 ws => ((p2 = (0 : Int32) → qI 4 0 v1 ws (fun v2 => Q v2 ws)) ∧ (p2 = (1 : Int32) → qI 4 1 v1 ws (fun v3 => Q v3 ws)) ∧ (p2 = (2 : Int32) → qI 4 2 v1 ws (fun v4 => Q v4 ws)) ∧ (p2 = (3 : Int32) → qI 4 3 v1 ws (fun v5 => Q v5 ws)) ∧ (p2 = (4 : Int32) → qI 6 12 p0 ws (fun v6 => (qV 4 v1 ws ∧ F_X4_isLetFrom G v1 v6 ws (fun v7 ws => ((v7 = 0 → Q (0 : Int32) ws) ∧ (¬ v7 = 0 → Q (1 : Int32) ws)))))) ∧ ((p2.toInt < 0 ∨ (4 : Int) < p2.toInt) → X "java/util/NoSuchElementException" ws))) X)
set_option maxRecDepth 20000 in
set_option maxHeartbeats 4000000 in
theorem m_X6_share {G : Gx} (hst : (gl G).stackTraces = false) {p0 : Nat} {p1 : Int32} {p2 : Int32} {ws : va_W} {Q : Int32 → va_W → Prop} {X : String → va_W → Prop} (h : F_X6_share G p0 p1 p2 ws Q X) : Xt G yX6_share wsX6_share rm_X6_share [.ref p0, .int p1, .int p2] ws (QtI G Q) X := by
  refine mk_Xt (cc := cX6_share) (nL := 4) (own := RX6) (ret := (some .int)) (lv0 := [some (.ref p0), some (.int p1), some (.int p2), none]) hst (by decide) rfl rfl (Nat.le_of_ble_eq_true rfl) rfl ?_
  intro K C F
  refine e_aload_n C (x := p0) rfl dX6_share_0 (pc' := 1) rfl ?_
  refine e_iload_n C (x := p1) rfl dX6_share_1 (pc' := 2) rfl ?_
  obtain ⟨hv, h⟩ := h
  refine e_xcallr (run_XV (n := 1) C (m_X6_shareAt hst h) gX6_share_X6_shareAt rfl ⟨rfl, by decide, by decide, by decide +kernel⟩ ⟨by decide, by decide⟩ (ci := 6) rfl rfl hv rfl (Nat.le_of_ble_eq_true rfl) dX6_share_2 ⟨by decide, by decide⟩ (As := [.int p1]) rfl) (pc' := 5) rfl (cn' := 1) (sn' := 6) rfl rfl (fun E u hx => x_out C F (by decide) (by decide) hx) (fun v1 ws h => ?_)
  refine e_astore_n C (by decide) dX6_share_5 (pc' := 6) rfl (lv' := [some (.ref p0), some (.int p1), some (.int p2), some (.ref v1)]) rfl ?_
  refine e_iload_n C (x := p2) rfl dX6_share_6 (pc' := 7) rfl ?_
  obtain ⟨h0, h1, h2, h3, h4, hd⟩ := h
  rcases sw_cases (p2) 4 with hc | hc
  · replace h := hd hc
    refine e_tabOut C (tg := 77) dX6_share_7 hc (by decide) ?_
    exact x_throwN C F (tx := "a share has no such thing") (by decide) w_X6_share_k241 w_X6_share_i241 (by decide) gw_X6_share_245 xb_X6_245 xo_X6_245_241 dX6_share_77 dX6_share_80 dX6_share_81 dX6_share_83 dX6_share_86 (by decide) (by decide) (by decide) (by decide) h
  · obtain ⟨q9, hq9, hc⟩ := hc
    rcases (show q9 = 0 ∨ q9 = 1 ∨ q9 = 2 ∨ q9 = 3 ∨ q9 = 4 by omega) with rfl | rfl | rfl | rfl | rfl
    · replace h := h0 hc
      refine e_tabIn C (tg := 40) dX6_share_7 (by rw [hc]; decide) (by rw [hc]; decide) (by rw [hc]; rfl) (by decide) ?_
      refine e_aload_n C (x := v1) rfl dX6_share_40 (pc' := 41) rfl ?_
      refine f_getI C (ci := 4) (CN := RX4) (TT := TX4) (N := 7) 0 dX6_share_41 (pc' := 44) rfl in_X6_share_X4 rfl (by decide) fl_X6_share_183 h (fun v2 h => ?_)
      exact x_int C F dX6_share_44 (by decide) (by decide) h
    · replace h := h1 hc
      refine e_tabIn C (tg := 45) dX6_share_7 (by rw [hc]; decide) (by rw [hc]; decide) (by rw [hc]; rfl) (by decide) ?_
      refine e_aload_n C (x := v1) rfl dX6_share_45 (pc' := 46) rfl ?_
      refine f_getI C (ci := 4) (CN := RX4) (TT := TX4) (N := 7) 1 dX6_share_46 (pc' := 49) rfl in_X6_share_X4 rfl (by decide) fl_X6_share_173 h (fun v3 h => ?_)
      exact x_int C F dX6_share_49 (by decide) (by decide) h
    · replace h := h2 hc
      refine e_tabIn C (tg := 50) dX6_share_7 (by rw [hc]; decide) (by rw [hc]; decide) (by rw [hc]; rfl) (by decide) ?_
      refine e_aload_n C (x := v1) rfl dX6_share_50 (pc' := 51) rfl ?_
      refine f_getI C (ci := 4) (CN := RX4) (TT := TX4) (N := 7) 2 dX6_share_51 (pc' := 54) rfl in_X6_share_X4 rfl (by decide) fl_X6_share_176 h (fun v4 h => ?_)
      exact x_int C F dX6_share_54 (by decide) (by decide) h
    · replace h := h3 hc
      refine e_tabIn C (tg := 55) dX6_share_7 (by rw [hc]; decide) (by rw [hc]; decide) (by rw [hc]; rfl) (by decide) ?_
      refine e_aload_n C (x := v1) rfl dX6_share_55 (pc' := 56) rfl ?_
      refine f_getI C (ci := 4) (CN := RX4) (TT := TX4) (N := 7) 3 dX6_share_56 (pc' := 59) rfl in_X6_share_X4 rfl (by decide) fl_X6_share_186 h (fun v5 h => ?_)
      exact x_int C F dX6_share_59 (by decide) (by decide) h
    · replace h := h4 hc
      refine e_tabIn C (tg := 60) dX6_share_7 (by rw [hc]; decide) (by rw [hc]; decide) (by rw [hc]; rfl) (by decide) ?_
      refine e_aload_n C (x := v1) rfl dX6_share_60 (pc' := 61) rfl ?_
      refine e_aload_n C (x := p0) rfl dX6_share_61 (pc' := 62) rfl ?_
      refine f_getI C (ci := 6) (CN := RX6) (TT := TX6) (N := 16) 12 dX6_share_62 (pc' := 65) rfl in_X6_share_X6 rfl (by decide) fl_X6_share_208 h (fun v6 h => ?_)
      obtain ⟨hv, h⟩ := h
      refine e_calli (run_V (n := 1) C (m_X4_isLetFrom hst h) gX6_share_X4_isLetFrom rfl ⟨rfl, by decide, by decide, by decide +kernel⟩ ⟨by decide, by decide⟩ (ci := 4) rfl rfl hv rfl (Nat.le_of_ble_eq_true rfl) dX6_share_65 ⟨by decide, by decide⟩ (As := [.int v6]) rfl) (pc' := 68) rfl (cn' := 1) (sn' := 6) rfl rfl (fun v7 ws h => ?_)
      refine e_if_eq C (tg := 75) dX6_share_68 (by decide) (pc' := 71) rfl (fun hc => ?_) (fun hc => ?_)
      · replace h := h.1 hc
        refine e_iconst C (v := (0 : Int32)) (by decide) dX6_share_75 (pc' := 76) rfl ?_
        exact x_int C F dX6_share_76 (by decide) (by decide) h
      · replace h := h.2 hc
        refine e_iconst C (v := (1 : Int32)) (by decide) dX6_share_71 (pc' := 72) rfl ?_
        refine e_goto C (tg := 76) dX6_share_72 (by decide) ?_
        exact x_int C F dX6_share_76 (by decide) (by decide) h
abbrev rm_X3_isLetter : Room := { frames := 1, cells := 0, slots := 0, locals := 22 }
set_option maxRecDepth 20000 in
theorem w_X3_isLetter_iniX6 : Cond.initialized RX6 ∈ wsX3_isLetter := by decide +kernel
set_option maxRecDepth 20000 in
theorem w_X3_isLetter_st_X6_isWithin : Cond.static yX6_isWithin ∈ wsX3_isLetter := by decide +kernel
def F_X3_isLetter (G : Gx) (p0 : Int32) (ws : va_W) (Q : Int32 → va_W → Prop) : Prop := (F_X6_isWithin G p0 (97 : Int32) (122 : Int32) ws (fun v1 ws => ((v1 = 0 ∨ v1 = 1) ∧ Q v1 ws)))
set_option maxRecDepth 20000 in
set_option maxHeartbeats 4000000 in
theorem m_X3_isLetter {G : Gx} (hst : (gl G).stackTraces = false) {p0 : Int32} {ws : va_W} {Q : Int32 → va_W → Prop} (h : F_X3_isLetter G p0 ws Q) : Mt G yX3_isLetter wsX3_isLetter rm_X3_isLetter [.int p0] ws (QtI G Q) := by
  refine mk_Mt (cc := cX3_isLetter) (nL := 1) (own := RX3) (ret := (some .boolean)) (lv0 := [some (.int p0)]) hst (by decide) rfl rfl (Nat.le_of_ble_eq_true rfl) rfl ?_
  intro K C F
  refine e_iload_n C (x := p0) rfl dX3_isLetter_0 (pc' := 1) rfl ?_
  refine e_bipush C (v := (97 : Int32)) (by decide) dX3_isLetter_1 (pc' := 3) rfl ?_
  refine e_bipush C (v := (122 : Int32)) (by decide) dX3_isLetter_3 (pc' := 5) rfl ?_
  refine e_calli (run_SN (n := 3) C (m_X6_isWithin hst h) ggX3_isLetter_X6_isWithin rfl (by decide) w_X3_isLetter_iniX6 w_X3_isLetter_st_X6_isWithin ⟨by decide, by decide, by decide +kernel⟩ ⟨by decide, by decide⟩ rfl (Nat.le_of_ble_eq_true rfl) dX3_isLetter_5 ⟨by decide, by decide⟩ (As := [.int p0, .int (97 : Int32), .int (122 : Int32)]) rfl) (pc' := 8) rfl (cn' := 0) (sn' := 0) rfl rfl (fun v1 ws h => ?_)
  exact r_bool C F dX3_isLetter_8 (by decide) (by decide) h.1 h.2
abbrev rm_X3_isDigit : Room := { frames := 1, cells := 0, slots := 0, locals := 22 }
set_option maxRecDepth 20000 in
theorem w_X3_isDigit_iniX6 : Cond.initialized RX6 ∈ wsX3_isDigit := by decide +kernel
set_option maxRecDepth 20000 in
theorem w_X3_isDigit_st_X6_isWithin : Cond.static yX6_isWithin ∈ wsX3_isDigit := by decide +kernel
def F_X3_isDigit (G : Gx) (p0 : Int32) (ws : va_W) (Q : Int32 → va_W → Prop) : Prop := (F_X6_isWithin G p0 (48 : Int32) (57 : Int32) ws (fun v1 ws => ((v1 = 0 ∨ v1 = 1) ∧ Q v1 ws)))
set_option maxRecDepth 20000 in
set_option maxHeartbeats 4000000 in
theorem m_X3_isDigit {G : Gx} (hst : (gl G).stackTraces = false) {p0 : Int32} {ws : va_W} {Q : Int32 → va_W → Prop} (h : F_X3_isDigit G p0 ws Q) : Mt G yX3_isDigit wsX3_isDigit rm_X3_isDigit [.int p0] ws (QtI G Q) := by
  refine mk_Mt (cc := cX3_isDigit) (nL := 1) (own := RX3) (ret := (some .boolean)) (lv0 := [some (.int p0)]) hst (by decide) rfl rfl (Nat.le_of_ble_eq_true rfl) rfl ?_
  intro K C F
  refine e_iload_n C (x := p0) rfl dX3_isDigit_0 (pc' := 1) rfl ?_
  refine e_bipush C (v := (48 : Int32)) (by decide) dX3_isDigit_1 (pc' := 3) rfl ?_
  refine e_bipush C (v := (57 : Int32)) (by decide) dX3_isDigit_3 (pc' := 5) rfl ?_
  refine e_calli (run_SN (n := 3) C (m_X6_isWithin hst h) ggX3_isDigit_X6_isWithin rfl (by decide) w_X3_isDigit_iniX6 w_X3_isDigit_st_X6_isWithin ⟨by decide, by decide, by decide +kernel⟩ ⟨by decide, by decide⟩ rfl (Nat.le_of_ble_eq_true rfl) dX3_isDigit_5 ⟨by decide, by decide⟩ (As := [.int p0, .int (48 : Int32), .int (57 : Int32)]) rfl) (pc' := 8) rfl (cn' := 0) (sn' := 0) rfl rfl (fun v1 ws h => ?_)
  exact r_bool C F dX3_isDigit_8 (by decide) (by decide) h.1 h.2
abbrev rm_X3_takeThing : Room := { frames := 2, cells := 0, slots := 0, locals := 42 }
set_option maxRecDepth 20000 in
theorem in_X3_takeThing_X3 : ∀ w ∈ wsX30, w ∈ wsX3_takeThing := by decide +kernel
set_option maxRecDepth 20000 in
theorem fl_X3_takeThing_28 : Cond.fieldLink RX3 28 (TX3 3).1 (TX3 3).2.1 (TX3 3).2.2.1 ∈ wsX3_takeThing := by decide +kernel
set_option maxRecDepth 20000 in
theorem fl_X3_takeThing_39 : Cond.fieldLink RX3 39 (TX3 2).1 (TX3 2).2.1 (TX3 2).2.2.1 ∈ wsX3_takeThing := by decide +kernel
set_option maxRecDepth 20000 in
theorem fl_X3_takeThing_12 : Cond.fieldLink RX3 12 (TX3 0).1 (TX3 0).2.1 (TX3 0).2.2.1 ∈ wsX3_takeThing := by decide +kernel
set_option maxRecDepth 20000 in
theorem in_X3_takeThing_X5 : ∀ w ∈ wsX50, w ∈ wsX3_takeThing := by decide +kernel
set_option maxRecDepth 20000 in
theorem fl_X3_takeThing_42 : Cond.fieldLink RX3 42 (TX5 1).1 (TX5 1).2.1 (TX5 1).2.2.1 ∈ wsX3_takeThing := by decide +kernel
set_option maxRecDepth 20000 in
theorem fl_X3_takeThing_45 : Cond.fieldLink RX3 45 (TX5 0).1 (TX5 0).2.1 (TX5 0).2.2.1 ∈ wsX3_takeThing := by decide +kernel
def F_X3_takeThing (G : Gx) (p0 : Nat) (ws : va_W) (Q : va_W → Prop) : Prop := ∀ (J8 : va_W → Prop), ∀ (J52 : va_W → Prop), ∀ (J60 : va_W → Prop), ∀ (J105 : va_W → Prop), ∀ (J117 : va_W → Prop), ∀ (J162 : va_W → Prop), (∀ (ws : va_W), qI 3 2 p0 ws (fun v2 => qR 3 0 p0 ws (fun v3 => qI 5 1 v3 ws (fun v4 => ((v4 ≤ v2 → J52 ws) ∧ (¬ v4 ≤ v2 → qR 3 0 p0 ws (fun v5 => qR 5 0 v5 ws (fun v6 => qI 3 2 p0 ws (fun v7 => qA (gc G 1) v6 v7 ws (fun v8 => ((¬ v8 = (32 : Int32) → J52 ws) ∧ (v8 = (32 : Int32) → qI 3 2 p0 ws (fun v9 => qP 3 2 p0 (.int (v9 + (1 : Int32))) ws (fun ws => J8 ws))))))))))))) → J8 ws) → (∀ (ws : va_W), qI 3 2 p0 ws (fun v10 => qP 3 3 p0 (.int v10) ws (fun ws => J60 ws)) → J52 ws) → (∀ (ws : va_W), qI 3 3 p0 ws (fun v11 => qR 3 0 p0 ws (fun v12 => qI 5 1 v12 ws (fun v13 => ((v13 ≤ v11 → J105 ws) ∧ (¬ v13 ≤ v11 → qR 3 0 p0 ws (fun v14 => qR 5 0 v14 ws (fun v15 => qI 3 3 p0 ws (fun v16 => qA (gc G 1) v15 v16 ws (fun v17 => (F_X3_isLetter G v17 ws (fun v18 ws => ((v18 = 0 → J105 ws) ∧ (¬ v18 = 0 → qI 3 3 p0 ws (fun v19 => qP 3 3 p0 (.int (v19 + (1 : Int32))) ws (fun ws => J60 ws))))))))))))))) → J60 ws) → (∀ (ws : va_W), qI 3 3 p0 ws (fun v20 => qI 3 2 p0 ws (fun v21 => ((v20 ≤ v21 → J117 ws) ∧ (¬ v20 ≤ v21 → Q ws)))) → J105 ws) → (∀ (ws : va_W), qI 3 3 p0 ws (fun v22 => qR 3 0 p0 ws (fun v23 => qI 5 1 v23 ws (fun v24 => ((v24 ≤ v22 → J162 ws) ∧ (¬ v24 ≤ v22 → qR 3 0 p0 ws (fun v25 => qR 5 0 v25 ws (fun v26 => qI 3 3 p0 ws (fun v27 => qA (gc G 1) v26 v27 ws (fun v28 => (F_X3_isDigit G v28 ws (fun v29 ws => ((v29 = 0 → J162 ws) ∧ (¬ v29 = 0 → qI 3 3 p0 ws (fun v30 => qP 3 3 p0 (.int (v30 + (1 : Int32))) ws (fun ws => J117 ws))))))))))))))) → J117 ws) → (∀ (ws : va_W), qI 3 3 p0 ws (fun v31 => qI 3 2 p0 ws (fun v32 => ((¬ v31 = v32 → Q ws) ∧ (v31 = v32 → qI 3 2 p0 ws (fun v33 => qR 3 0 p0 ws (fun v34 => qI 5 1 v34 ws (fun v35 => ((v35 ≤ v33 → Q ws) ∧ (¬ v35 ≤ v33 → qI 3 3 p0 ws (fun v36 => qP 3 3 p0 (.int (v36 + (1 : Int32))) ws (fun ws => Q ws))))))))))) → J162 ws) → qI 3 3 p0 ws (fun v1 => qP 3 2 p0 (.int v1) ws (fun ws => J8 ws))
set_option maxRecDepth 20000 in
set_option maxHeartbeats 4000000 in
theorem m_X3_takeThing {G : Gx} (hst : (gl G).stackTraces = false) {p0 : Nat} {ws : va_W} {Q : va_W → Prop} (h : F_X3_takeThing G p0 ws Q) : Mt G yX3_takeThing wsX3_takeThing rm_X3_takeThing [.ref p0] ws (QtV G Q) := by
  refine mk_Mt (cc := cX3_takeThing) (nL := 1) (own := RX3) (ret := none) (lv0 := [some (.ref p0)]) hst (by decide) rfl rfl (Nat.le_of_ble_eq_true rfl) rfl ?_
  intro K C F
  replace h := h (fun ws => Ev K G 1 0 0 8 [some (.ref p0)] [] ws) (fun ws => Ev K G 1 0 0 52 [some (.ref p0)] [] ws) (fun ws => Ev K G 1 0 0 60 [some (.ref p0)] [] ws) (fun ws => Ev K G 1 0 0 105 [some (.ref p0)] [] ws) (fun ws => Ev K G 1 0 0 117 [some (.ref p0)] [] ws) (fun ws => Ev K G 1 0 0 162 [some (.ref p0)] [] ws)
  replace h := h (by
    intro ws h
    show Ev K G 1 0 0 8 [some (.ref p0)] [] ws
    refine e_aload_n C (x := p0) rfl dX3_takeThing_8 (pc' := 9) rfl ?_
    refine f_getI C (ci := 3) (CN := RX3) (TT := TX3) (N := 4) 2 dX3_takeThing_9 (pc' := 12) rfl in_X3_takeThing_X3 rfl (by decide) fl_X3_takeThing_39 h (fun v2 h => ?_)
    refine e_aload_n C (x := p0) rfl dX3_takeThing_12 (pc' := 13) rfl ?_
    refine f_getR C (ci := 3) (CN := RX3) (TT := TX3) (N := 4) 0 dX3_takeThing_13 (pc' := 16) rfl in_X3_takeThing_X3 rfl (by decide) fl_X3_takeThing_12 h (fun v3 h => ?_)
    refine f_getI C (ci := 5) (CN := RX5) (TT := TX5) (N := 2) 1 dX3_takeThing_16 (pc' := 19) rfl in_X3_takeThing_X5 rfl (by decide) fl_X3_takeThing_42 h (fun v4 h => ?_)
    refine e_icmp_ge C (tg := 52) dX3_takeThing_19 (by decide) (pc' := 22) rfl (fun hc => ?_) (fun hc => ?_)
    · replace h := h.1 hc
      exact h
    · replace h := h.2 hc
      refine e_aload_n C (x := p0) rfl dX3_takeThing_22 (pc' := 23) rfl ?_
      refine f_getR C (ci := 3) (CN := RX3) (TT := TX3) (N := 4) 0 dX3_takeThing_23 (pc' := 26) rfl in_X3_takeThing_X3 rfl (by decide) fl_X3_takeThing_12 h (fun v5 h => ?_)
      refine f_getR C (ci := 5) (CN := RX5) (TT := TX5) (N := 2) 0 dX3_takeThing_26 (pc' := 29) rfl in_X3_takeThing_X5 rfl (by decide) fl_X3_takeThing_45 h (fun v6 h => ?_)
      refine e_aload_n C (x := p0) rfl dX3_takeThing_29 (pc' := 30) rfl ?_
      refine f_getI C (ci := 3) (CN := RX3) (TT := TX3) (N := 4) 2 dX3_takeThing_30 (pc' := 33) rfl in_X3_takeThing_X3 rfl (by decide) fl_X3_takeThing_39 h (fun v7 h => ?_)
      refine f_iaload C dX3_takeThing_33 (pc' := 34) rfl h (fun v8 h => ?_)
      refine e_bipush C (v := (32 : Int32)) (by decide) dX3_takeThing_34 (pc' := 36) rfl ?_
      refine e_icmp_ne C (tg := 52) dX3_takeThing_36 (by decide) (pc' := 39) rfl (fun hc => ?_) (fun hc => ?_)
      · replace h := h.1 hc
        exact h
      · replace h := h.2 hc
        refine e_aload_n C (x := p0) rfl dX3_takeThing_39 (pc' := 40) rfl ?_
        refine e_dup C rfl dX3_takeThing_40 (pc' := 41) rfl ?_
        refine f_getI C (ci := 3) (CN := RX3) (TT := TX3) (N := 4) 2 dX3_takeThing_41 (pc' := 44) rfl in_X3_takeThing_X3 rfl (by decide) fl_X3_takeThing_39 h (fun v9 h => ?_)
        refine e_iconst C (v := (1 : Int32)) (by decide) dX3_takeThing_44 (pc' := 45) rfl ?_
        refine e_iadd C dX3_takeThing_45 (pc' := 46) rfl ?_
        refine f_putI C (ci := 3) (CN := RX3) (TT := TX3) (N := 4) 2 tyX3 dX3_takeThing_46 (pc' := 49) rfl in_X3_takeThing_X3 tyX3_ok nmX3 rfl (by decide) fl_X3_takeThing_39 rfl (by decide +kernel) h (fun ws h => ?_)
        refine e_goto C (tg := 8) dX3_takeThing_49 (by decide) ?_
        exact h)
  replace h := h (by
    intro ws h
    show Ev K G 1 0 0 52 [some (.ref p0)] [] ws
    refine e_aload_n C (x := p0) rfl dX3_takeThing_52 (pc' := 53) rfl ?_
    refine e_aload_n C (x := p0) rfl dX3_takeThing_53 (pc' := 54) rfl ?_
    refine f_getI C (ci := 3) (CN := RX3) (TT := TX3) (N := 4) 2 dX3_takeThing_54 (pc' := 57) rfl in_X3_takeThing_X3 rfl (by decide) fl_X3_takeThing_39 h (fun v10 h => ?_)
    refine f_putI C (ci := 3) (CN := RX3) (TT := TX3) (N := 4) 3 tyX3 dX3_takeThing_57 (pc' := 60) rfl in_X3_takeThing_X3 tyX3_ok nmX3 rfl (by decide) fl_X3_takeThing_28 rfl (by decide +kernel) h (fun ws h => ?_)
    exact h)
  replace h := h (by
    intro ws h
    show Ev K G 1 0 0 60 [some (.ref p0)] [] ws
    refine e_aload_n C (x := p0) rfl dX3_takeThing_60 (pc' := 61) rfl ?_
    refine f_getI C (ci := 3) (CN := RX3) (TT := TX3) (N := 4) 3 dX3_takeThing_61 (pc' := 64) rfl in_X3_takeThing_X3 rfl (by decide) fl_X3_takeThing_28 h (fun v11 h => ?_)
    refine e_aload_n C (x := p0) rfl dX3_takeThing_64 (pc' := 65) rfl ?_
    refine f_getR C (ci := 3) (CN := RX3) (TT := TX3) (N := 4) 0 dX3_takeThing_65 (pc' := 68) rfl in_X3_takeThing_X3 rfl (by decide) fl_X3_takeThing_12 h (fun v12 h => ?_)
    refine f_getI C (ci := 5) (CN := RX5) (TT := TX5) (N := 2) 1 dX3_takeThing_68 (pc' := 71) rfl in_X3_takeThing_X5 rfl (by decide) fl_X3_takeThing_42 h (fun v13 h => ?_)
    refine e_icmp_ge C (tg := 105) dX3_takeThing_71 (by decide) (pc' := 74) rfl (fun hc => ?_) (fun hc => ?_)
    · replace h := h.1 hc
      exact h
    · replace h := h.2 hc
      refine e_aload_n C (x := p0) rfl dX3_takeThing_74 (pc' := 75) rfl ?_
      refine f_getR C (ci := 3) (CN := RX3) (TT := TX3) (N := 4) 0 dX3_takeThing_75 (pc' := 78) rfl in_X3_takeThing_X3 rfl (by decide) fl_X3_takeThing_12 h (fun v14 h => ?_)
      refine f_getR C (ci := 5) (CN := RX5) (TT := TX5) (N := 2) 0 dX3_takeThing_78 (pc' := 81) rfl in_X3_takeThing_X5 rfl (by decide) fl_X3_takeThing_45 h (fun v15 h => ?_)
      refine e_aload_n C (x := p0) rfl dX3_takeThing_81 (pc' := 82) rfl ?_
      refine f_getI C (ci := 3) (CN := RX3) (TT := TX3) (N := 4) 3 dX3_takeThing_82 (pc' := 85) rfl in_X3_takeThing_X3 rfl (by decide) fl_X3_takeThing_28 h (fun v16 h => ?_)
      refine f_iaload C dX3_takeThing_85 (pc' := 86) rfl h (fun v17 h => ?_)
      refine e_calli (run_S (n := 1) C (m_X3_isLetter hst h) gX3_takeThing_X3_isLetter rfl ⟨rfl, by decide, by decide, by decide +kernel⟩ ⟨by decide, by decide⟩ rfl (Nat.le_of_ble_eq_true rfl) dX3_takeThing_86 ⟨by decide, by decide⟩ (As := [.int v17]) rfl) (pc' := 89) rfl (cn' := 0) (sn' := 0) rfl rfl (fun v18 ws h => ?_)
      refine e_if_eq C (tg := 105) dX3_takeThing_89 (by decide) (pc' := 92) rfl (fun hc => ?_) (fun hc => ?_)
      · replace h := h.1 hc
        exact h
      · replace h := h.2 hc
        refine e_aload_n C (x := p0) rfl dX3_takeThing_92 (pc' := 93) rfl ?_
        refine e_dup C rfl dX3_takeThing_93 (pc' := 94) rfl ?_
        refine f_getI C (ci := 3) (CN := RX3) (TT := TX3) (N := 4) 3 dX3_takeThing_94 (pc' := 97) rfl in_X3_takeThing_X3 rfl (by decide) fl_X3_takeThing_28 h (fun v19 h => ?_)
        refine e_iconst C (v := (1 : Int32)) (by decide) dX3_takeThing_97 (pc' := 98) rfl ?_
        refine e_iadd C dX3_takeThing_98 (pc' := 99) rfl ?_
        refine f_putI C (ci := 3) (CN := RX3) (TT := TX3) (N := 4) 3 tyX3 dX3_takeThing_99 (pc' := 102) rfl in_X3_takeThing_X3 tyX3_ok nmX3 rfl (by decide) fl_X3_takeThing_28 rfl (by decide +kernel) h (fun ws h => ?_)
        refine e_goto C (tg := 60) dX3_takeThing_102 (by decide) ?_
        exact h)
  replace h := h (by
    intro ws h
    show Ev K G 1 0 0 105 [some (.ref p0)] [] ws
    refine e_aload_n C (x := p0) rfl dX3_takeThing_105 (pc' := 106) rfl ?_
    refine f_getI C (ci := 3) (CN := RX3) (TT := TX3) (N := 4) 3 dX3_takeThing_106 (pc' := 109) rfl in_X3_takeThing_X3 rfl (by decide) fl_X3_takeThing_28 h (fun v20 h => ?_)
    refine e_aload_n C (x := p0) rfl dX3_takeThing_109 (pc' := 110) rfl ?_
    refine f_getI C (ci := 3) (CN := RX3) (TT := TX3) (N := 4) 2 dX3_takeThing_110 (pc' := 113) rfl in_X3_takeThing_X3 rfl (by decide) fl_X3_takeThing_39 h (fun v21 h => ?_)
    refine e_icmp_le C (tg := 117) dX3_takeThing_113 (by decide) (pc' := 116) rfl (fun hc => ?_) (fun hc => ?_)
    · replace h := h.1 hc
      exact h
    · replace h := h.2 hc
      exact r_void C F dX3_takeThing_116 (by decide) (by decide) h)
  replace h := h (by
    intro ws h
    show Ev K G 1 0 0 117 [some (.ref p0)] [] ws
    refine e_aload_n C (x := p0) rfl dX3_takeThing_117 (pc' := 118) rfl ?_
    refine f_getI C (ci := 3) (CN := RX3) (TT := TX3) (N := 4) 3 dX3_takeThing_118 (pc' := 121) rfl in_X3_takeThing_X3 rfl (by decide) fl_X3_takeThing_28 h (fun v22 h => ?_)
    refine e_aload_n C (x := p0) rfl dX3_takeThing_121 (pc' := 122) rfl ?_
    refine f_getR C (ci := 3) (CN := RX3) (TT := TX3) (N := 4) 0 dX3_takeThing_122 (pc' := 125) rfl in_X3_takeThing_X3 rfl (by decide) fl_X3_takeThing_12 h (fun v23 h => ?_)
    refine f_getI C (ci := 5) (CN := RX5) (TT := TX5) (N := 2) 1 dX3_takeThing_125 (pc' := 128) rfl in_X3_takeThing_X5 rfl (by decide) fl_X3_takeThing_42 h (fun v24 h => ?_)
    refine e_icmp_ge C (tg := 162) dX3_takeThing_128 (by decide) (pc' := 131) rfl (fun hc => ?_) (fun hc => ?_)
    · replace h := h.1 hc
      exact h
    · replace h := h.2 hc
      refine e_aload_n C (x := p0) rfl dX3_takeThing_131 (pc' := 132) rfl ?_
      refine f_getR C (ci := 3) (CN := RX3) (TT := TX3) (N := 4) 0 dX3_takeThing_132 (pc' := 135) rfl in_X3_takeThing_X3 rfl (by decide) fl_X3_takeThing_12 h (fun v25 h => ?_)
      refine f_getR C (ci := 5) (CN := RX5) (TT := TX5) (N := 2) 0 dX3_takeThing_135 (pc' := 138) rfl in_X3_takeThing_X5 rfl (by decide) fl_X3_takeThing_45 h (fun v26 h => ?_)
      refine e_aload_n C (x := p0) rfl dX3_takeThing_138 (pc' := 139) rfl ?_
      refine f_getI C (ci := 3) (CN := RX3) (TT := TX3) (N := 4) 3 dX3_takeThing_139 (pc' := 142) rfl in_X3_takeThing_X3 rfl (by decide) fl_X3_takeThing_28 h (fun v27 h => ?_)
      refine f_iaload C dX3_takeThing_142 (pc' := 143) rfl h (fun v28 h => ?_)
      refine e_calli (run_S (n := 1) C (m_X3_isDigit hst h) gX3_takeThing_X3_isDigit rfl ⟨rfl, by decide, by decide, by decide +kernel⟩ ⟨by decide, by decide⟩ rfl (Nat.le_of_ble_eq_true rfl) dX3_takeThing_143 ⟨by decide, by decide⟩ (As := [.int v28]) rfl) (pc' := 146) rfl (cn' := 0) (sn' := 0) rfl rfl (fun v29 ws h => ?_)
      refine e_if_eq C (tg := 162) dX3_takeThing_146 (by decide) (pc' := 149) rfl (fun hc => ?_) (fun hc => ?_)
      · replace h := h.1 hc
        exact h
      · replace h := h.2 hc
        refine e_aload_n C (x := p0) rfl dX3_takeThing_149 (pc' := 150) rfl ?_
        refine e_dup C rfl dX3_takeThing_150 (pc' := 151) rfl ?_
        refine f_getI C (ci := 3) (CN := RX3) (TT := TX3) (N := 4) 3 dX3_takeThing_151 (pc' := 154) rfl in_X3_takeThing_X3 rfl (by decide) fl_X3_takeThing_28 h (fun v30 h => ?_)
        refine e_iconst C (v := (1 : Int32)) (by decide) dX3_takeThing_154 (pc' := 155) rfl ?_
        refine e_iadd C dX3_takeThing_155 (pc' := 156) rfl ?_
        refine f_putI C (ci := 3) (CN := RX3) (TT := TX3) (N := 4) 3 tyX3 dX3_takeThing_156 (pc' := 159) rfl in_X3_takeThing_X3 tyX3_ok nmX3 rfl (by decide) fl_X3_takeThing_28 rfl (by decide +kernel) h (fun ws h => ?_)
        refine e_goto C (tg := 117) dX3_takeThing_159 (by decide) ?_
        exact h)
  replace h := h (by
    intro ws h
    show Ev K G 1 0 0 162 [some (.ref p0)] [] ws
    refine e_aload_n C (x := p0) rfl dX3_takeThing_162 (pc' := 163) rfl ?_
    refine f_getI C (ci := 3) (CN := RX3) (TT := TX3) (N := 4) 3 dX3_takeThing_163 (pc' := 166) rfl in_X3_takeThing_X3 rfl (by decide) fl_X3_takeThing_28 h (fun v31 h => ?_)
    refine e_aload_n C (x := p0) rfl dX3_takeThing_166 (pc' := 167) rfl ?_
    refine f_getI C (ci := 3) (CN := RX3) (TT := TX3) (N := 4) 2 dX3_takeThing_167 (pc' := 170) rfl in_X3_takeThing_X3 rfl (by decide) fl_X3_takeThing_39 h (fun v32 h => ?_)
    refine e_icmp_ne C (tg := 197) dX3_takeThing_170 (by decide) (pc' := 173) rfl (fun hc => ?_) (fun hc => ?_)
    · replace h := h.1 hc
      exact r_void C F dX3_takeThing_197 (by decide) (by decide) h
    · replace h := h.2 hc
      refine e_aload_n C (x := p0) rfl dX3_takeThing_173 (pc' := 174) rfl ?_
      refine f_getI C (ci := 3) (CN := RX3) (TT := TX3) (N := 4) 2 dX3_takeThing_174 (pc' := 177) rfl in_X3_takeThing_X3 rfl (by decide) fl_X3_takeThing_39 h (fun v33 h => ?_)
      refine e_aload_n C (x := p0) rfl dX3_takeThing_177 (pc' := 178) rfl ?_
      refine f_getR C (ci := 3) (CN := RX3) (TT := TX3) (N := 4) 0 dX3_takeThing_178 (pc' := 181) rfl in_X3_takeThing_X3 rfl (by decide) fl_X3_takeThing_12 h (fun v34 h => ?_)
      refine f_getI C (ci := 5) (CN := RX5) (TT := TX5) (N := 2) 1 dX3_takeThing_181 (pc' := 184) rfl in_X3_takeThing_X5 rfl (by decide) fl_X3_takeThing_42 h (fun v35 h => ?_)
      refine e_icmp_ge C (tg := 197) dX3_takeThing_184 (by decide) (pc' := 187) rfl (fun hc => ?_) (fun hc => ?_)
      · replace h := h.1 hc
        exact r_void C F dX3_takeThing_197 (by decide) (by decide) h
      · replace h := h.2 hc
        refine e_aload_n C (x := p0) rfl dX3_takeThing_187 (pc' := 188) rfl ?_
        refine e_dup C rfl dX3_takeThing_188 (pc' := 189) rfl ?_
        refine f_getI C (ci := 3) (CN := RX3) (TT := TX3) (N := 4) 3 dX3_takeThing_189 (pc' := 192) rfl in_X3_takeThing_X3 rfl (by decide) fl_X3_takeThing_28 h (fun v36 h => ?_)
        refine e_iconst C (v := (1 : Int32)) (by decide) dX3_takeThing_192 (pc' := 193) rfl ?_
        refine e_iadd C dX3_takeThing_193 (pc' := 194) rfl ?_
        refine f_putI C (ci := 3) (CN := RX3) (TT := TX3) (N := 4) 3 tyX3 dX3_takeThing_194 (pc' := 197) rfl in_X3_takeThing_X3 tyX3_ok nmX3 rfl (by decide) fl_X3_takeThing_28 rfl (by decide +kernel) h (fun ws h => ?_)
        exact r_void C F dX3_takeThing_197 (by decide) (by decide) h)
  refine e_aload_n C (x := p0) rfl dX3_takeThing_0 (pc' := 1) rfl ?_
  refine e_aload_n C (x := p0) rfl dX3_takeThing_1 (pc' := 2) rfl ?_
  refine f_getI C (ci := 3) (CN := RX3) (TT := TX3) (N := 4) 3 dX3_takeThing_2 (pc' := 5) rfl in_X3_takeThing_X3 rfl (by decide) fl_X3_takeThing_28 h (fun v1 h => ?_)
  refine f_putI C (ci := 3) (CN := RX3) (TT := TX3) (N := 4) 2 tyX3 dX3_takeThing_5 (pc' := 8) rfl in_X3_takeThing_X3 tyX3_ok nmX3 rfl (by decide) fl_X3_takeThing_39 rfl (by decide +kernel) h (fun ws h => ?_)
  exact h
abbrev rm_X3_isWord : Room := { frames := 4, cells := 0, slots := 0, locals := 85 }
set_option maxRecDepth 20000 in
theorem in_X3_isWord_X3 : ∀ w ∈ wsX30, w ∈ wsX3_isWord := by decide +kernel
set_option maxRecDepth 20000 in
theorem fl_X3_isWord_28 : Cond.fieldLink RX3 28 (TX3 3).1 (TX3 3).2.1 (TX3 3).2.2.1 ∈ wsX3_isWord := by decide +kernel
set_option maxRecDepth 20000 in
theorem fl_X3_isWord_39 : Cond.fieldLink RX3 39 (TX3 2).1 (TX3 2).2.1 (TX3 2).2.2.1 ∈ wsX3_isWord := by decide +kernel
set_option maxRecDepth 20000 in
theorem fl_X3_isWord_12 : Cond.fieldLink RX3 12 (TX3 0).1 (TX3 0).2.1 (TX3 0).2.2.1 ∈ wsX3_isWord := by decide +kernel
set_option maxRecDepth 20000 in
theorem in_X3_isWord_X5 : ∀ w ∈ wsX50, w ∈ wsX3_isWord := by decide +kernel
set_option maxRecDepth 20000 in
theorem fl_X3_isWord_45 : Cond.fieldLink RX3 45 (TX5 0).1 (TX5 0).2.1 (TX5 0).2.2.1 ∈ wsX3_isWord := by decide +kernel
def F_X3_isWord (G : Gx) (p0 : Nat) (p1 : Nat) (ws : va_W) (Q : Int32 → va_W → Prop) : Prop := ∀ (J20 : Int32 → va_W → Prop), (∀ (x2 : Int32) (ws : va_W), qLn G p1 (fun v4 => ((v4 ≤ x2 → Q (1 : Int32) ws) ∧ (¬ v4 ≤ x2 → qR 3 0 p0 ws (fun v5 => qR 5 0 v5 ws (fun v6 => qI 3 2 p0 ws (fun v7 => qA (gc G 1) v6 (v7 + x2) ws (fun v8 => qCh G p1 x2 (fun v9 => ((v8 = v9 → J20 (x2 + (1 : Int32)) ws) ∧ (¬ v8 = v9 → Q (0 : Int32) ws)))))))))) → J20 x2 ws) → qI 3 3 p0 ws (fun v1 => qI 3 2 p0 ws (fun v2 => qLn G p1 (fun v3 => (((v1 - v2) = v3 → J20 (0 : Int32) ws) ∧ (¬ (v1 - v2) = v3 → Q (0 : Int32) ws)))))
set_option maxRecDepth 20000 in
set_option maxHeartbeats 4000000 in
theorem m_X3_isWord {G : Gx} (hst : (gl G).stackTraces = false) {p0 : Nat} {p1 : Nat} {ws : va_W} {Q : Int32 → va_W → Prop} (h : F_X3_isWord G p0 p1 ws Q) : Mt G yX3_isWord wsX3_isWord rm_X3_isWord [.ref p0, .ref p1] ws (QtI G Q) := by
  refine mk_Mt (cc := cX3_isWord) (nL := 3) (own := RX3) (ret := (some .boolean)) (lv0 := [some (.ref p0), some (.ref p1), none]) hst (by decide) rfl rfl (Nat.le_of_ble_eq_true rfl) rfl ?_
  intro K C F
  replace h := h (fun x2 ws => Ev K G 3 0 0 20 [some (.ref p0), some (.ref p1), some (.int x2)] [] ws)
  replace h := h (by
    intro x2 ws h
    show Ev K G 3 0 0 20 [some (.ref p0), some (.ref p1), some (.int x2)] [] ws
    refine e_iload_n C (x := x2) rfl dX3_isWord_20 (pc' := 21) rfl ?_
    refine e_aload_n C (x := p1) rfl dX3_isWord_21 (pc' := 22) rfl ?_
    refine f_length C hst dX3_isWord_22 (pc' := 25) rfl gX3_isWord_J0_length_8abf5 ⟨by decide, by decide⟩ (Nat.le_of_ble_eq_true rfl) ⟨by decide, by decide⟩ h (fun v4 h => ?_)
    refine e_icmp_ge C (tg := 58) dX3_isWord_25 (by decide) (pc' := 28) rfl (fun hc => ?_) (fun hc => ?_)
    · replace h := h.1 hc
      refine e_iconst C (v := (1 : Int32)) (by decide) dX3_isWord_58 (pc' := 59) rfl ?_
      exact r_bool C F dX3_isWord_59 (by decide) (by decide) (Or.inr rfl) h
    · replace h := h.2 hc
      refine e_aload_n C (x := p0) rfl dX3_isWord_28 (pc' := 29) rfl ?_
      refine f_getR C (ci := 3) (CN := RX3) (TT := TX3) (N := 4) 0 dX3_isWord_29 (pc' := 32) rfl in_X3_isWord_X3 rfl (by decide) fl_X3_isWord_12 h (fun v5 h => ?_)
      refine f_getR C (ci := 5) (CN := RX5) (TT := TX5) (N := 2) 0 dX3_isWord_32 (pc' := 35) rfl in_X3_isWord_X5 rfl (by decide) fl_X3_isWord_45 h (fun v6 h => ?_)
      refine e_aload_n C (x := p0) rfl dX3_isWord_35 (pc' := 36) rfl ?_
      refine f_getI C (ci := 3) (CN := RX3) (TT := TX3) (N := 4) 2 dX3_isWord_36 (pc' := 39) rfl in_X3_isWord_X3 rfl (by decide) fl_X3_isWord_39 h (fun v7 h => ?_)
      refine e_iload_n C (x := x2) rfl dX3_isWord_39 (pc' := 40) rfl ?_
      refine e_iadd C dX3_isWord_40 (pc' := 41) rfl ?_
      refine f_iaload C dX3_isWord_41 (pc' := 42) rfl h (fun v8 h => ?_)
      refine e_aload_n C (x := p1) rfl dX3_isWord_42 (pc' := 43) rfl ?_
      refine e_iload_n C (x := x2) rfl dX3_isWord_43 (pc' := 44) rfl ?_
      refine f_charAt C hst dX3_isWord_44 (pc' := 47) rfl gX3_isWord_J0_charAt_5068e ⟨by decide, by decide⟩ (Nat.le_of_ble_eq_true rfl) ⟨by decide, by decide⟩ h (fun v9 h => ?_)
      refine e_icmp_eq C (tg := 52) dX3_isWord_47 (by decide) (pc' := 50) rfl (fun hc => ?_) (fun hc => ?_)
      · replace h := h.1 hc
        refine e_iinc C dX3_isWord_52 (x := x2) (v := (x2 + (1 : Int32))) rfl rfl (by decide) (pc' := 55) rfl (lv' := [some (.ref p0), some (.ref p1), some (.int (x2 + (1 : Int32)))]) rfl ?_
        refine e_goto C (tg := 20) dX3_isWord_55 (by decide) ?_
        exact h
      · replace h := h.2 hc
        refine e_iconst C (v := (0 : Int32)) (by decide) dX3_isWord_50 (pc' := 51) rfl ?_
        exact r_bool C F dX3_isWord_51 (by decide) (by decide) (Or.inl rfl) h)
  refine e_aload_n C (x := p0) rfl dX3_isWord_0 (pc' := 1) rfl ?_
  refine f_getI C (ci := 3) (CN := RX3) (TT := TX3) (N := 4) 3 dX3_isWord_1 (pc' := 4) rfl in_X3_isWord_X3 rfl (by decide) fl_X3_isWord_28 h (fun v1 h => ?_)
  refine e_aload_n C (x := p0) rfl dX3_isWord_4 (pc' := 5) rfl ?_
  refine f_getI C (ci := 3) (CN := RX3) (TT := TX3) (N := 4) 2 dX3_isWord_5 (pc' := 8) rfl in_X3_isWord_X3 rfl (by decide) fl_X3_isWord_39 h (fun v2 h => ?_)
  refine e_isub C dX3_isWord_8 (pc' := 9) rfl ?_
  refine e_aload_n C (x := p1) rfl dX3_isWord_9 (pc' := 10) rfl ?_
  refine f_length C hst dX3_isWord_10 (pc' := 13) rfl gX3_isWord_J0_length_8abf5 ⟨by decide, by decide⟩ (Nat.le_of_ble_eq_true rfl) ⟨by decide, by decide⟩ h (fun v3 h => ?_)
  refine e_icmp_eq C (tg := 18) dX3_isWord_13 (by decide) (pc' := 16) rfl (fun hc => ?_) (fun hc => ?_)
  · replace h := h.1 hc
    refine e_iconst C (v := (0 : Int32)) (by decide) dX3_isWord_18 (pc' := 19) rfl ?_
    refine e_istore_n C (by decide) dX3_isWord_19 (pc' := 20) rfl (lv' := [some (.ref p0), some (.ref p1), some (.int (0 : Int32))]) rfl ?_
    exact h
  · replace h := h.2 hc
    refine e_iconst C (v := (0 : Int32)) (by decide) dX3_isWord_16 (pc' := 17) rfl ?_
    exact r_bool C F dX3_isWord_17 (by decide) (by decide) (Or.inl rfl) h
abbrev rm_X3_isNumber : Room := { frames := 3, cells := 0, slots := 0, locals := 62 }
set_option maxRecDepth 20000 in
theorem in_X3_isNumber_X3 : ∀ w ∈ wsX30, w ∈ wsX3_isNumber := by decide +kernel
set_option maxRecDepth 20000 in
theorem fl_X3_isNumber_39 : Cond.fieldLink RX3 39 (TX3 2).1 (TX3 2).2.1 (TX3 2).2.2.1 ∈ wsX3_isNumber := by decide +kernel
set_option maxRecDepth 20000 in
theorem fl_X3_isNumber_12 : Cond.fieldLink RX3 12 (TX3 0).1 (TX3 0).2.1 (TX3 0).2.2.1 ∈ wsX3_isNumber := by decide +kernel
set_option maxRecDepth 20000 in
theorem in_X3_isNumber_X5 : ∀ w ∈ wsX50, w ∈ wsX3_isNumber := by decide +kernel
set_option maxRecDepth 20000 in
theorem fl_X3_isNumber_42 : Cond.fieldLink RX3 42 (TX5 1).1 (TX5 1).2.1 (TX5 1).2.2.1 ∈ wsX3_isNumber := by decide +kernel
set_option maxRecDepth 20000 in
theorem fl_X3_isNumber_45 : Cond.fieldLink RX3 45 (TX5 0).1 (TX5 0).2.1 (TX5 0).2.2.1 ∈ wsX3_isNumber := by decide +kernel
set_option maxRecDepth 20000 in
theorem fl_X3_isNumber_28 : Cond.fieldLink RX3 28 (TX3 3).1 (TX3 3).2.1 (TX3 3).2.2.1 ∈ wsX3_isNumber := by decide +kernel
set_option maxRecDepth 20000 in
theorem fl_X3_isNumber_18 : Cond.fieldLink RX3 18 (TX3 1).1 (TX3 1).2.1 (TX3 1).2.2.1 ∈ wsX3_isNumber := by decide +kernel
def F_X3_isNumber (G : Gx) (p0 : Nat) (p1 : Int32) (p2 : Int32) (ws : va_W) (Q : Int32 → va_W → Prop) : Prop := ∀ (J59 : Int32 → Int32 → va_W → Prop), (∀ (x3 : Int32) (x4 : Int32) (ws : va_W), qI 3 3 p0 ws (fun v13 => ((v13 ≤ x4 → ((x3 ≤ p2 → qR 3 1 p0 ws (fun v14 => qS (gc G 1) v14 p1 x3 ws (fun ws => Q (1 : Int32) ws))) ∧ (¬ x3 ≤ p2 → Q (0 : Int32) ws))) ∧ (¬ v13 ≤ x4 → qR 3 0 p0 ws (fun v15 => qR 5 0 v15 ws (fun v16 => qA (gc G 1) v16 x4 ws (fun v17 => J59 (((x3 * (10 : Int32)) + v17) - (48 : Int32)) (x4 + (1 : Int32)) ws)))))) → J59 x3 x4 ws) → (qV 3 p0 ws ∧ F_X3_takeThing G p0 ws (fun ws => qI 3 2 p0 ws (fun v2 => qR 3 0 p0 ws (fun v3 => qI 5 1 v3 ws (fun v4 => ((v4 ≤ v2 → Q (0 : Int32) ws) ∧ (¬ v4 ≤ v2 → qR 3 0 p0 ws (fun v5 => qR 5 0 v5 ws (fun v6 => qI 3 2 p0 ws (fun v7 => qA (gc G 1) v6 v7 ws (fun v8 => (F_X3_isDigit G v8 ws (fun v9 ws => ((v9 = 0 → Q (0 : Int32) ws) ∧ (¬ v9 = 0 → qI 3 3 p0 ws (fun v10 => qI 3 2 p0 ws (fun v11 => (((v10 - v11) ≤ (4 : Int32) → qI 3 2 p0 ws (fun v12 => J59 (0 : Int32) v12 ws)) ∧ (¬ (v10 - v11) ≤ (4 : Int32) → Q (0 : Int32) ws)))))))))))))))))))
set_option maxRecDepth 20000 in
set_option maxHeartbeats 4000000 in
theorem m_X3_isNumber {G : Gx} (hst : (gl G).stackTraces = false) {p0 : Nat} {p1 : Int32} {p2 : Int32} {ws : va_W} {Q : Int32 → va_W → Prop} (h : F_X3_isNumber G p0 p1 p2 ws Q) : Mt G yX3_isNumber wsX3_isNumber rm_X3_isNumber [.ref p0, .int p1, .int p2] ws (QtI G Q) := by
  refine mk_Mt (cc := cX3_isNumber) (nL := 5) (own := RX3) (ret := (some .boolean)) (lv0 := [some (.ref p0), some (.int p1), some (.int p2), none, none]) hst (by decide) rfl rfl (Nat.le_of_ble_eq_true rfl) rfl ?_
  intro K C F
  replace h := h (fun x3 x4 ws => Ev K G 5 0 0 59 [some (.ref p0), some (.int p1), some (.int p2), some (.int x3), some (.int x4)] [] ws)
  replace h := h (by
    intro x3 x4 ws h
    show Ev K G 5 0 0 59 [some (.ref p0), some (.int p1), some (.int p2), some (.int x3), some (.int x4)] [] ws
    refine e_iload C (x := x4) rfl dX3_isNumber_59 (pc' := 61) rfl ?_
    refine e_aload_n C (x := p0) rfl dX3_isNumber_61 (pc' := 62) rfl ?_
    refine f_getI C (ci := 3) (CN := RX3) (TT := TX3) (N := 4) 3 dX3_isNumber_62 (pc' := 65) rfl in_X3_isNumber_X3 rfl (by decide) fl_X3_isNumber_28 h (fun v13 h => ?_)
    refine e_icmp_ge C (tg := 93) dX3_isNumber_65 (by decide) (pc' := 68) rfl (fun hc => ?_) (fun hc => ?_)
    · replace h := h.1 hc
      refine e_iload_n C (x := x3) rfl dX3_isNumber_93 (pc' := 94) rfl ?_
      refine e_iload_n C (x := p2) rfl dX3_isNumber_94 (pc' := 95) rfl ?_
      refine e_icmp_le C (tg := 100) dX3_isNumber_95 (by decide) (pc' := 98) rfl (fun hc => ?_) (fun hc => ?_)
      · replace h := h.1 hc
        refine e_aload_n C (x := p0) rfl dX3_isNumber_100 (pc' := 101) rfl ?_
        refine f_getR C (ci := 3) (CN := RX3) (TT := TX3) (N := 4) 1 dX3_isNumber_101 (pc' := 104) rfl in_X3_isNumber_X3 rfl (by decide) fl_X3_isNumber_18 h (fun v14 h => ?_)
        refine e_iload_n C (x := p1) rfl dX3_isNumber_104 (pc' := 105) rfl ?_
        refine e_iload_n C (x := x3) rfl dX3_isNumber_105 (pc' := 106) rfl ?_
        refine f_iastore C dX3_isNumber_106 (pc' := 107) rfl h (fun ws h => ?_)
        refine e_iconst C (v := (1 : Int32)) (by decide) dX3_isNumber_107 (pc' := 108) rfl ?_
        exact r_bool C F dX3_isNumber_108 (by decide) (by decide) (Or.inr rfl) h
      · replace h := h.2 hc
        refine e_iconst C (v := (0 : Int32)) (by decide) dX3_isNumber_98 (pc' := 99) rfl ?_
        exact r_bool C F dX3_isNumber_99 (by decide) (by decide) (Or.inl rfl) h
    · replace h := h.2 hc
      refine e_iload_n C (x := x3) rfl dX3_isNumber_68 (pc' := 69) rfl ?_
      refine e_bipush C (v := (10 : Int32)) (by decide) dX3_isNumber_69 (pc' := 71) rfl ?_
      refine e_imul C dX3_isNumber_71 (pc' := 72) rfl ?_
      refine e_aload_n C (x := p0) rfl dX3_isNumber_72 (pc' := 73) rfl ?_
      refine f_getR C (ci := 3) (CN := RX3) (TT := TX3) (N := 4) 0 dX3_isNumber_73 (pc' := 76) rfl in_X3_isNumber_X3 rfl (by decide) fl_X3_isNumber_12 h (fun v15 h => ?_)
      refine f_getR C (ci := 5) (CN := RX5) (TT := TX5) (N := 2) 0 dX3_isNumber_76 (pc' := 79) rfl in_X3_isNumber_X5 rfl (by decide) fl_X3_isNumber_45 h (fun v16 h => ?_)
      refine e_iload C (x := x4) rfl dX3_isNumber_79 (pc' := 81) rfl ?_
      refine f_iaload C dX3_isNumber_81 (pc' := 82) rfl h (fun v17 h => ?_)
      refine e_iadd C dX3_isNumber_82 (pc' := 83) rfl ?_
      refine e_bipush C (v := (48 : Int32)) (by decide) dX3_isNumber_83 (pc' := 85) rfl ?_
      refine e_isub C dX3_isNumber_85 (pc' := 86) rfl ?_
      refine e_istore_n C (by decide) dX3_isNumber_86 (pc' := 87) rfl (lv' := [some (.ref p0), some (.int p1), some (.int p2), some (.int (((x3 * (10 : Int32)) + v17) - (48 : Int32))), some (.int x4)]) rfl ?_
      refine e_iinc C dX3_isNumber_87 (x := x4) (v := (x4 + (1 : Int32))) rfl rfl (by decide) (pc' := 90) rfl (lv' := [some (.ref p0), some (.int p1), some (.int p2), some (.int (((x3 * (10 : Int32)) + v17) - (48 : Int32))), some (.int (x4 + (1 : Int32)))]) rfl ?_
      refine e_goto C (tg := 59) dX3_isNumber_90 (by decide) ?_
      exact h)
  refine e_aload_n C (x := p0) rfl dX3_isNumber_0 (pc' := 1) rfl ?_
  obtain ⟨hv, h⟩ := h
  refine e_callv (run_V (n := 0) C (m_X3_takeThing hst h) gX3_isNumber_X3_takeThing rfl ⟨rfl, by decide, by decide, by decide +kernel⟩ ⟨by decide, by decide⟩ (ci := 3) rfl rfl hv rfl (Nat.le_of_ble_eq_true rfl) dX3_isNumber_1 ⟨by decide, by decide⟩ (As := []) rfl) (pc' := 4) rfl (cn' := 0) (sn' := 0) rfl rfl (fun ws h => ?_)
  refine e_aload_n C (x := p0) rfl dX3_isNumber_4 (pc' := 5) rfl ?_
  refine f_getI C (ci := 3) (CN := RX3) (TT := TX3) (N := 4) 2 dX3_isNumber_5 (pc' := 8) rfl in_X3_isNumber_X3 rfl (by decide) fl_X3_isNumber_39 h (fun v2 h => ?_)
  refine e_aload_n C (x := p0) rfl dX3_isNumber_8 (pc' := 9) rfl ?_
  refine f_getR C (ci := 3) (CN := RX3) (TT := TX3) (N := 4) 0 dX3_isNumber_9 (pc' := 12) rfl in_X3_isNumber_X3 rfl (by decide) fl_X3_isNumber_12 h (fun v3 h => ?_)
  refine f_getI C (ci := 5) (CN := RX5) (TT := TX5) (N := 2) 1 dX3_isNumber_12 (pc' := 15) rfl in_X3_isNumber_X5 rfl (by decide) fl_X3_isNumber_42 h (fun v4 h => ?_)
  refine e_icmp_ge C (tg := 49) dX3_isNumber_15 (by decide) (pc' := 18) rfl (fun hc => ?_) (fun hc => ?_)
  · replace h := h.1 hc
    refine e_iconst C (v := (0 : Int32)) (by decide) dX3_isNumber_49 (pc' := 50) rfl ?_
    exact r_bool C F dX3_isNumber_50 (by decide) (by decide) (Or.inl rfl) h
  · replace h := h.2 hc
    refine e_aload_n C (x := p0) rfl dX3_isNumber_18 (pc' := 19) rfl ?_
    refine f_getR C (ci := 3) (CN := RX3) (TT := TX3) (N := 4) 0 dX3_isNumber_19 (pc' := 22) rfl in_X3_isNumber_X3 rfl (by decide) fl_X3_isNumber_12 h (fun v5 h => ?_)
    refine f_getR C (ci := 5) (CN := RX5) (TT := TX5) (N := 2) 0 dX3_isNumber_22 (pc' := 25) rfl in_X3_isNumber_X5 rfl (by decide) fl_X3_isNumber_45 h (fun v6 h => ?_)
    refine e_aload_n C (x := p0) rfl dX3_isNumber_25 (pc' := 26) rfl ?_
    refine f_getI C (ci := 3) (CN := RX3) (TT := TX3) (N := 4) 2 dX3_isNumber_26 (pc' := 29) rfl in_X3_isNumber_X3 rfl (by decide) fl_X3_isNumber_39 h (fun v7 h => ?_)
    refine f_iaload C dX3_isNumber_29 (pc' := 30) rfl h (fun v8 h => ?_)
    refine e_calli (run_S (n := 1) C (m_X3_isDigit hst h) gX3_isNumber_X3_isDigit rfl ⟨rfl, by decide, by decide, by decide +kernel⟩ ⟨by decide, by decide⟩ rfl (Nat.le_of_ble_eq_true rfl) dX3_isNumber_30 ⟨by decide, by decide⟩ (As := [.int v8]) rfl) (pc' := 33) rfl (cn' := 0) (sn' := 0) rfl rfl (fun v9 ws h => ?_)
    refine e_if_eq C (tg := 49) dX3_isNumber_33 (by decide) (pc' := 36) rfl (fun hc => ?_) (fun hc => ?_)
    · replace h := h.1 hc
      refine e_iconst C (v := (0 : Int32)) (by decide) dX3_isNumber_49 (pc' := 50) rfl ?_
      exact r_bool C F dX3_isNumber_50 (by decide) (by decide) (Or.inl rfl) h
    · replace h := h.2 hc
      refine e_aload_n C (x := p0) rfl dX3_isNumber_36 (pc' := 37) rfl ?_
      refine f_getI C (ci := 3) (CN := RX3) (TT := TX3) (N := 4) 3 dX3_isNumber_37 (pc' := 40) rfl in_X3_isNumber_X3 rfl (by decide) fl_X3_isNumber_28 h (fun v10 h => ?_)
      refine e_aload_n C (x := p0) rfl dX3_isNumber_40 (pc' := 41) rfl ?_
      refine f_getI C (ci := 3) (CN := RX3) (TT := TX3) (N := 4) 2 dX3_isNumber_41 (pc' := 44) rfl in_X3_isNumber_X3 rfl (by decide) fl_X3_isNumber_39 h (fun v11 h => ?_)
      refine e_isub C dX3_isNumber_44 (pc' := 45) rfl ?_
      refine e_iconst C (v := (4 : Int32)) (by decide) dX3_isNumber_45 (pc' := 46) rfl ?_
      refine e_icmp_le C (tg := 51) dX3_isNumber_46 (by decide) (pc' := 49) rfl (fun hc => ?_) (fun hc => ?_)
      · replace h := h.1 hc
        refine e_iconst C (v := (0 : Int32)) (by decide) dX3_isNumber_51 (pc' := 52) rfl ?_
        refine e_istore_n C (by decide) dX3_isNumber_52 (pc' := 53) rfl (lv' := [some (.ref p0), some (.int p1), some (.int p2), some (.int (0 : Int32)), none]) rfl ?_
        refine e_aload_n C (x := p0) rfl dX3_isNumber_53 (pc' := 54) rfl ?_
        refine f_getI C (ci := 3) (CN := RX3) (TT := TX3) (N := 4) 2 dX3_isNumber_54 (pc' := 57) rfl in_X3_isNumber_X3 rfl (by decide) fl_X3_isNumber_39 h (fun v12 h => ?_)
        refine e_istore C (by decide) dX3_isNumber_57 (pc' := 59) rfl (lv' := [some (.ref p0), some (.int p1), some (.int p2), some (.int (0 : Int32)), some (.int v12)]) rfl ?_
        exact h
      · replace h := h.2 hc
        refine e_iconst C (v := (0 : Int32)) (by decide) dX3_isNumber_49 (pc' := 50) rfl ?_
        exact r_bool C F dX3_isNumber_50 (by decide) (by decide) (Or.inl rfl) h
abbrev rm_X3_isPayment : Room := { frames := 5, cells := 0, slots := 0, locals := 107 }
set_option maxRecDepth 20000 in
theorem in_X3_isPayment_X3 : ∀ w ∈ wsX30, w ∈ wsX3_isPayment := by decide +kernel
set_option maxRecDepth 20000 in
theorem fl_X3_isPayment_18 : Cond.fieldLink RX3 18 (TX3 1).1 (TX3 1).2.1 (TX3 1).2.2.1 ∈ wsX3_isPayment := by decide +kernel
def F_X3_isPayment (G : Gx) (p0 : Nat) (ws : va_W) (Q : Int32 → va_W → Prop) : Prop := ∀ (J26 : Int32 → va_W → Prop), ∀ (J40 : Int32 → Int32 → Nat → va_W → Prop), (∀ (x1 : Int32) (ws : va_W), qR 3 1 p0 ws (fun v4 => ((x1 = 0 → J40 (0 : Int32) (2 : Int32) v4 ws) ∧ (¬ x1 = 0 → J40 (1 : Int32) (2 : Int32) v4 ws))) → J26 x1 ws) → (∀ (t0 : Int32) (t1 : Int32) (t2 : Nat) (ws : va_W), qS (gc G 1) t2 t1 t0 ws (fun ws => Q (1 : Int32) ws) → J40 t0 t1 t2 ws) → (qV 3 p0 ws ∧ F_X3_takeThing G p0 ws (fun ws => (qV 3 p0 ws ∧ F_X3_isWord G p0 (gk G 4) ws (fun v2 ws => ((¬ v2 = 0 → J26 v2 ws) ∧ (v2 = 0 → (qV 3 p0 ws ∧ F_X3_isWord G p0 (gk G 5) ws (fun v3 ws => ((¬ v3 = 0 → J26 v2 ws) ∧ (v3 = 0 → Q (0 : Int32) ws))))))))))
set_option maxRecDepth 20000 in
set_option maxHeartbeats 4000000 in
theorem m_X3_isPayment {G : Gx} (hst : (gl G).stackTraces = false) {p0 : Nat} {ws : va_W} {Q : Int32 → va_W → Prop} (h : F_X3_isPayment G p0 ws Q) : Mt G yX3_isPayment wsX3_isPayment rm_X3_isPayment [.ref p0] ws (QtI G Q) := by
  refine mk_Mt (cc := cX3_isPayment) (nL := 2) (own := RX3) (ret := (some .boolean)) (lv0 := [some (.ref p0), none]) hst (by decide) rfl rfl (Nat.le_of_ble_eq_true rfl) rfl ?_
  intro K C F
  replace h := h (fun x1 ws => Ev K G 2 0 0 26 [some (.ref p0), some (.int x1)] [] ws) (fun t0 t1 t2 ws => Ev K G 2 0 0 40 [none, none] [.int t0, .int t1, .ref t2] ws)
  replace h := h (by
    intro x1 ws h
    show Ev K G 2 0 0 26 [some (.ref p0), some (.int x1)] [] ws
    refine e_aload_n C (x := p0) rfl dX3_isPayment_26 (pc' := 27) rfl ?_
    refine f_getR C (ci := 3) (CN := RX3) (TT := TX3) (N := 4) 1 dX3_isPayment_27 (pc' := 30) rfl in_X3_isPayment_X3 rfl (by decide) fl_X3_isPayment_18 h (fun v4 h => ?_)
    refine e_iconst C (v := (2 : Int32)) (by decide) dX3_isPayment_30 (pc' := 31) rfl ?_
    refine e_iload_n C (x := x1) rfl dX3_isPayment_31 (pc' := 32) rfl ?_
    refine e_if_eq C (tg := 39) dX3_isPayment_32 (by decide) (pc' := 35) rfl (fun hc => ?_) (fun hc => ?_)
    · replace h := h.1 hc
      refine e_iconst C (v := (0 : Int32)) (by decide) dX3_isPayment_39 (pc' := 40) rfl ?_
      refine e_mask [false, false] (lv' := [none, none]) rfl ?_
      exact h
    · replace h := h.2 hc
      refine e_iconst C (v := (1 : Int32)) (by decide) dX3_isPayment_35 (pc' := 36) rfl ?_
      refine e_goto C (tg := 40) dX3_isPayment_36 (by decide) ?_
      refine e_mask [false, false] (lv' := [none, none]) rfl ?_
      exact h)
  replace h := h (by
    intro t0 t1 t2 ws h
    show Ev K G 2 0 0 40 [none, none] [.int t0, .int t1, .ref t2] ws
    refine f_iastore C dX3_isPayment_40 (pc' := 41) rfl h (fun ws h => ?_)
    refine e_iconst C (v := (1 : Int32)) (by decide) dX3_isPayment_41 (pc' := 42) rfl ?_
    exact r_bool C F dX3_isPayment_42 (by decide) (by decide) (Or.inr rfl) h)
  refine e_aload_n C (x := p0) rfl dX3_isPayment_0 (pc' := 1) rfl ?_
  obtain ⟨hv, h⟩ := h
  refine e_callv (run_V (n := 0) C (m_X3_takeThing hst h) gX3_isPayment_X3_takeThing rfl ⟨rfl, by decide, by decide, by decide +kernel⟩ ⟨by decide, by decide⟩ (ci := 3) rfl rfl hv rfl (Nat.le_of_ble_eq_true rfl) dX3_isPayment_1 ⟨by decide, by decide⟩ (As := []) rfl) (pc' := 4) rfl (cn' := 0) (sn' := 0) rfl rfl (fun ws h => ?_)
  refine e_aload_n C (x := p0) rfl dX3_isPayment_4 (pc' := 5) rfl ?_
  refine e_ldcS3 C 4 (by decide) dX3_isPayment_5 (pc' := 7) rfl ?_
  obtain ⟨hv, h⟩ := h
  refine e_calli (run_V (n := 1) C (m_X3_isWord hst h) gX3_isPayment_X3_isWord rfl ⟨rfl, by decide, by decide, by decide +kernel⟩ ⟨by decide, by decide⟩ (ci := 3) rfl rfl hv rfl (Nat.le_of_ble_eq_true rfl) dX3_isPayment_7 ⟨by decide, by decide⟩ (As := [.ref (gk G 4)]) rfl) (pc' := 10) rfl (cn' := 0) (sn' := 0) rfl rfl (fun v2 ws h => ?_)
  refine e_istore_n C (by decide) dX3_isPayment_10 (pc' := 11) rfl (lv' := [some (.ref p0), some (.int v2)]) rfl ?_
  refine e_iload_n C (x := v2) rfl dX3_isPayment_11 (pc' := 12) rfl ?_
  refine e_if_ne C (tg := 26) dX3_isPayment_12 (by decide) (pc' := 15) rfl (fun hc => ?_) (fun hc => ?_)
  · replace h := h.1 hc
    exact h
  · replace h := h.2 hc
    refine e_aload_n C (x := p0) rfl dX3_isPayment_15 (pc' := 16) rfl ?_
    refine e_ldcS3 C 5 (by decide) dX3_isPayment_16 (pc' := 18) rfl ?_
    obtain ⟨hv, h⟩ := h
    refine e_calli (run_V (n := 1) C (m_X3_isWord hst h) gX3_isPayment_X3_isWord rfl ⟨rfl, by decide, by decide, by decide +kernel⟩ ⟨by decide, by decide⟩ (ci := 3) rfl rfl hv rfl (Nat.le_of_ble_eq_true rfl) dX3_isPayment_18 ⟨by decide, by decide⟩ (As := [.ref (gk G 5)]) rfl) (pc' := 21) rfl (cn' := 0) (sn' := 0) rfl rfl (fun v3 ws h => ?_)
    refine e_if_ne C (tg := 26) dX3_isPayment_21 (by decide) (pc' := 24) rfl (fun hc => ?_) (fun hc => ?_)
    · replace h := h.1 hc
      exact h
    · replace h := h.2 hc
      refine e_iconst C (v := (0 : Int32)) (by decide) dX3_isPayment_24 (pc' := 25) rfl ?_
      exact r_bool C F dX3_isPayment_25 (by decide) (by decide) (Or.inl rfl) h
abbrev rm_X3_isTerm : Room := { frames := 6, cells := 0, slots := 0, locals := 128 }
def F_X3_isTerm (G : Gx) (p0 : Nat) (ws : va_W) (Q : Int32 → va_W → Prop) : Prop := (qV 3 p0 ws ∧ F_X3_takeThing G p0 ws (fun ws => (qV 3 p0 ws ∧ F_X3_isWord G p0 (gk G 0) ws (fun v2 ws => ((v2 = 0 → (qV 3 p0 ws ∧ F_X3_isWord G p0 (gk G 1) ws (fun v3 ws => ((v3 = 0 → (qV 3 p0 ws ∧ F_X3_isWord G p0 (gk G 2) ws (fun v4 ws => ((v4 = 0 → (qV 3 p0 ws ∧ F_X3_isWord G p0 (gk G 3) ws (fun v5 ws => ((v5 = 0 → Q (0 : Int32) ws) ∧ (¬ v5 = 0 → (qV 3 p0 ws ∧ F_X3_isPayment G p0 ws (fun v6 ws => ((v6 = 0 → Q (0 : Int32) ws) ∧ (¬ v6 = 0 → Q (1 : Int32) ws))))))))) ∧ (¬ v4 = 0 → (qV 3 p0 ws ∧ F_X3_isNumber G p0 (3 : Int32) (100 : Int32) ws (fun v7 ws => ((v7 = 0 ∨ v7 = 1) ∧ Q v7 ws)))))))) ∧ (¬ v3 = 0 → (qV 3 p0 ws ∧ F_X3_isNumber G p0 (1 : Int32) (1000 : Int32) ws (fun v8 ws => ((v8 = 0 ∨ v8 = 1) ∧ Q v8 ws)))))))) ∧ (¬ v2 = 0 → (qV 3 p0 ws ∧ F_X3_isNumber G p0 (0 : Int32) (100 : Int32) ws (fun v9 ws => ((v9 = 0 ∨ v9 = 1) ∧ Q v9 ws)))))))))
set_option maxRecDepth 20000 in
set_option maxHeartbeats 4000000 in
theorem m_X3_isTerm {G : Gx} (hst : (gl G).stackTraces = false) {p0 : Nat} {ws : va_W} {Q : Int32 → va_W → Prop} (h : F_X3_isTerm G p0 ws Q) : Mt G yX3_isTerm wsX3_isTerm rm_X3_isTerm [.ref p0] ws (QtI G Q) := by
  refine mk_Mt (cc := cX3_isTerm) (nL := 1) (own := RX3) (ret := (some .boolean)) (lv0 := [some (.ref p0)]) hst (by decide) rfl rfl (Nat.le_of_ble_eq_true rfl) rfl ?_
  intro K C F
  refine e_aload_n C (x := p0) rfl dX3_isTerm_0 (pc' := 1) rfl ?_
  obtain ⟨hv, h⟩ := h
  refine e_callv (run_V (n := 0) C (m_X3_takeThing hst h) gX3_isTerm_X3_takeThing rfl ⟨rfl, by decide, by decide, by decide +kernel⟩ ⟨by decide, by decide⟩ (ci := 3) rfl rfl hv rfl (Nat.le_of_ble_eq_true rfl) dX3_isTerm_1 ⟨by decide, by decide⟩ (As := []) rfl) (pc' := 4) rfl (cn' := 0) (sn' := 0) rfl rfl (fun ws h => ?_)
  refine e_aload_n C (x := p0) rfl dX3_isTerm_4 (pc' := 5) rfl ?_
  refine e_ldcS3 C 0 (by decide) dX3_isTerm_5 (pc' := 7) rfl ?_
  obtain ⟨hv, h⟩ := h
  refine e_calli (run_V (n := 1) C (m_X3_isWord hst h) gX3_isTerm_X3_isWord rfl ⟨rfl, by decide, by decide, by decide +kernel⟩ ⟨by decide, by decide⟩ (ci := 3) rfl rfl hv rfl (Nat.le_of_ble_eq_true rfl) dX3_isTerm_7 ⟨by decide, by decide⟩ (As := [.ref (gk G 0)]) rfl) (pc' := 10) rfl (cn' := 0) (sn' := 0) rfl rfl (fun v2 ws h => ?_)
  refine e_if_eq C (tg := 21) dX3_isTerm_10 (by decide) (pc' := 13) rfl (fun hc => ?_) (fun hc => ?_)
  · replace h := h.1 hc
    refine e_aload_n C (x := p0) rfl dX3_isTerm_21 (pc' := 22) rfl ?_
    refine e_ldcS3 C 1 (by decide) dX3_isTerm_22 (pc' := 24) rfl ?_
    obtain ⟨hv, h⟩ := h
    refine e_calli (run_V (n := 1) C (m_X3_isWord hst h) gX3_isTerm_X3_isWord rfl ⟨rfl, by decide, by decide, by decide +kernel⟩ ⟨by decide, by decide⟩ (ci := 3) rfl rfl hv rfl (Nat.le_of_ble_eq_true rfl) dX3_isTerm_24 ⟨by decide, by decide⟩ (As := [.ref (gk G 1)]) rfl) (pc' := 27) rfl (cn' := 0) (sn' := 0) rfl rfl (fun v3 ws h => ?_)
    refine e_if_eq C (tg := 39) dX3_isTerm_27 (by decide) (pc' := 30) rfl (fun hc => ?_) (fun hc => ?_)
    · replace h := h.1 hc
      refine e_aload_n C (x := p0) rfl dX3_isTerm_39 (pc' := 40) rfl ?_
      refine e_ldcS3 C 2 (by decide) dX3_isTerm_40 (pc' := 42) rfl ?_
      obtain ⟨hv, h⟩ := h
      refine e_calli (run_V (n := 1) C (m_X3_isWord hst h) gX3_isTerm_X3_isWord rfl ⟨rfl, by decide, by decide, by decide +kernel⟩ ⟨by decide, by decide⟩ (ci := 3) rfl rfl hv rfl (Nat.le_of_ble_eq_true rfl) dX3_isTerm_42 ⟨by decide, by decide⟩ (As := [.ref (gk G 2)]) rfl) (pc' := 45) rfl (cn' := 0) (sn' := 0) rfl rfl (fun v4 ws h => ?_)
      refine e_if_eq C (tg := 56) dX3_isTerm_45 (by decide) (pc' := 48) rfl (fun hc => ?_) (fun hc => ?_)
      · replace h := h.1 hc
        refine e_aload_n C (x := p0) rfl dX3_isTerm_56 (pc' := 57) rfl ?_
        refine e_ldcS3 C 3 (by decide) dX3_isTerm_57 (pc' := 59) rfl ?_
        obtain ⟨hv, h⟩ := h
        refine e_calli (run_V (n := 1) C (m_X3_isWord hst h) gX3_isTerm_X3_isWord rfl ⟨rfl, by decide, by decide, by decide +kernel⟩ ⟨by decide, by decide⟩ (ci := 3) rfl rfl hv rfl (Nat.le_of_ble_eq_true rfl) dX3_isTerm_59 ⟨by decide, by decide⟩ (As := [.ref (gk G 3)]) rfl) (pc' := 62) rfl (cn' := 0) (sn' := 0) rfl rfl (fun v5 ws h => ?_)
        refine e_if_eq C (tg := 76) dX3_isTerm_62 (by decide) (pc' := 65) rfl (fun hc => ?_) (fun hc => ?_)
        · replace h := h.1 hc
          refine e_iconst C (v := (0 : Int32)) (by decide) dX3_isTerm_76 (pc' := 77) rfl ?_
          exact r_bool C F dX3_isTerm_77 (by decide) (by decide) (Or.inl rfl) h
        · replace h := h.2 hc
          refine e_aload_n C (x := p0) rfl dX3_isTerm_65 (pc' := 66) rfl ?_
          obtain ⟨hv, h⟩ := h
          refine e_calli (run_V (n := 0) C (m_X3_isPayment hst h) gX3_isTerm_X3_isPayment rfl ⟨rfl, by decide, by decide, by decide +kernel⟩ ⟨by decide, by decide⟩ (ci := 3) rfl rfl hv rfl (Nat.le_of_ble_eq_true rfl) dX3_isTerm_66 ⟨by decide, by decide⟩ (As := []) rfl) (pc' := 69) rfl (cn' := 0) (sn' := 0) rfl rfl (fun v6 ws h => ?_)
          refine e_if_eq C (tg := 76) dX3_isTerm_69 (by decide) (pc' := 72) rfl (fun hc => ?_) (fun hc => ?_)
          · replace h := h.1 hc
            refine e_iconst C (v := (0 : Int32)) (by decide) dX3_isTerm_76 (pc' := 77) rfl ?_
            exact r_bool C F dX3_isTerm_77 (by decide) (by decide) (Or.inl rfl) h
          · replace h := h.2 hc
            refine e_iconst C (v := (1 : Int32)) (by decide) dX3_isTerm_72 (pc' := 73) rfl ?_
            refine e_goto C (tg := 77) dX3_isTerm_73 (by decide) ?_
            exact r_bool C F dX3_isTerm_77 (by decide) (by decide) (Or.inr rfl) h
      · replace h := h.2 hc
        refine e_aload_n C (x := p0) rfl dX3_isTerm_48 (pc' := 49) rfl ?_
        refine e_iconst C (v := (3 : Int32)) (by decide) dX3_isTerm_49 (pc' := 50) rfl ?_
        refine e_bipush C (v := (100 : Int32)) (by decide) dX3_isTerm_50 (pc' := 52) rfl ?_
        obtain ⟨hv, h⟩ := h
        refine e_calli (run_V (n := 2) C (m_X3_isNumber hst h) gX3_isTerm_X3_isNumber rfl ⟨rfl, by decide, by decide, by decide +kernel⟩ ⟨by decide, by decide⟩ (ci := 3) rfl rfl hv rfl (Nat.le_of_ble_eq_true rfl) dX3_isTerm_52 ⟨by decide, by decide⟩ (As := [.int (3 : Int32), .int (100 : Int32)]) rfl) (pc' := 55) rfl (cn' := 0) (sn' := 0) rfl rfl (fun v7 ws h => ?_)
        exact r_bool C F dX3_isTerm_55 (by decide) (by decide) h.1 h.2
    · replace h := h.2 hc
      refine e_aload_n C (x := p0) rfl dX3_isTerm_30 (pc' := 31) rfl ?_
      refine e_iconst C (v := (1 : Int32)) (by decide) dX3_isTerm_31 (pc' := 32) rfl ?_
      refine e_sipush C (v := (1000 : Int32)) (by decide) dX3_isTerm_32 (pc' := 35) rfl ?_
      obtain ⟨hv, h⟩ := h
      refine e_calli (run_V (n := 2) C (m_X3_isNumber hst h) gX3_isTerm_X3_isNumber rfl ⟨rfl, by decide, by decide, by decide +kernel⟩ ⟨by decide, by decide⟩ (ci := 3) rfl rfl hv rfl (Nat.le_of_ble_eq_true rfl) dX3_isTerm_35 ⟨by decide, by decide⟩ (As := [.int (1 : Int32), .int (1000 : Int32)]) rfl) (pc' := 38) rfl (cn' := 0) (sn' := 0) rfl rfl (fun v8 ws h => ?_)
      exact r_bool C F dX3_isTerm_38 (by decide) (by decide) h.1 h.2
  · replace h := h.2 hc
    refine e_aload_n C (x := p0) rfl dX3_isTerm_13 (pc' := 14) rfl ?_
    refine e_iconst C (v := (0 : Int32)) (by decide) dX3_isTerm_14 (pc' := 15) rfl ?_
    refine e_bipush C (v := (100 : Int32)) (by decide) dX3_isTerm_15 (pc' := 17) rfl ?_
    obtain ⟨hv, h⟩ := h
    refine e_calli (run_V (n := 2) C (m_X3_isNumber hst h) gX3_isTerm_X3_isNumber rfl ⟨rfl, by decide, by decide, by decide +kernel⟩ ⟨by decide, by decide⟩ (ci := 3) rfl rfl hv rfl (Nat.le_of_ble_eq_true rfl) dX3_isTerm_17 ⟨by decide, by decide⟩ (As := [.int (0 : Int32), .int (100 : Int32)]) rfl) (pc' := 20) rfl (cn' := 0) (sn' := 0) rfl rfl (fun v9 ws h => ?_)
    exact r_bool C F dX3_isTerm_20 (by decide) (by decide) h.1 h.2
abbrev rm_X3_readTerms : Room := { frames := 7, cells := 0, slots := 0, locals := 148 }
set_option maxRecDepth 20000 in
theorem in_X3_readTerms_X3 : ∀ w ∈ wsX30, w ∈ wsX3_readTerms := by decide +kernel
set_option maxRecDepth 20000 in
theorem fl_X3_readTerms_18 : Cond.fieldLink RX3 18 (TX3 1).1 (TX3 1).2.1 (TX3 1).2.2.1 ∈ wsX3_readTerms := by decide +kernel
set_option maxRecDepth 20000 in
theorem w_X3_readTerms_al22 : Cond.methodLink RX3 22 arraycopyName ∈ wsX3_readTerms := by decide +kernel
set_option maxRecDepth 20000 in
theorem w_X3_readTerms_an : Cond.native arraycopyName ∈ wsX3_readTerms := by decide +kernel
set_option maxRecDepth 20000 in
theorem w_X3_readTerms_as : Cond.static arraycopyName ∈ wsX3_readTerms := by decide +kernel
set_option maxRecDepth 20000 in
theorem w_X3_readTerms_ai : Cond.initialized "java/lang/System" ∈ wsX3_readTerms := by decide +kernel
set_option maxRecDepth 20000 in
theorem fl_X3_readTerms_28 : Cond.fieldLink RX3 28 (TX3 3).1 (TX3 3).2.1 (TX3 3).2.2.1 ∈ wsX3_readTerms := by decide +kernel
set_option maxRecDepth 20000 in
theorem fl_X3_readTerms_39 : Cond.fieldLink RX3 39 (TX3 2).1 (TX3 2).2.1 (TX3 2).2.2.1 ∈ wsX3_readTerms := by decide +kernel
set_option maxRecDepth 20000 in
theorem fl_X3_readTerms_12 : Cond.fieldLink RX3 12 (TX3 0).1 (TX3 0).2.1 (TX3 0).2.2.1 ∈ wsX3_readTerms := by decide +kernel
set_option maxRecDepth 20000 in
theorem in_X3_readTerms_X5 : ∀ w ∈ wsX50, w ∈ wsX3_readTerms := by decide +kernel
set_option maxRecDepth 20000 in
theorem fl_X3_readTerms_42 : Cond.fieldLink RX3 42 (TX5 1).1 (TX5 1).2.1 (TX5 1).2.2.1 ∈ wsX3_readTerms := by decide +kernel
set_option maxRecDepth 20000 in
theorem fl_X3_readTerms_45 : Cond.fieldLink RX3 45 (TX5 0).1 (TX5 0).2.1 (TX5 0).2.2.1 ∈ wsX3_readTerms := by decide +kernel
def F_X3_readTerms (G : Gx) (p0 : Nat) (p1 : Nat) (ws : va_W) (Q : Int32 → va_W → Prop) : Prop := ∀ (J18 : Int32 → va_W → Prop), (∀ (x2 : Int32) (ws : va_W), (((400 : Int32) < x2 → Q (-1 : Int32) ws) ∧ (¬ (400 : Int32) < x2 → (qV 3 p0 ws ∧ F_X3_isTerm G p0 ws (fun v2 ws => ((¬ v2 = 0 → (qV 3 p0 ws ∧ F_X3_takeThing G p0 ws (fun ws => qI 3 2 p0 ws (fun v4 => qR 3 0 p0 ws (fun v5 => qI 5 1 v5 ws (fun v6 => ((v4 < v6 → qR 3 0 p0 ws (fun v7 => qR 5 0 v7 ws (fun v8 => qI 3 2 p0 ws (fun v9 => qA (gc G 1) v8 v9 ws (fun v10 => ((v10 = (59 : Int32) → J18 (x2 + (1 : Int32)) ws) ∧ (¬ v10 = (59 : Int32) → Q (-1 : Int32) ws))))))) ∧ (¬ v4 < v6 → Q x2 ws)))))))) ∧ (v2 = 0 → Q (-1 : Int32) ws)))))) → J18 x2 ws) → qR 3 1 p0 ws (fun v1 => qC (gc G 1) p1 (0 : Int32) v1 (0 : Int32) (4 : Int32) ws (fun ws => qP 3 3 p0 (.int (0 : Int32)) ws (fun ws => J18 (1 : Int32) ws)))
set_option maxRecDepth 20000 in
set_option maxHeartbeats 4000000 in
theorem m_X3_readTerms {G : Gx} (hst : (gl G).stackTraces = false) {p0 : Nat} {p1 : Nat} {ws : va_W} {Q : Int32 → va_W → Prop} (h : F_X3_readTerms G p0 p1 ws Q) : Mt G yX3_readTerms wsX3_readTerms rm_X3_readTerms [.ref p0, .ref p1] ws (QtI G Q) := by
  refine mk_Mt (cc := cX3_readTerms) (nL := 3) (own := RX3) (ret := (some .int)) (lv0 := [some (.ref p0), some (.ref p1), none]) hst (by decide) rfl rfl (Nat.le_of_ble_eq_true rfl) rfl ?_
  intro K C F
  replace h := h (fun x2 ws => Ev K G 3 0 0 18 [some (.ref p0), none, some (.int x2)] [] ws)
  replace h := h (by
    intro x2 ws h
    show Ev K G 3 0 0 18 [some (.ref p0), none, some (.int x2)] [] ws
    refine e_iload_n C (x := x2) rfl dX3_readTerms_18 (pc' := 19) rfl ?_
    refine e_sipush C (v := (400 : Int32)) (by decide) dX3_readTerms_19 (pc' := 22) rfl ?_
    refine e_icmp_gt C (tg := 79) dX3_readTerms_22 (by decide) (pc' := 25) rfl (fun hc => ?_) (fun hc => ?_)
    · replace h := h.1 hc
      refine e_iconst C (v := (-1 : Int32)) (by decide) dX3_readTerms_79 (pc' := 80) rfl ?_
      exact r_int C F dX3_readTerms_80 (by decide) (by decide) h
    · replace h := h.2 hc
      refine e_aload_n C (x := p0) rfl dX3_readTerms_25 (pc' := 26) rfl ?_
      obtain ⟨hv, h⟩ := h
      refine e_calli (run_V (n := 0) C (m_X3_isTerm hst h) gX3_readTerms_X3_isTerm rfl ⟨rfl, by decide, by decide, by decide +kernel⟩ ⟨by decide, by decide⟩ (ci := 3) rfl rfl hv rfl (Nat.le_of_ble_eq_true rfl) dX3_readTerms_26 ⟨by decide, by decide⟩ (As := []) rfl) (pc' := 29) rfl (cn' := 0) (sn' := 0) rfl rfl (fun v2 ws h => ?_)
      refine e_if_ne C (tg := 34) dX3_readTerms_29 (by decide) (pc' := 32) rfl (fun hc => ?_) (fun hc => ?_)
      · replace h := h.1 hc
        refine e_aload_n C (x := p0) rfl dX3_readTerms_34 (pc' := 35) rfl ?_
        obtain ⟨hv, h⟩ := h
        refine e_callv (run_V (n := 0) C (m_X3_takeThing hst h) gX3_readTerms_X3_takeThing rfl ⟨rfl, by decide, by decide, by decide +kernel⟩ ⟨by decide, by decide⟩ (ci := 3) rfl rfl hv rfl (Nat.le_of_ble_eq_true rfl) dX3_readTerms_35 ⟨by decide, by decide⟩ (As := []) rfl) (pc' := 38) rfl (cn' := 0) (sn' := 0) rfl rfl (fun ws h => ?_)
        refine e_aload_n C (x := p0) rfl dX3_readTerms_38 (pc' := 39) rfl ?_
        refine f_getI C (ci := 3) (CN := RX3) (TT := TX3) (N := 4) 2 dX3_readTerms_39 (pc' := 42) rfl in_X3_readTerms_X3 rfl (by decide) fl_X3_readTerms_39 h (fun v4 h => ?_)
        refine e_aload_n C (x := p0) rfl dX3_readTerms_42 (pc' := 43) rfl ?_
        refine f_getR C (ci := 3) (CN := RX3) (TT := TX3) (N := 4) 0 dX3_readTerms_43 (pc' := 46) rfl in_X3_readTerms_X3 rfl (by decide) fl_X3_readTerms_12 h (fun v5 h => ?_)
        refine f_getI C (ci := 5) (CN := RX5) (TT := TX5) (N := 2) 1 dX3_readTerms_46 (pc' := 49) rfl in_X3_readTerms_X5 rfl (by decide) fl_X3_readTerms_42 h (fun v6 h => ?_)
        refine e_icmp_lt C (tg := 54) dX3_readTerms_49 (by decide) (pc' := 52) rfl (fun hc => ?_) (fun hc => ?_)
        · replace h := h.1 hc
          refine e_aload_n C (x := p0) rfl dX3_readTerms_54 (pc' := 55) rfl ?_
          refine f_getR C (ci := 3) (CN := RX3) (TT := TX3) (N := 4) 0 dX3_readTerms_55 (pc' := 58) rfl in_X3_readTerms_X3 rfl (by decide) fl_X3_readTerms_12 h (fun v7 h => ?_)
          refine f_getR C (ci := 5) (CN := RX5) (TT := TX5) (N := 2) 0 dX3_readTerms_58 (pc' := 61) rfl in_X3_readTerms_X5 rfl (by decide) fl_X3_readTerms_45 h (fun v8 h => ?_)
          refine e_aload_n C (x := p0) rfl dX3_readTerms_61 (pc' := 62) rfl ?_
          refine f_getI C (ci := 3) (CN := RX3) (TT := TX3) (N := 4) 2 dX3_readTerms_62 (pc' := 65) rfl in_X3_readTerms_X3 rfl (by decide) fl_X3_readTerms_39 h (fun v9 h => ?_)
          refine f_iaload C dX3_readTerms_65 (pc' := 66) rfl h (fun v10 h => ?_)
          refine e_bipush C (v := (59 : Int32)) (by decide) dX3_readTerms_66 (pc' := 68) rfl ?_
          refine e_icmp_eq C (tg := 73) dX3_readTerms_68 (by decide) (pc' := 71) rfl (fun hc => ?_) (fun hc => ?_)
          · replace h := h.1 hc
            refine e_iinc C dX3_readTerms_73 (x := x2) (v := (x2 + (1 : Int32))) rfl rfl (by decide) (pc' := 76) rfl (lv' := [some (.ref p0), none, some (.int (x2 + (1 : Int32)))]) rfl ?_
            refine e_goto C (tg := 18) dX3_readTerms_76 (by decide) ?_
            exact h
          · replace h := h.2 hc
            refine e_iconst C (v := (-1 : Int32)) (by decide) dX3_readTerms_71 (pc' := 72) rfl ?_
            exact r_int C F dX3_readTerms_72 (by decide) (by decide) h
        · replace h := h.2 hc
          refine e_iload_n C (x := x2) rfl dX3_readTerms_52 (pc' := 53) rfl ?_
          exact r_int C F dX3_readTerms_53 (by decide) (by decide) h
      · replace h := h.2 hc
        refine e_iconst C (v := (-1 : Int32)) (by decide) dX3_readTerms_32 (pc' := 33) rfl ?_
        exact r_int C F dX3_readTerms_33 (by decide) (by decide) h)
  refine e_aload_n C (x := p1) rfl dX3_readTerms_0 (pc' := 1) rfl ?_
  refine e_iconst C (v := (0 : Int32)) (by decide) dX3_readTerms_1 (pc' := 2) rfl ?_
  refine e_aload_n C (x := p0) rfl dX3_readTerms_2 (pc' := 3) rfl ?_
  refine f_getR C (ci := 3) (CN := RX3) (TT := TX3) (N := 4) 1 dX3_readTerms_3 (pc' := 6) rfl in_X3_readTerms_X3 rfl (by decide) fl_X3_readTerms_18 h (fun v1 h => ?_)
  refine e_iconst C (v := (0 : Int32)) (by decide) dX3_readTerms_6 (pc' := 7) rfl ?_
  refine e_iconst C (v := (4 : Int32)) (by decide) dX3_readTerms_7 (pc' := 8) rfl ?_
  refine f_copy C dX3_readTerms_8 (pc' := 11) rfl w_X3_readTerms_al22 w_X3_readTerms_an w_X3_readTerms_as w_X3_readTerms_ai (by decide) (by decide) h (fun ws h => ?_)
  refine e_aload_n C (x := p0) rfl dX3_readTerms_11 (pc' := 12) rfl ?_
  refine e_iconst C (v := (0 : Int32)) (by decide) dX3_readTerms_12 (pc' := 13) rfl ?_
  refine f_putI C (ci := 3) (CN := RX3) (TT := TX3) (N := 4) 3 tyX3 dX3_readTerms_13 (pc' := 16) rfl in_X3_readTerms_X3 tyX3_ok nmX3 rfl (by decide) fl_X3_readTerms_28 rfl (by decide +kernel) h (fun ws h => ?_)
  refine e_iconst C (v := (1 : Int32)) (by decide) dX3_readTerms_16 (pc' := 17) rfl ?_
  refine e_istore_n C (by decide) dX3_readTerms_17 (pc' := 18) rfl (lv' := [some (.ref p0), some (.ref p1), some (.int (1 : Int32))]) rfl ?_
  refine e_mask [true, false, true] (lv' := [some (.ref p0), none, some (.int (1 : Int32))]) rfl ?_
  exact h
abbrev rm_X6_law : Room := { frames := 8, cells := 1, slots := 6, locals := 170 }
set_option maxRecDepth 20000 in
theorem in_X6_law_X6 : ∀ w ∈ wsX60, w ∈ wsX6_law := by decide +kernel
set_option maxRecDepth 20000 in
theorem fl_X6_law_10 : Cond.fieldLink RX6 10 (TX6 0).1 (TX6 0).2.1 (TX6 0).2.2.1 ∈ wsX6_law := by decide +kernel
set_option maxRecDepth 20000 in
theorem fl_X6_law_21 : Cond.fieldLink RX6 21 (TX6 2).1 (TX6 2).2.1 (TX6 2).2.2.1 ∈ wsX6_law := by decide +kernel
set_option maxRecDepth 20000 in
theorem fl_X6_law_20 : Cond.fieldLink RX6 20 (TX6 1).1 (TX6 1).2.1 (TX6 1).2.2.1 ∈ wsX6_law := by decide +kernel
set_option maxRecDepth 20000 in
theorem in_X6_law_X5 : ∀ w ∈ wsX50, w ∈ wsX6_law := by decide +kernel
set_option maxRecDepth 20000 in
theorem fl_X6_law_66 : Cond.fieldLink RX6 66 (TX5 1).1 (TX5 1).2.1 (TX5 1).2.2.1 ∈ wsX6_law := by decide +kernel
set_option maxRecDepth 20000 in
theorem fl_X6_law_25 : Cond.fieldLink RX6 25 (TX6 3).1 (TX6 3).2.1 (TX6 3).2.2.1 ∈ wsX6_law := by decide +kernel
set_option maxRecDepth 20000 in
theorem in_X6_law_X3 : ∀ w ∈ wsX30, w ∈ wsX6_law := by decide +kernel
set_option maxRecDepth 20000 in
theorem fl_X6_law_255 : Cond.fieldLink RX6 255 (TX3 1).1 (TX3 1).2.1 (TX3 1).2.2.1 ∈ wsX6_law := by decide +kernel
set_option maxRecDepth 20000 in
theorem w_X6_law_al258 : Cond.methodLink RX6 258 arraycopyName ∈ wsX6_law := by decide +kernel
set_option maxRecDepth 20000 in
theorem w_X6_law_an : Cond.native arraycopyName ∈ wsX6_law := by decide +kernel
set_option maxRecDepth 20000 in
theorem w_X6_law_as : Cond.static arraycopyName ∈ wsX6_law := by decide +kernel
set_option maxRecDepth 20000 in
theorem w_X6_law_ai : Cond.initialized "java/lang/System" ∈ wsX6_law := by decide +kernel
set_option maxRecDepth 20000 in
theorem fl_X6_law_250 : Cond.fieldLink RX6 250 (TX3 2).1 (TX3 2).2.1 (TX3 2).2.2.1 ∈ wsX6_law := by decide +kernel
set_option maxRecDepth 20000 in
theorem w_X6_law_k79 : Cond.classLink RX6 79 "java/lang/IllegalArgumentException" ∈ wsX6_law := by decide +kernel
set_option maxRecDepth 20000 in
theorem w_X6_law_i79 : Cond.initialized "java/lang/IllegalArgumentException" ∈ wsX6_law := by decide +kernel
set_option maxRecDepth 20000 in
theorem gw_X6_law_83 : ∀ w ∈ (vx_atS RX6 83 "java/lang/IllegalArgumentException" xnms).filter goodWord, w ∈ wsX6_law := by decide +kernel
def F_X6_law (G : Gx) (p0 : Nat) (ws : va_W) (Q : Int32 → va_W → Prop) (X : String → va_W → Prop) : Prop := qR 6 0 p0 ws (fun v1 => qR 6 2 p0 ws (fun v2 => (qV 3 v1 ws ∧ F_X3_readTerms G v1 v2 ws (fun v3 ws => qR 6 1 p0 ws (fun v4 => qP 5 1 v4 (.int (0 : Int32)) ws (fun ws => ((¬ v3 = (-1 : Int32) → qP 6 3 p0 (.int (-1 : Int32)) ws (fun ws => qR 6 0 p0 ws (fun v5 => qR 3 1 v5 ws (fun v6 => qR 6 2 p0 ws (fun v7 => qC (gc G 1) v6 (0 : Int32) v7 (0 : Int32) (4 : Int32) ws (fun ws => Q v3 ws)))))) ∧ (v3 = (-1 : Int32) → qR 6 0 p0 ws (fun v8 => qI 3 2 v8 ws (fun v9 => qP 6 3 p0 (.int v9) ws (fun ws => X "java/lang/IllegalArgumentException" ws)))))))))))
set_option maxRecDepth 20000 in
set_option maxHeartbeats 4000000 in
theorem m_X6_law {G : Gx} (hst : (gl G).stackTraces = false) {p0 : Nat} {ws : va_W} {Q : Int32 → va_W → Prop} {X : String → va_W → Prop} (h : F_X6_law G p0 ws Q X) : Xt G yX6_law wsX6_law rm_X6_law [.ref p0] ws (QtI G Q) X := by
  refine mk_Xt (cc := cX6_law) (nL := 2) (own := RX6) (ret := (some .int)) (lv0 := [some (.ref p0), none]) hst (by decide) rfl rfl (Nat.le_of_ble_eq_true rfl) rfl ?_
  intro K C F
  refine e_aload_n C (x := p0) rfl dX6_law_0 (pc' := 1) rfl ?_
  refine f_getR C (ci := 6) (CN := RX6) (TT := TX6) (N := 16) 0 dX6_law_1 (pc' := 4) rfl in_X6_law_X6 rfl (by decide) fl_X6_law_10 h (fun v1 h => ?_)
  refine e_aload_n C (x := p0) rfl dX6_law_4 (pc' := 5) rfl ?_
  refine f_getR C (ci := 6) (CN := RX6) (TT := TX6) (N := 16) 2 dX6_law_5 (pc' := 8) rfl in_X6_law_X6 rfl (by decide) fl_X6_law_21 h (fun v2 h => ?_)
  obtain ⟨hv, h⟩ := h
  refine e_calli (run_V (n := 1) C (m_X3_readTerms hst h) gX6_law_X3_readTerms rfl ⟨rfl, by decide, by decide, by decide +kernel⟩ ⟨by decide, by decide⟩ (ci := 3) rfl rfl hv rfl (Nat.le_of_ble_eq_true rfl) dX6_law_8 ⟨by decide, by decide⟩ (As := [.ref v2]) rfl) (pc' := 11) rfl (cn' := 0) (sn' := 0) rfl rfl (fun v3 ws h => ?_)
  refine e_istore_n C (by decide) dX6_law_11 (pc' := 12) rfl (lv' := [some (.ref p0), some (.int v3)]) rfl ?_
  refine e_aload_n C (x := p0) rfl dX6_law_12 (pc' := 13) rfl ?_
  refine f_getR C (ci := 6) (CN := RX6) (TT := TX6) (N := 16) 1 dX6_law_13 (pc' := 16) rfl in_X6_law_X6 rfl (by decide) fl_X6_law_20 h (fun v4 h => ?_)
  refine e_iconst C (v := (0 : Int32)) (by decide) dX6_law_16 (pc' := 17) rfl ?_
  refine f_putI C (ci := 5) (CN := RX5) (TT := TX5) (N := 2) 1 tyX5 dX6_law_17 (pc' := 20) rfl in_X6_law_X5 tyX5_ok nmX5 rfl (by decide) fl_X6_law_66 rfl (by decide +kernel) h (fun ws h => ?_)
  refine e_iload_n C (x := v3) rfl dX6_law_20 (pc' := 21) rfl ?_
  refine e_iconst C (v := (-1 : Int32)) (by decide) dX6_law_21 (pc' := 22) rfl ?_
  refine e_icmp_ne C (tg := 46) dX6_law_22 (by decide) (pc' := 25) rfl (fun hc => ?_) (fun hc => ?_)
  · replace h := h.1 hc
    refine e_aload_n C (x := p0) rfl dX6_law_46 (pc' := 47) rfl ?_
    refine e_iconst C (v := (-1 : Int32)) (by decide) dX6_law_47 (pc' := 48) rfl ?_
    refine f_putI C (ci := 6) (CN := RX6) (TT := TX6) (N := 16) 3 tyX6 dX6_law_48 (pc' := 51) rfl in_X6_law_X6 tyX6_ok nmX6 rfl (by decide) fl_X6_law_25 rfl (by decide +kernel) h (fun ws h => ?_)
    refine e_aload_n C (x := p0) rfl dX6_law_51 (pc' := 52) rfl ?_
    refine f_getR C (ci := 6) (CN := RX6) (TT := TX6) (N := 16) 0 dX6_law_52 (pc' := 55) rfl in_X6_law_X6 rfl (by decide) fl_X6_law_10 h (fun v5 h => ?_)
    refine f_getR C (ci := 3) (CN := RX3) (TT := TX3) (N := 4) 1 dX6_law_55 (pc' := 58) rfl in_X6_law_X3 rfl (by decide) fl_X6_law_255 h (fun v6 h => ?_)
    refine e_iconst C (v := (0 : Int32)) (by decide) dX6_law_58 (pc' := 59) rfl ?_
    refine e_aload_n C (x := p0) rfl dX6_law_59 (pc' := 60) rfl ?_
    refine f_getR C (ci := 6) (CN := RX6) (TT := TX6) (N := 16) 2 dX6_law_60 (pc' := 63) rfl in_X6_law_X6 rfl (by decide) fl_X6_law_21 h (fun v7 h => ?_)
    refine e_iconst C (v := (0 : Int32)) (by decide) dX6_law_63 (pc' := 64) rfl ?_
    refine e_iconst C (v := (4 : Int32)) (by decide) dX6_law_64 (pc' := 65) rfl ?_
    refine f_copy C dX6_law_65 (pc' := 68) rfl w_X6_law_al258 w_X6_law_an w_X6_law_as w_X6_law_ai (by decide) (by decide) h (fun ws h => ?_)
    refine e_iload_n C (x := v3) rfl dX6_law_68 (pc' := 69) rfl ?_
    exact x_int C F dX6_law_69 (by decide) (by decide) h
  · replace h := h.2 hc
    refine e_aload_n C (x := p0) rfl dX6_law_25 (pc' := 26) rfl ?_
    refine e_aload_n C (x := p0) rfl dX6_law_26 (pc' := 27) rfl ?_
    refine f_getR C (ci := 6) (CN := RX6) (TT := TX6) (N := 16) 0 dX6_law_27 (pc' := 30) rfl in_X6_law_X6 rfl (by decide) fl_X6_law_10 h (fun v8 h => ?_)
    refine f_getI C (ci := 3) (CN := RX3) (TT := TX3) (N := 4) 2 dX6_law_30 (pc' := 33) rfl in_X6_law_X3 rfl (by decide) fl_X6_law_250 h (fun v9 h => ?_)
    refine f_putI C (ci := 6) (CN := RX6) (TT := TX6) (N := 16) 3 tyX6 dX6_law_33 (pc' := 36) rfl in_X6_law_X6 tyX6_ok nmX6 rfl (by decide) fl_X6_law_25 rfl (by decide +kernel) h (fun ws h => ?_)
    exact x_throwS C F (E := "java/lang/IllegalArgumentException") (tx := "the text is wrong") (by decide) (by decide) w_X6_law_k79 w_X6_law_i79 (by decide) gw_X6_law_83 xb_X6_83 xo_X6_83_79 dX6_law_36 dX6_law_39 dX6_law_40 dX6_law_42 dX6_law_45 (by decide) (by decide) (by decide) (by decide) h
abbrev rm_X6_fault : Room := { frames := 0, cells := 0, slots := 0, locals := 0 }
set_option maxRecDepth 20000 in
theorem in_X6_fault_X6 : ∀ w ∈ wsX60, w ∈ wsX6_fault := by decide +kernel
set_option maxRecDepth 20000 in
theorem fl_X6_fault_25 : Cond.fieldLink RX6 25 (TX6 3).1 (TX6 3).2.1 (TX6 3).2.2.1 ∈ wsX6_fault := by decide +kernel
def F_X6_fault (G : Gx) (p0 : Nat) (ws : va_W) (Q : Int32 → va_W → Prop) : Prop := qI 6 3 p0 ws (fun v1 => Q v1 ws)
set_option maxRecDepth 20000 in
set_option maxHeartbeats 4000000 in
theorem m_X6_fault {G : Gx} (hst : (gl G).stackTraces = false) {p0 : Nat} {ws : va_W} {Q : Int32 → va_W → Prop} (h : F_X6_fault G p0 ws Q) : Mt G yX6_fault wsX6_fault rm_X6_fault [.ref p0] ws (QtI G Q) := by
  refine mk_Mt (cc := cX6_fault) (nL := 1) (own := RX6) (ret := (some .int)) (lv0 := [some (.ref p0)]) hst (by decide) rfl rfl (Nat.le_of_ble_eq_true rfl) rfl ?_
  intro K C F
  refine e_aload_n C (x := p0) rfl dX6_fault_0 (pc' := 1) rfl ?_
  refine f_getI C (ci := 6) (CN := RX6) (TT := TX6) (N := 16) 3 dX6_fault_1 (pc' := 4) rfl in_X6_fault_X6 rfl (by decide) fl_X6_fault_25 h (fun v1 h => ?_)
  exact r_int C F dX6_fault_4 (by decide) (by decide) h
abbrev rm_X6_says : Room := { frames := 6, cells := 1, slots := 6, locals := 82 }
set_option maxRecDepth 20000 in
theorem w_X6_says_k241 : Cond.classLink RX6 241 "java/util/NoSuchElementException" ∈ wsX6_says := by decide +kernel
set_option maxRecDepth 20000 in
theorem w_X6_says_i241 : Cond.initialized "java/util/NoSuchElementException" ∈ wsX6_says := by decide +kernel
set_option maxRecDepth 20000 in
theorem gw_X6_says_245 : ∀ w ∈ (vx_atN).filter goodWord, w ∈ wsX6_says := by decide +kernel
set_option maxRecDepth 20000 in
theorem in_X6_says_X6 : ∀ w ∈ wsX60, w ∈ wsX6_says := by decide +kernel
set_option maxRecDepth 20000 in
theorem fl_X6_says_21 : Cond.fieldLink RX6 21 (TX6 2).1 (TX6 2).2.1 (TX6 2).2.2.1 ∈ wsX6_says := by decide +kernel
def F_X6_says (G : Gx) (p0 : Nat) (p1 : Int32) (ws : va_W) (Q : Int32 → va_W → Prop) (X : String → va_W → Prop) : Prop := ((p1 < 0 → X "java/util/NoSuchElementException" ws) ∧ (¬ p1 < 0 → ((p1 < (4 : Int32) → qR 6 2 p0 ws (fun v1 => qA (gc G 1) v1 p1 ws (fun v2 => Q v2 ws))) ∧ (¬ p1 < (4 : Int32) → X "java/util/NoSuchElementException" ws))))
set_option maxRecDepth 20000 in
set_option maxHeartbeats 4000000 in
theorem m_X6_says {G : Gx} (hst : (gl G).stackTraces = false) {p0 : Nat} {p1 : Int32} {ws : va_W} {Q : Int32 → va_W → Prop} {X : String → va_W → Prop} (h : F_X6_says G p0 p1 ws Q X) : Xt G yX6_says wsX6_says rm_X6_says [.ref p0, .int p1] ws (QtI G Q) X := by
  refine mk_Xt (cc := cX6_says) (nL := 2) (own := RX6) (ret := (some .int)) (lv0 := [some (.ref p0), some (.int p1)]) hst (by decide) rfl rfl (Nat.le_of_ble_eq_true rfl) rfl ?_
  intro K C F
  refine e_iload_n C (x := p1) rfl dX6_says_0 (pc' := 1) rfl ?_
  refine e_if_lt C (tg := 9) dX6_says_1 (by decide) (pc' := 4) rfl (fun hc => ?_) (fun hc => ?_)
  · replace h := h.1 hc
    exact x_throwNW C F (tx := "the law has no such thing") (by decide) w_X6_says_k241 w_X6_says_i241 (by decide) gw_X6_says_245 xb_X6_245 xo_X6_245_241 dX6_says_9 dX6_says_12 dX6_says_13 dX6_says_16 dX6_says_19 (by decide) (by decide) (by decide) (by decide) h
  · replace h := h.2 hc
    refine e_iload_n C (x := p1) rfl dX6_says_4 (pc' := 5) rfl ?_
    refine e_iconst C (v := (4 : Int32)) (by decide) dX6_says_5 (pc' := 6) rfl ?_
    refine e_icmp_lt C (tg := 20) dX6_says_6 (by decide) (pc' := 9) rfl (fun hc => ?_) (fun hc => ?_)
    · replace h := h.1 hc
      refine e_aload_n C (x := p0) rfl dX6_says_20 (pc' := 21) rfl ?_
      refine f_getR C (ci := 6) (CN := RX6) (TT := TX6) (N := 16) 2 dX6_says_21 (pc' := 24) rfl in_X6_says_X6 rfl (by decide) fl_X6_says_21 h (fun v1 h => ?_)
      refine e_iload_n C (x := p1) rfl dX6_says_24 (pc' := 25) rfl ?_
      refine f_iaload C dX6_says_25 (pc' := 26) rfl h (fun v2 h => ?_)
      exact x_int C F dX6_says_26 (by decide) (by decide) h
    · replace h := h.2 hc
      exact x_throwNW C F (tx := "the law has no such thing") (by decide) w_X6_says_k241 w_X6_says_i241 (by decide) gw_X6_says_245 xb_X6_245 xo_X6_245_241 dX6_says_9 dX6_says_12 dX6_says_13 dX6_says_16 dX6_says_19 (by decide) (by decide) (by decide) (by decide) h
