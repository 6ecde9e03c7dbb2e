def P_X7_sets (p1 : Int32) (p2 : Int32) (p3 : Int32) (p4 : Int32) (M : Mem) (Q : Mem → Prop) : Prop := (vp_in (((7 : Int32) * p1) + (1 : Int32)) 420 ∧ pW 128 (((7 : Int32) * p1) + (1 : Int32)).toNatClampNeg p2 M (fun M1 => (vp_in (((7 : Int32) * p1) + (2 : Int32)) 420 ∧ pW 128 (((7 : Int32) * p1) + (2 : Int32)).toNatClampNeg p3 M1 (fun M2 => (vp_in (((7 : Int32) * p1) + (3 : Int32)) 420 ∧ pW 128 (((7 : Int32) * p1) + (3 : Int32)).toNatClampNeg p4 M2 (fun M3 => (vp_in (((7 : Int32) * p1) + (5 : Int32)) 420 ∧ pW 128 (((7 : Int32) * p1) + (5 : Int32)).toNatClampNeg (0 : Int32) M3 (fun M4 => (vp_in (((7 : Int32) * p1) + (6 : Int32)) 420 ∧ pW 128 (((7 : Int32) * p1) + (6 : Int32)).toNatClampNeg (0 : Int32) M4 (fun M5 => Q M5))))))))))
set_option maxRecDepth 20000 in
set_option maxHeartbeats 4000000 in
theorem p_X7_sets {G : Gx} {ad : Nat → Nat} {lf : Nat → Int64} (hA : Inj ad) {p1 : Int32} {p2 : Int32} {p3 : Int32} {p4 : Int32} {M : Mem} {Q : Mem → Prop} {QF : va_W → Prop}  (h : P_X7_sets p1 p2 p3 p4 M Q) (hq : ∀ M, Q M → QF (wM ad (gc G) lf M)) : F_X7_sets G (ad 118) p1 p2 p3 p4 (wM ad (gc G) lf M) QF := by
  unfold P_X7_sets at h
  unfold F_X7_sets
  refine i_R (k := 118) fl_X7 rfl ?_
  obtain ⟨hi, h⟩ := h
  refine i_S (k := 128) ar_128 hi ?_
  replace h := pW_at h
  generalize hM : mup M 128 (((7 : Int32) * p1) + (1 : Int32)).toNatClampNeg p2 = M1 at h ⊢
  clear hM
  refine i_R (k := 118) fl_X7 rfl ?_
  obtain ⟨hi, h⟩ := h
  refine i_S (k := 128) ar_128 hi ?_
  replace h := pW_at h
  generalize hM : mup M1 128 (((7 : Int32) * p1) + (2 : Int32)).toNatClampNeg p3 = M2 at h ⊢
  clear hM
  refine i_R (k := 118) fl_X7 rfl ?_
  obtain ⟨hi, h⟩ := h
  refine i_S (k := 128) ar_128 hi ?_
  replace h := pW_at h
  generalize hM : mup M2 128 (((7 : Int32) * p1) + (3 : Int32)).toNatClampNeg p4 = M3 at h ⊢
  clear hM
  refine i_R (k := 118) fl_X7 rfl ?_
  obtain ⟨hi, h⟩ := h
  refine i_S (k := 128) ar_128 hi ?_
  replace h := pW_at h
  generalize hM : mup M3 128 (((7 : Int32) * p1) + (5 : Int32)).toNatClampNeg (0 : Int32) = M4 at h ⊢
  clear hM
  refine i_R (k := 118) fl_X7 rfl ?_
  obtain ⟨hi, h⟩ := h
  refine i_S (k := 128) ar_128 hi ?_
  replace h := pW_at h
  generalize hM : mup M4 128 (((7 : Int32) * p1) + (6 : Int32)).toNatClampNeg (0 : Int32) = M5 at h ⊢
  clear hM
  exact hq _ h
def P_X7_adds (p1 : Int32) (p2 : Int32) (p3 : Int32) (p4 : Int32) (M : Mem) (Q : Mem → Prop) : Prop := (vp_in ((7 : Int32) * (M 118 17)) 420 ∧ pW 128 ((7 : Int32) * (M 118 17)).toNatClampNeg p1 M (fun M1 => (P_X7_sets (M1 118 17) p2 p3 p4 M1 (fun M2 => pW 118 17 ((M2 118 17) + (1 : Int32)) M2 (fun M5 => Q M5)))))
set_option maxRecDepth 20000 in
set_option maxHeartbeats 4000000 in
theorem p_X7_adds {G : Gx} {ad : Nat → Nat} {lf : Nat → Int64} (hA : Inj ad) {p1 : Int32} {p2 : Int32} {p3 : Int32} {p4 : Int32} {M : Mem} {Q : Mem → Prop} {QF : va_W → Prop}  (h : P_X7_adds p1 p2 p3 p4 M Q) (hq : ∀ M, Q M → QF (wM ad (gc G) lf M)) : F_X7_adds G (ad 118) p1 p2 p3 p4 (wM ad (gc G) lf M) QF := by
  unfold P_X7_adds at h
  unfold F_X7_adds
  refine i_R (k := 118) fl_X7 rfl ?_
  refine i_I (k := 118) fl_X7 rfl ?_
  obtain ⟨hi, h⟩ := h
  refine i_S (k := 128) ar_128 hi ?_
  replace h := pW_at h
  generalize hM : mup M 128 ((7 : Int32) * (M 118 17)).toNatClampNeg p1 = M1 at h ⊢
  clear hM
  refine i_I (k := 118) fl_X7 rfl ?_
  refine ⟨i_V (k := 118) fl_X7, p_X7_sets hA h (fun M2 h => ?_)⟩
  refine i_I (k := 118) fl_X7 rfl ?_
  refine i_P (k := 118) fl_X7 rfl ?_
  replace h := pW_at h
  generalize hM : mup M2 118 17 ((M2 118 17) + (1 : Int32)) = M5 at h ⊢
  clear hM
  exact hq _ h
def P_X7_dig (p1 : Int32) (p2 : Int32) (p3 : Int32) (M : Mem) (Q : Int32 → Mem → Prop) : Prop := ∀ (J53 : Mem → Prop), ∀ (J58 : Int32 → Mem → Prop), (∀ (M : Mem), J58 (1 : Int32) M → J53 M) → (∀ (t0 : Int32) (M : Mem), (P_X7_throwsIf t0 (3 : Int32) M (fun r18 M17 => ((r18 = 0 → (P_X7_mayBe p1 M17 (fun r21 M20 => ((r21 = 0 → Q (-1 : Int32) M20) ∧ (¬ r21 = 0 → ((¬ (M20 118 17) = (60 : Int32) → (vp_in p1 8 ∧ pW 120 p1.toNatClampNeg (vp_nar .boolean (1 : Int32)) M20 (fun M23 => (vp_in p1 8 ∧ pW 121 p1.toNatClampNeg (M23 118 3) M23 (fun M24 => (vp_in p1 8 ∧ pW 122 p1.toNatClampNeg (M24 118 11) M24 (fun M25 => pW 118 11 ((M25 118 11) + (1 : Int32)) M25 (fun M26 => (vp_in p1 8 ∧ pW 123 p1.toNatClampNeg ((1440 : Int32) * p3) M26 (fun M27 => (vp_in p1 8 ∧ (P_X7_adds p1 (0 : Int32) (M27 123 p1.toNatClampNeg) p2 M27 (fun M28 => Q ((M28 118 17) - (1 : Int32)) M28))))))))))))) ∧ ((M20 118 17) = (60 : Int32) → Q (-1 : Int32) M20))))))) ∧ (¬ r18 = 0 → Q (0 : Int32) M17)))) → J58 t0 M) → pW 118 0 (0 : Int32) M (fun M1 => (P_X7_noChannel p1 M1 (fun r3 M2 => (P_X7_throwsIf r3 (1 : Int32) M2 (fun r6 M5 => ((¬ r6 = 0 → Q (0 : Int32) M5) ∧ (r6 = 0 → (vp_in p1 8 ∧ (P_X7_throwsIf (M5 120 p1.toNatClampNeg) (2 : Int32) M5 (fun r9 M8 => ((¬ r9 = 0 → Q (0 : Int32) M8) ∧ (r9 = 0 → (P_X7_in p2 (0 : Int32) (30 : Int32) M8 (fun r12 M11 => ((r12 = 0 → J53 M11) ∧ (¬ r12 = 0 → (P_X7_in p3 (1 : Int32) (15 : Int32) M11 (fun r15 M14 => ((¬ r15 = 0 → J58 (0 : Int32) M14) ∧ (r15 = 0 → J53 M14))))))))))))))))))))
set_option maxRecDepth 20000 in
set_option maxHeartbeats 4000000 in
theorem p_X7_dig {G : Gx} {ad : Nat → Nat} {lf : Nat → Int64} (hA : Inj ad) {p1 : Int32} {p2 : Int32} {p3 : Int32} {M : Mem} {Q : Int32 → Mem → Prop} {QF : Int32 → va_W → Prop}  (h : P_X7_dig p1 p2 p3 M Q) (hq : ∀ r M, Q r M → QF r (wM ad (gc G) lf M)) : F_X7_dig G (ad 118) p1 p2 p3 (wM ad (gc G) lf M) QF := by
  intro J53 J58 c53 c58
  replace h := h (fun M => J53 (ad 118) (wM ad (gc G) lf M)) (fun t0 M => J58 t0 (ad 118) (wM ad (gc G) lf M))
  replace h := h (by
    intro M h
    refine c53 _ _ ?_
    exact h)
  replace h := h (by
    intro t0 M h
    refine c58 _ _ _ ?_
    refine ⟨i_V (k := 118) fl_X7, p_X7_throwsIf hA h (fun r18 M17 h => ?_)⟩
    refine ⟨fun hc => ?_, fun hc => ?_⟩
    · replace h := h.1 hc
      refine ⟨i_V (k := 118) fl_X7, p_X7_mayBe hA h (fun r21 M20 h => ?_)⟩
      refine ⟨fun hc => ?_, fun hc => ?_⟩
      · replace h := h.1 hc
        exact hq _ _ h
      · replace h := h.2 hc
        refine i_I (k := 118) fl_X7 rfl ?_
        refine ⟨fun hc => ?_, fun hc => ?_⟩
        · replace h := h.1 hc
          refine i_R (k := 118) fl_X7 rfl ?_
          obtain ⟨hi, h⟩ := h
          refine i_S (k := 120) ar_120 hi ?_
          replace h := pW_at h
          generalize hM : mup M20 120 p1.toNatClampNeg (vp_nar .boolean (1 : Int32)) = M23 at h ⊢
          clear hM
          refine i_R (k := 118) fl_X7 rfl ?_
          refine i_I (k := 118) fl_X7 rfl ?_
          obtain ⟨hi, h⟩ := h
          refine i_S (k := 121) ar_121 hi ?_
          replace h := pW_at h
          generalize hM : mup M23 121 p1.toNatClampNeg (M23 118 3) = M24 at h ⊢
          clear hM
          refine i_R (k := 118) fl_X7 rfl ?_
          refine i_I (k := 118) fl_X7 rfl ?_
          obtain ⟨hi, h⟩ := h
          refine i_S (k := 122) ar_122 hi ?_
          replace h := pW_at h
          generalize hM : mup M24 122 p1.toNatClampNeg (M24 118 11) = M25 at h ⊢
          clear hM
          refine i_I (k := 118) fl_X7 rfl ?_
          refine i_P (k := 118) fl_X7 rfl ?_
          replace h := pW_at h
          generalize hM : mup M25 118 11 ((M25 118 11) + (1 : Int32)) = M26 at h ⊢
          clear hM
          refine i_R (k := 118) fl_X7 rfl ?_
          obtain ⟨hi, h⟩ := h
          refine i_S (k := 123) ar_123 hi ?_
          replace h := pW_at h
          generalize hM : mup M26 123 p1.toNatClampNeg ((1440 : Int32) * p3) = M27 at h ⊢
          clear hM
          refine i_R (k := 118) fl_X7 rfl ?_
          obtain ⟨hi, h⟩ := h
          refine i_A (k := 123) ar_123 hi ?_
          refine ⟨i_V (k := 118) fl_X7, p_X7_adds hA h (fun M28 h => ?_)⟩
          refine i_I (k := 118) fl_X7 rfl ?_
          exact hq _ _ h
        · replace h := h.2 hc
          exact hq _ _ h
    · replace h := h.2 hc
      exact hq _ _ h)
  refine i_P (k := 118) fl_X7 rfl ?_
  replace h := pW_at h
  generalize hM : mup M 118 0 (0 : Int32) = M1 at h ⊢
  clear hM
  refine ⟨i_V (k := 118) fl_X7, p_X7_noChannel hA h (fun r3 M2 h => ?_)⟩
  refine ⟨i_V (k := 118) fl_X7, p_X7_throwsIf hA h (fun r6 M5 h => ?_)⟩
  refine ⟨fun hc => ?_, fun hc => ?_⟩
  · replace h := h.1 hc
    exact hq _ _ h
  · replace h := h.2 hc
    refine i_R (k := 118) fl_X7 rfl ?_
    obtain ⟨hi, h⟩ := h
    refine i_A (k := 120) ar_120 hi ?_
    refine ⟨i_V (k := 118) fl_X7, p_X7_throwsIf hA h (fun r9 M8 h => ?_)⟩
    refine ⟨fun hc => ?_, fun hc => ?_⟩
    · replace h := h.1 hc
      exact hq _ _ h
    · replace h := h.2 hc
      refine p_X7_in hA h (fun r12 M11 h => ?_)
      refine ⟨fun hc => ?_, fun hc => ?_⟩
      · replace h := h.1 hc
        exact h
      · replace h := h.2 hc
        refine p_X7_in hA h (fun r15 M14 h => ?_)
        refine ⟨fun hc => ?_, fun hc => ?_⟩
        · replace h := h.1 hc
          exact h
        · replace h := h.2 hc
          exact h
def P_X7_years (p1 : Int32) (M : Mem) (Q : Int32 → Mem → Prop) : Prop := ∀ (J21 : Int32 → Mem → Prop), (∀ (t0 : Int32) (M : Mem), (P_X7_throwsIf t0 (1 : Int32) M (fun r6 M5 => ((r6 = 0 → pW 118 3 ((M5 118 3) + p1) M5 (fun M8 => Q (M8 118 3) M8)) ∧ (¬ r6 = 0 → Q (0 : Int32) M5)))) → J21 t0 M) → pW 118 0 (0 : Int32) M (fun M1 => (P_X7_in p1 (0 : Int32) (100 : Int32) M1 (fun r3 M2 => ((¬ r3 = 0 → J21 (0 : Int32) M2) ∧ (r3 = 0 → J21 (1 : Int32) M2)))))
set_option maxRecDepth 20000 in
set_option maxHeartbeats 4000000 in
theorem p_X7_years {G : Gx} {ad : Nat → Nat} {lf : Nat → Int64} (hA : Inj ad) {p1 : Int32} {M : Mem} {Q : Int32 → Mem → Prop} {QF : Int32 → va_W → Prop}  (h : P_X7_years p1 M Q) (hq : ∀ r M, Q r M → QF r (wM ad (gc G) lf M)) : F_X7_years G (ad 118) p1 (wM ad (gc G) lf M) QF := by
  intro J21 c21
  replace h := h (fun t0 M => J21 t0 (ad 118) (wM ad (gc G) lf M))
  replace h := h (by
    intro t0 M h
    refine c21 _ _ _ ?_
    refine ⟨i_V (k := 118) fl_X7, p_X7_throwsIf hA h (fun r6 M5 h => ?_)⟩
    refine ⟨fun hc => ?_, fun hc => ?_⟩
    · replace h := h.1 hc
      refine i_I (k := 118) fl_X7 rfl ?_
      refine i_P (k := 118) fl_X7 rfl ?_
      replace h := pW_at h
      generalize hM : mup M5 118 3 ((M5 118 3) + p1) = M8 at h ⊢
      clear hM
      refine i_I (k := 118) fl_X7 rfl ?_
      exact hq _ _ h
    · replace h := h.2 hc
      exact hq _ _ h)
  refine i_P (k := 118) fl_X7 rfl ?_
  replace h := pW_at h
  generalize hM : mup M 118 0 (0 : Int32) = M1 at h ⊢
  clear hM
  refine p_X7_in hA h (fun r3 M2 h => ?_)
  refine ⟨fun hc => ?_, fun hc => ?_⟩
  · replace h := h.1 hc
    exact h
  · replace h := h.2 hc
    exact h
def P_X7_collapse (p1 : Int32) (p2 : Int32) (p3 : Int32) (M : Mem) (Q : Int32 → Mem → Prop) : Prop := ∀ (J34 : Int32 → Mem → Prop), (∀ (t0 : Int32) (M : Mem), (P_X7_throwsIf t0 (2 : Int32) M (fun r9 M8 => ((r9 = 0 → (vp_in (((20 : Int32) * p1) + p2) 160 ∧ (vp_in (((20 : Int32) * p1) + p2) 160 ∧ pW 127 (((20 : Int32) * p1) + p2).toNatClampNeg (vp_nar .boolean p3) M8 (fun M11 => (((M8 127 (((20 : Int32) * p1) + p2).toNatClampNeg) = p3 → Q (0 : Int32) M11) ∧ (¬ (M8 127 (((20 : Int32) * p1) + p2).toNatClampNeg) = p3 → Q (1 : Int32) M11)))))) ∧ (¬ r9 = 0 → Q (0 : Int32) M8)))) → J34 t0 M) → pW 118 0 (0 : Int32) M (fun M1 => (P_X7_noWell p1 p2 M1 (fun r3 M2 => (P_X7_throwsIf r3 (1 : Int32) M2 (fun r6 M5 => ((¬ r6 = 0 → Q (0 : Int32) M5) ∧ (r6 = 0 → (vp_in p1 8 ∧ ((¬ (M5 120 p1.toNatClampNeg) = 0 → J34 (0 : Int32) M5) ∧ ((M5 120 p1.toNatClampNeg) = 0 → J34 (1 : Int32) M5))))))))))
set_option maxRecDepth 20000 in
set_option maxHeartbeats 4000000 in
theorem p_X7_collapse {G : Gx} {ad : Nat → Nat} {lf : Nat → Int64} (hA : Inj ad) {p1 : Int32} {p2 : Int32} {p3 : Int32} {M : Mem} {Q : Int32 → Mem → Prop} {QF : Int32 → va_W → Prop}  (h : P_X7_collapse p1 p2 p3 M Q) (hq : ∀ r M, Q r M → QF r (wM ad (gc G) lf M)) : F_X7_collapse G (ad 118) p1 p2 p3 (wM ad (gc G) lf M) QF := by
  intro J34 c34
  replace h := h (fun t0 M => J34 t0 (ad 118) (wM ad (gc G) lf M))
  replace h := h (by
    intro t0 M h
    refine c34 _ _ _ ?_
    refine ⟨i_V (k := 118) fl_X7, p_X7_throwsIf hA h (fun r9 M8 h => ?_)⟩
    refine ⟨fun hc => ?_, fun hc => ?_⟩
    · replace h := h.1 hc
      refine i_R (k := 118) fl_X7 rfl ?_
      obtain ⟨hi, h⟩ := h
      refine i_A (k := 127) ar_127 hi ?_
      refine i_R (k := 118) fl_X7 rfl ?_
      obtain ⟨hi, h⟩ := h
      refine i_S (k := 127) ar_127 hi ?_
      replace h := pW_at h
      generalize hM : mup M8 127 (((20 : Int32) * p1) + p2).toNatClampNeg (vp_nar .boolean p3) = M11 at h ⊢
      clear hM
      refine ⟨fun hc => ?_, fun hc => ?_⟩
      · replace h := h.1 hc
        exact hq _ _ h
      · replace h := h.2 hc
        exact hq _ _ h
    · replace h := h.2 hc
      exact hq _ _ h)
  refine i_P (k := 118) fl_X7 rfl ?_
  replace h := pW_at h
  generalize hM : mup M 118 0 (0 : Int32) = M1 at h ⊢
  clear hM
  refine ⟨i_V (k := 118) fl_X7, p_X7_noWell hA h (fun r3 M2 h => ?_)⟩
  refine ⟨i_V (k := 118) fl_X7, p_X7_throwsIf hA h (fun r6 M5 h => ?_)⟩
  refine ⟨fun hc => ?_, fun hc => ?_⟩
  · replace h := h.1 hc
    exact hq _ _ h
  · replace h := h.2 hc
    refine i_R (k := 118) fl_X7 rfl ?_
    obtain ⟨hi, h⟩ := h
    refine i_A (k := 120) ar_120 hi ?_
    refine ⟨fun hc => ?_, fun hc => ?_⟩
    · replace h := h.1 hc
      exact h
    · replace h := h.2 hc
      exact h
def P_X7_runs (p1 : Int32) (M : Mem) (Q : Int32 → Mem → Prop) : Prop := ∀ (J2 : Int32 → Mem → Prop), (∀ (x2 : Int32) (M : Mem), (vp_in p1 8 ∧ (((M 119 p1.toNatClampNeg) ≤ x2 → Q x2 M) ∧ (¬ (M 119 p1.toNatClampNeg) ≤ x2 → (vp_in (((20 : Int32) * p1) + x2) 160 ∧ ((¬ (M 127 (((20 : Int32) * p1) + x2).toNatClampNeg) = 0 → Q x2 M) ∧ ((M 127 (((20 : Int32) * p1) + x2).toNatClampNeg) = 0 → J2 (x2 + (1 : Int32)) M)))))) → J2 x2 M) → J2 (0 : Int32) M
set_option maxRecDepth 20000 in
set_option maxHeartbeats 4000000 in
theorem p_X7_runs {G : Gx} {ad : Nat → Nat} {lf : Nat → Int64} (hA : Inj ad) {p1 : Int32} {M : Mem} {Q : Int32 → Mem → Prop} {QF : Int32 → va_W → Prop}  (h : P_X7_runs p1 M Q) (hq : ∀ r M, Q r M → QF r (wM ad (gc G) lf M)) : F_X7_runs G (ad 118) p1 (wM ad (gc G) lf M) QF := by
  intro J2 c2
  replace h := h (fun x2 M => J2 x2 (wM ad (gc G) lf M))
  replace h := h (by
    intro x2 M h
    refine c2 _ _ ?_
    refine i_R (k := 118) fl_X7 rfl ?_
    obtain ⟨hi, h⟩ := h
    refine i_A (k := 119) ar_119 hi ?_
    refine ⟨fun hc => ?_, fun hc => ?_⟩
    · replace h := h.1 hc
      exact hq _ _ h
    · replace h := h.2 hc
      refine i_R (k := 118) fl_X7 rfl ?_
      obtain ⟨hi, h⟩ := h
      refine i_A (k := 127) ar_127 hi ?_
      refine ⟨fun hc => ?_, fun hc => ?_⟩
      · replace h := h.1 hc
        exact hq _ _ h
      · replace h := h.2 hc
        exact h)
  exact h
def P_X7_draw (p1 : Int32) (p2 : Int32) (p3 : Int32) (M : Mem) (Q : Int32 → Mem → Prop) : Prop := ∀ (J9 : Int32 → Int32 → Mem → Prop), (∀ (x4 : Int32) (x5 : Int32) (M : Mem), (P_X7_runs p1 M (fun r2 M1 => (((((20 : Int32) * p1) + r2) ≤ x5 → (vp_in p1 8 ∧ (((5 : Int32) ≤ ((M1 118 3) - (M1 121 p1.toNatClampNeg)) → Q x4 M1) ∧ (¬ (5 : Int32) ≤ ((M1 118 3) - (M1 121 p1.toNatClampNeg)) → Q ((x4 * ((M1 118 3) - (M1 121 p1.toNatClampNeg))) / (5 : Int32)) M1)))) ∧ (¬ (((20 : Int32) * p1) + r2) ≤ x5 → (vp_in x5 160 ∧ (vp_in x5 160 ∧ (P_X7_steps p2 p3 (M1 124 x5.toNatClampNeg) (M1 125 x5.toNatClampNeg) M1 (fun r5 M4 => J9 (if x4 < ((30 : Int32) - r5) then ((30 : Int32) - r5) else x4) (x5 + (1 : Int32)) M4)))))))) → J9 x4 x5 M) → J9 (0 : Int32) ((20 : Int32) * p1) M
set_option maxRecDepth 20000 in
set_option maxHeartbeats 4000000 in
theorem p_X7_draw {G : Gx} {ad : Nat → Nat} {lf : Nat → Int64} (hA : Inj ad) {p1 : Int32} {p2 : Int32} {p3 : Int32} {M : Mem} {Q : Int32 → Mem → Prop} {QF : Int32 → va_W → Prop}  (h : P_X7_draw p1 p2 p3 M Q) (hq : ∀ r M, Q r M → QF r (wM ad (gc G) lf M)) : F_X7_draw G (ad 118) p1 p2 p3 (wM ad (gc G) lf M) QF := by
  intro J9 c9
  replace h := h (fun x4 x5 M => J9 x4 x5 (wM ad (gc G) lf M))
  replace h := h (by
    intro x4 x5 M h
    refine c9 _ _ _ ?_
    refine ⟨i_V (k := 118) fl_X7, p_X7_runs hA h (fun r2 M1 h => ?_)⟩
    refine ⟨fun hc => ?_, fun hc => ?_⟩
    · replace h := h.1 hc
      refine i_I (k := 118) fl_X7 rfl ?_
      refine i_R (k := 118) fl_X7 rfl ?_
      obtain ⟨hi, h⟩ := h
      refine i_A (k := 121) ar_121 hi ?_
      refine ⟨fun hc => ?_, fun hc => ?_⟩
      · replace h := h.1 hc
        exact hq _ _ h
      · replace h := h.2 hc
        exact hq _ _ h
    · replace h := h.2 hc
      refine i_R (k := 118) fl_X7 rfl ?_
      obtain ⟨hi, h⟩ := h
      refine i_A (k := 124) ar_124 hi ?_
      refine i_R (k := 118) fl_X7 rfl ?_
      obtain ⟨hi, h⟩ := h
      refine i_A (k := 125) ar_125 hi ?_
      refine p_X7_steps hA h (fun r5 M4 h => ?_)
      exact h)
  exact h
def P_X7_seeps (p1 : Int32) (p2 : Int32) (p3 : Int32) (M : Mem) (Q : Int32 → Mem → Prop) : Prop := ∀ (J30 : Int32 → Int32 → Int32 → Mem → Prop), ∀ (J91 : Int32 → Int32 → Int32 → Mem → Prop), (∀ (x4 : Int32) (x5 : Int32) (x6 : Int32) (M : Mem), (((M 118 10) ≤ x6 → (vp_in x4 160 ∧ (((M 126 x4.toNatClampNeg) < x5 → (vp_in x4 160 ∧ Q (if ((x5 - (M 126 x4.toNatClampNeg)) / (10 : Int32)) < (50 : Int32) then ((x5 - (M 126 x4.toNatClampNeg)) / (10 : Int32)) else (50 : Int32)) M)) ∧ (¬ (M 126 x4.toNatClampNeg) < x5 → Q (0 : Int32) M)))) ∧ (¬ (M 118 10) ≤ x6 → ((x6 = p1 → J91 x4 x5 x6 M) ∧ (¬ x6 = p1 → (vp_in x6 8 ∧ (((M 120 x6.toNatClampNeg) = 0 → J91 x4 x5 x6 M) ∧ (¬ (M 120 x6.toNatClampNeg) = 0 → (vp_in x6 8 ∧ ((p3 < (M 122 x6.toNatClampNeg) → J91 x4 x5 x6 M) ∧ (¬ p3 < (M 122 x6.toNatClampNeg) → (vp_in x4 160 ∧ (vp_in x4 160 ∧ (P_X7_draw x6 (M 124 x4.toNatClampNeg) (M 125 x4.toNatClampNeg) M (fun r2 M1 => J91 x4 (x5 - r2) x6 M1)))))))))))))) → J30 x4 x5 x6 M) → (∀ (x4 : Int32) (x5 : Int32) (x6 : Int32) (M : Mem), J30 x4 x5 (x6 + (1 : Int32)) M → J91 x4 x5 x6 M) → (vp_in (((20 : Int32) * p1) + p2) 160 ∧ J30 (((20 : Int32) * p1) + p2) ((M 118 1) + ((M 118 2) * (M 124 (((20 : Int32) * p1) + p2).toNatClampNeg))) (0 : Int32) M)
set_option maxRecDepth 20000 in
set_option maxHeartbeats 4000000 in
theorem p_X7_seeps {G : Gx} {ad : Nat → Nat} {lf : Nat → Int64} (hA : Inj ad) {p1 : Int32} {p2 : Int32} {p3 : Int32} {M : Mem} {Q : Int32 → Mem → Prop} {QF : Int32 → va_W → Prop}  (h : P_X7_seeps p1 p2 p3 M Q) (hq : ∀ r M, Q r M → QF r (wM ad (gc G) lf M)) : F_X7_seeps G (ad 118) p1 p2 p3 (wM ad (gc G) lf M) QF := by
  intro J30 J91 c30 c91
  replace h := h (fun x4 x5 x6 M => J30 x4 x5 x6 (wM ad (gc G) lf M)) (fun x4 x5 x6 M => J91 x4 x5 x6 (wM ad (gc G) lf M))
  replace h := h (by
    intro x4 x5 x6 M h
    refine c30 _ _ _ _ ?_
    refine i_I (k := 118) fl_X7 rfl ?_
    refine ⟨fun hc => ?_, fun hc => ?_⟩
    · replace h := h.1 hc
      refine i_R (k := 118) fl_X7 rfl ?_
      obtain ⟨hi, h⟩ := h
      refine i_A (k := 126) ar_126 hi ?_
      refine ⟨fun hc => ?_, fun hc => ?_⟩
      · replace h := h.1 hc
        refine i_R (k := 118) fl_X7 rfl ?_
        obtain ⟨hi, h⟩ := h
        refine i_A (k := 126) ar_126 hi ?_
        exact hq _ _ h
      · replace h := h.2 hc
        exact hq _ _ h
    · replace h := h.2 hc
      refine ⟨fun hc => ?_, fun hc => ?_⟩
      · replace h := h.1 hc
        exact h
      · replace h := h.2 hc
        refine i_R (k := 118) fl_X7 rfl ?_
        obtain ⟨hi, h⟩ := h
        refine i_A (k := 120) ar_120 hi ?_
        refine ⟨fun hc => ?_, fun hc => ?_⟩
        · replace h := h.1 hc
          exact h
        · replace h := h.2 hc
          refine i_R (k := 118) fl_X7 rfl ?_
          obtain ⟨hi, h⟩ := h
          refine i_A (k := 122) ar_122 hi ?_
          refine ⟨fun hc => ?_, fun hc => ?_⟩
          · replace h := h.1 hc
            exact h
          · replace h := h.2 hc
            refine i_R (k := 118) fl_X7 rfl ?_
            obtain ⟨hi, h⟩ := h
            refine i_A (k := 124) ar_124 hi ?_
            refine i_R (k := 118) fl_X7 rfl ?_
            obtain ⟨hi, h⟩ := h
            refine i_A (k := 125) ar_125 hi ?_
            refine ⟨i_V (k := 118) fl_X7, p_X7_draw hA h (fun r2 M1 h => ?_)⟩
            exact h)
  replace h := h (by
    intro x4 x5 x6 M h
    refine c91 _ _ _ _ ?_
    exact h)
  refine i_I (k := 118) fl_X7 rfl ?_
  refine i_I (k := 118) fl_X7 rfl ?_
  refine i_R (k := 118) fl_X7 rfl ?_
  obtain ⟨hi, h⟩ := h
  refine i_A (k := 124) ar_124 hi ?_
  exact h
def P_X7_flows (p1 : Int32) (p2 : Int32) (M : Mem) (Q : Int32 → Mem → Prop) : Prop := ∀ (J11 : Int32 → Int32 → Mem → Prop), ∀ (J76 : Int32 → Int32 → Mem → Prop), ∀ (J86 : Int32 → Int32 → Mem → Prop), (∀ (x3 : Int32) (x4 : Int32) (M : Mem), ((x4 < 0 → Q x3 M) ∧ (¬ x4 < 0 → (P_X7_seeps p1 x4 p2 M (fun r5 M4 => ((¬ x4 = 0 → (vp_in (((20 : Int32) * p1) + x4) 160 ∧ (vp_in ((((20 : Int32) * p1) + x4) - (1 : Int32)) 160 ∧ ((((M4 126 (((20 : Int32) * p1) + x4).toNatClampNeg) - (M4 126 ((((20 : Int32) * p1) + x4) - (1 : Int32)).toNatClampNeg)) = 0 → J76 (x3 + r5) x4 M4) ∧ (¬ ((M4 126 (((20 : Int32) * p1) + x4).toNatClampNeg) - (M4 126 ((((20 : Int32) * p1) + x4) - (1 : Int32)).toNatClampNeg)) = 0 → ((((M4 126 (((20 : Int32) * p1) + x4).toNatClampNeg) - (M4 126 ((((20 : Int32) * p1) + x4) - (1 : Int32)).toNatClampNeg)) ≤ (20 : Int32) → J86 (x3 + r5) x4 M4) ∧ (¬ ((M4 126 (((20 : Int32) * p1) + x4).toNatClampNeg) - (M4 126 ((((20 : Int32) * p1) + x4) - (1 : Int32)).toNatClampNeg)) ≤ (20 : Int32) → J76 (x3 + r5) x4 M4))))))) ∧ (x4 = 0 → J86 (x3 + r5) x4 M4)))))) → J11 x3 x4 M) → (∀ (x3 : Int32) (x4 : Int32) (M : Mem), J86 (x3 - ((x3 + (99 : Int32)) / (100 : Int32))) x4 M → J76 x3 x4 M) → (∀ (x3 : Int32) (x4 : Int32) (M : Mem), J11 x3 (x4 + (-1 : Int32)) M → J86 x3 x4 M) → (P_X7_runs p1 M (fun r2 M1 => J11 (0 : Int32) (r2 - (1 : Int32)) M1))
set_option maxRecDepth 20000 in
set_option maxHeartbeats 4000000 in
theorem p_X7_flows {G : Gx} {ad : Nat → Nat} {lf : Nat → Int64} (hA : Inj ad) {p1 : Int32} {p2 : Int32} {M : Mem} {Q : Int32 → Mem → Prop} {QF : Int32 → va_W → Prop}  (h : P_X7_flows p1 p2 M Q) (hq : ∀ r M, Q r M → QF r (wM ad (gc G) lf M)) : F_X7_flows G (ad 118) p1 p2 (wM ad (gc G) lf M) QF := by
  intro J11 J76 J86 c11 c76 c86
  replace h := h (fun x3 x4 M => J11 x3 x4 (wM ad (gc G) lf M)) (fun x3 x4 M => J76 x3 x4 (wM ad (gc G) lf M)) (fun x3 x4 M => J86 x3 x4 (wM ad (gc G) lf M))
  replace h := h (by
    intro x3 x4 M h
    refine c11 _ _ _ ?_
    refine ⟨fun hc => ?_, fun hc => ?_⟩
    · replace h := h.1 hc
      exact hq _ _ h
    · replace h := h.2 hc
      refine ⟨i_V (k := 118) fl_X7, p_X7_seeps hA h (fun r5 M4 h => ?_)⟩
      refine ⟨fun hc => ?_, fun hc => ?_⟩
      · replace h := h.1 hc
        refine i_R (k := 118) fl_X7 rfl ?_
        obtain ⟨hi, h⟩ := h
        refine i_A (k := 126) ar_126 hi ?_
        refine i_R (k := 118) fl_X7 rfl ?_
        obtain ⟨hi, h⟩ := h
        refine i_A (k := 126) ar_126 hi ?_
        refine ⟨fun hc => ?_, fun hc => ?_⟩
        · replace h := h.1 hc
          exact h
        · replace h := h.2 hc
          refine ⟨fun hc => ?_, fun hc => ?_⟩
          · replace h := h.1 hc
            exact h
          · replace h := h.2 hc
            exact h
      · replace h := h.2 hc
        exact h)
  replace h := h (by
    intro x3 x4 M h
    refine c76 _ _ _ ?_
    exact h)
  replace h := h (by
    intro x3 x4 M h
    refine c86 _ _ _ ?_
    exact h)
  refine ⟨i_V (k := 118) fl_X7, p_X7_runs hA h (fun r2 M1 h => ?_)⟩
  exact h
def P_X7_flow (p1 : Int32) (M : Mem) (Q : Int32 → Mem → Prop) : Prop := ∀ (J33 : Int32 → Mem → Prop), (∀ (t0 : Int32) (M : Mem), (P_X7_throwsIf t0 (2 : Int32) M (fun r9 M8 => ((r9 = 0 → (P_X7_flows p1 (8 : Int32) M8 (fun r12 M11 => Q r12 M11))) ∧ (¬ r9 = 0 → Q (0 : Int32) M8)))) → J33 t0 M) → pW 118 0 (0 : Int32) M (fun M1 => (P_X7_noChannel p1 M1 (fun r3 M2 => (P_X7_throwsIf r3 (1 : Int32) M2 (fun r6 M5 => ((¬ r6 = 0 → Q (0 : Int32) M5) ∧ (r6 = 0 → (vp_in p1 8 ∧ ((¬ (M5 120 p1.toNatClampNeg) = 0 → J33 (0 : Int32) M5) ∧ ((M5 120 p1.toNatClampNeg) = 0 → J33 (1 : Int32) M5))))))))))
set_option maxRecDepth 20000 in
set_option maxHeartbeats 4000000 in
theorem p_X7_flow {G : Gx} {ad : Nat → Nat} {lf : Nat → Int64} (hA : Inj ad) {p1 : Int32} {M : Mem} {Q : Int32 → Mem → Prop} {QF : Int32 → va_W → Prop}  (h : P_X7_flow p1 M Q) (hq : ∀ r M, Q r M → QF r (wM ad (gc G) lf M)) : F_X7_flow G (ad 118) p1 (wM ad (gc G) lf M) QF := by
  intro J33 c33
  replace h := h (fun t0 M => J33 t0 (ad 118) (wM ad (gc G) lf M))
  replace h := h (by
    intro t0 M h
    refine c33 _ _ _ ?_
    refine ⟨i_V (k := 118) fl_X7, p_X7_throwsIf hA h (fun r9 M8 h => ?_)⟩
    refine ⟨fun hc => ?_, fun hc => ?_⟩
    · replace h := h.1 hc
      refine ⟨i_V (k := 118) fl_X7, p_X7_flows hA h (fun r12 M11 h => ?_)⟩
      exact hq _ _ h
    · replace h := h.2 hc
      exact hq _ _ h)
  refine i_P (k := 118) fl_X7 rfl ?_
  replace h := pW_at h
  generalize hM : mup M 118 0 (0 : Int32) = M1 at h ⊢
  clear hM
  refine ⟨i_V (k := 118) fl_X7, p_X7_noChannel hA h (fun r3 M2 h => ?_)⟩
  refine ⟨i_V (k := 118) fl_X7, p_X7_throwsIf hA h (fun r6 M5 h => ?_)⟩
  refine ⟨fun hc => ?_, fun hc => ?_⟩
  · replace h := h.1 hc
    exact hq _ _ h
  · replace h := h.2 hc
    refine i_R (k := 118) fl_X7 rfl ?_
    obtain ⟨hi, h⟩ := h
    refine i_A (k := 120) ar_120 hi ?_
    refine ⟨fun hc => ?_, fun hc => ?_⟩
    · replace h := h.1 hc
      exact h
    · replace h := h.2 hc
      exact h
def P_X7_harm (p1 : Int32) (M : Mem) (Q : Int32 → Mem → Prop) : Prop := ∀ (J33 : Int32 → Mem → Prop), (∀ (t0 : Int32) (M : Mem), (P_X7_throwsIf t0 (2 : Int32) M (fun r9 M8 => ((r9 = 0 → (vp_in p1 8 ∧ (P_X7_flows p1 (M8 122 p1.toNatClampNeg) M8 (fun r12 M11 => (P_X7_flows p1 (8 : Int32) M11 (fun r15 M14 => Q (r12 - r15) M14)))))) ∧ (¬ r9 = 0 → Q (0 : Int32) M8)))) → J33 t0 M) → pW 118 0 (0 : Int32) M (fun M1 => (P_X7_noChannel p1 M1 (fun r3 M2 => (P_X7_throwsIf r3 (1 : Int32) M2 (fun r6 M5 => ((¬ r6 = 0 → Q (0 : Int32) M5) ∧ (r6 = 0 → (vp_in p1 8 ∧ ((¬ (M5 120 p1.toNatClampNeg) = 0 → J33 (0 : Int32) M5) ∧ ((M5 120 p1.toNatClampNeg) = 0 → J33 (1 : Int32) M5))))))))))
set_option maxRecDepth 20000 in
set_option maxHeartbeats 4000000 in
theorem p_X7_harm {G : Gx} {ad : Nat → Nat} {lf : Nat → Int64} (hA : Inj ad) {p1 : Int32} {M : Mem} {Q : Int32 → Mem → Prop} {QF : Int32 → va_W → Prop}  (h : P_X7_harm p1 M Q) (hq : ∀ r M, Q r M → QF r (wM ad (gc G) lf M)) : F_X7_harm G (ad 118) p1 (wM ad (gc G) lf M) QF := by
  intro J33 c33
  replace h := h (fun t0 M => J33 t0 (ad 118) (wM ad (gc G) lf M))
  replace h := h (by
    intro t0 M h
    refine c33 _ _ _ ?_
    refine ⟨i_V (k := 118) fl_X7, p_X7_throwsIf hA h (fun r9 M8 h => ?_)⟩
    refine ⟨fun hc => ?_, fun hc => ?_⟩
    · replace h := h.1 hc
      refine i_R (k := 118) fl_X7 rfl ?_
      obtain ⟨hi, h⟩ := h
      refine i_A (k := 122) ar_122 hi ?_
      refine ⟨i_V (k := 118) fl_X7, p_X7_flows hA h (fun r12 M11 h => ?_)⟩
      refine ⟨i_V (k := 118) fl_X7, p_X7_flows hA h (fun r15 M14 h => ?_)⟩
      exact hq _ _ h
    · replace h := h.2 hc
      exact hq _ _ h)
  refine i_P (k := 118) fl_X7 rfl ?_
  replace h := pW_at h
  generalize hM : mup M 118 0 (0 : Int32) = M1 at h ⊢
  clear hM
  refine ⟨i_V (k := 118) fl_X7, p_X7_noChannel hA h (fun r3 M2 h => ?_)⟩
  refine ⟨i_V (k := 118) fl_X7, p_X7_throwsIf hA h (fun r6 M5 h => ?_)⟩
  refine ⟨fun hc => ?_, fun hc => ?_⟩
  · replace h := h.1 hc
    exact hq _ _ h
  · replace h := h.2 hc
    refine i_R (k := 118) fl_X7 rfl ?_
    obtain ⟨hi, h⟩ := h
    refine i_A (k := 120) ar_120 hi ?_
    refine ⟨fun hc => ?_, fun hc => ?_⟩
    · replace h := h.1 hc
      exact h
    · replace h := h.2 hc
      exact h
def P_X7_seep (p1 : Int32) (p2 : Int32) (M : Mem) (Q : Int32 → Mem → Prop) : Prop := ∀ (J34 : Int32 → Mem → Prop), (∀ (t0 : Int32) (M : Mem), (P_X7_throwsIf t0 (2 : Int32) M (fun r9 M8 => ((r9 = 0 → (P_X7_runs p1 M8 (fun r12 M11 => ((r12 ≤ p2 → Q (0 : Int32) M11) ∧ (¬ r12 ≤ p2 → (P_X7_seeps p1 p2 (8 : Int32) M11 (fun r15 M14 => Q r15 M14))))))) ∧ (¬ r9 = 0 → Q (0 : Int32) M8)))) → J34 t0 M) → pW 118 0 (0 : Int32) M (fun M1 => (P_X7_noWell p1 p2 M1 (fun r3 M2 => (P_X7_throwsIf r3 (1 : Int32) M2 (fun r6 M5 => ((¬ r6 = 0 → Q (0 : Int32) M5) ∧ (r6 = 0 → (vp_in p1 8 ∧ ((¬ (M5 120 p1.toNatClampNeg) = 0 → J34 (0 : Int32) M5) ∧ ((M5 120 p1.toNatClampNeg) = 0 → J34 (1 : Int32) M5))))))))))
set_option maxRecDepth 20000 in
set_option maxHeartbeats 4000000 in
theorem p_X7_seep {G : Gx} {ad : Nat → Nat} {lf : Nat → Int64} (hA : Inj ad) {p1 : Int32} {p2 : Int32} {M : Mem} {Q : Int32 → Mem → Prop} {QF : Int32 → va_W → Prop}  (h : P_X7_seep p1 p2 M Q) (hq : ∀ r M, Q r M → QF r (wM ad (gc G) lf M)) : F_X7_seep G (ad 118) p1 p2 (wM ad (gc G) lf M) QF := by
  intro J34 c34
  replace h := h (fun t0 M => J34 t0 (ad 118) (wM ad (gc G) lf M))
  replace h := h (by
    intro t0 M h
    refine c34 _ _ _ ?_
    refine ⟨i_V (k := 118) fl_X7, p_X7_throwsIf hA h (fun r9 M8 h => ?_)⟩
    refine ⟨fun hc => ?_, fun hc => ?_⟩
    · replace h := h.1 hc
      refine ⟨i_V (k := 118) fl_X7, p_X7_runs hA h (fun r12 M11 h => ?_)⟩
      refine ⟨fun hc => ?_, fun hc => ?_⟩
      · replace h := h.1 hc
        exact hq _ _ h
      · replace h := h.2 hc
        refine ⟨i_V (k := 118) fl_X7, p_X7_seeps hA h (fun r15 M14 h => ?_)⟩
        exact hq _ _ h
    · replace h := h.2 hc
      exact hq _ _ h)
  refine i_P (k := 118) fl_X7 rfl ?_
  replace h := pW_at h
  generalize hM : mup M 118 0 (0 : Int32) = M1 at h ⊢
  clear hM
  refine ⟨i_V (k := 118) fl_X7, p_X7_noWell hA h (fun r3 M2 h => ?_)⟩
  refine ⟨i_V (k := 118) fl_X7, p_X7_throwsIf hA h (fun r6 M5 h => ?_)⟩
  refine ⟨fun hc => ?_, fun hc => ?_⟩
  · replace h := h.1 hc
    exact hq _ _ h
  · replace h := h.2 hc
    refine i_R (k := 118) fl_X7 rfl ?_
    obtain ⟨hi, h⟩ := h
    refine i_A (k := 120) ar_120 hi ?_
    refine ⟨fun hc => ?_, fun hc => ?_⟩
    · replace h := h.1 hc
      exact h
    · replace h := h.2 hc
      exact h
def P_X7_isLet (p1 : Int32) (M : Mem) (Q : Int32 → Mem → Prop) : Prop := (vp_in (((7 : Int32) * p1) + (6 : Int32)) 420 ∧ (((M 128 (((7 : Int32) * p1) + (6 : Int32)).toNatClampNeg) ≤ (M 118 4) → Q (0 : Int32) M) ∧ (¬ (M 128 (((7 : Int32) * p1) + (6 : Int32)).toNatClampNeg) ≤ (M 118 4) → Q (1 : Int32) M)))
set_option maxRecDepth 20000 in
set_option maxHeartbeats 4000000 in
theorem p_X7_isLet {G : Gx} {ad : Nat → Nat} {lf : Nat → Int64} (hA : Inj ad) {p1 : Int32} {M : Mem} {Q : Int32 → Mem → Prop} {QF : Int32 → va_W → Prop}  (h : P_X7_isLet p1 M Q) (hq : ∀ r M, Q r M → QF r (wM ad (gc G) lf M)) : F_X7_isLet G (ad 118) p1 (wM ad (gc G) lf M) QF := by
  unfold P_X7_isLet at h
  unfold F_X7_isLet
  refine i_R (k := 118) fl_X7 rfl ?_
  obtain ⟨hi, h⟩ := h
  refine i_A (k := 128) ar_128 hi ?_
  refine i_I (k := 118) fl_X7 rfl ?_
  refine ⟨fun hc => ?_, fun hc => ?_⟩
  · replace h := h.1 hc
    exact hq _ _ h
  · replace h := h.2 hc
    exact hq _ _ h
def P_X7_noOwner (p0 : Int32) (M : Mem) (Q : Int32 → Mem → Prop) : Prop := (P_X7_in p0 (0 : Int32) (30 : Int32) M (fun r2 M1 => ((¬ r2 = 0 → Q (0 : Int32) M1) ∧ (r2 = 0 → Q (1 : Int32) M1))))
set_option maxRecDepth 20000 in
set_option maxHeartbeats 4000000 in
theorem p_X7_noOwner {G : Gx} {ad : Nat → Nat} {lf : Nat → Int64} (hA : Inj ad) {p0 : Int32} {M : Mem} {Q : Int32 → Mem → Prop} {QF : Int32 → va_W → Prop}  (h : P_X7_noOwner p0 M Q) (hq : ∀ r M, Q r M → QF r (wM ad (gc G) lf M)) : F_X7_noOwner G p0 (wM ad (gc G) lf M) QF := by
  unfold P_X7_noOwner at h
  unfold F_X7_noOwner
  refine p_X7_in hA h (fun r2 M1 h => ?_)
  refine ⟨fun hc => ?_, fun hc => ?_⟩
  · replace h := h.1 hc
    exact hq _ _ h
  · replace h := h.2 hc
    exact hq _ _ h
def P_X7_sell (p1 : Int32) (p2 : Int32) (p3 : Int32) (p4 : Int32) (M : Mem) (Q : Mem → Prop) : Prop := ∀ (J100 : Int32 → Int32 → Int32 → Int32 → Mem → Prop), ∀ (J101 : Int32 → Int32 → Int32 → Int32 → Int32 → Mem → Prop), ∀ (J114 : Int32 → Int32 → Int32 → Int32 → Int32 → Int32 → Mem → Prop), ∀ (J125 : Int32 → Int32 → Int32 → Int32 → Int32 → Int32 → Int32 → Mem → Prop), ∀ (J139 : Int32 → Int32 → Int32 → Int32 → Int32 → Int32 → Mem → Prop), ∀ (J164 : Int32 → Int32 → Int32 → Int32 → Int32 → Mem → Prop), ∀ (J203 : Int32 → Int32 → Int32 → Mem → Prop), (∀ (x5 : Int32) (x6 : Int32) (x7 : Int32) (x8 : Int32) (M : Mem), J101 x5 x6 x7 x8 (0 : Int32) M → J100 x5 x6 x7 x8 M) → (∀ (x5 : Int32) (x6 : Int32) (x7 : Int32) (x8 : Int32) (t0 : Int32) (M : Mem), ((p2 ≤ x6 → J114 x5 x6 x7 x8 t0 (0 : Int32) M) ∧ (¬ p2 ≤ x6 → J114 x5 x6 x7 x8 t0 (1 : Int32) M)) → J101 x5 x6 x7 x8 t0 M) → (∀ (x5 : Int32) (x6 : Int32) (x7 : Int32) (x8 : Int32) (x9 : Int32) (t0 : Int32) (M : Mem), ((x7 ≤ p3 → J125 x5 x6 x7 x8 x9 (0 : Int32) t0 M) ∧ (¬ x7 ≤ p3 → J125 x5 x6 x7 x8 x9 (1 : Int32) t0 M)) → J114 x5 x6 x7 x8 x9 t0 M) → (∀ (x5 : Int32) (x6 : Int32) (x7 : Int32) (x8 : Int32) (x9 : Int32) (t0 : Int32) (t1 : Int32) (M : Mem), ((¬ x9 = 0 → J139 x5 x6 x7 x8 (t1 + t0) (0 : Int32) M) ∧ (x9 = 0 → J139 x5 x6 x7 x8 (t1 + t0) (1 : Int32) M)) → J125 x5 x6 x7 x8 x9 t0 t1 M) → (∀ (x5 : Int32) (x6 : Int32) (x7 : Int32) (x8 : Int32) (x10 : Int32) (t0 : Int32) (M : Mem), (P_X7_throwsIf t0 (3 : Int32) M (fun r18 M17 => ((¬ r18 = 0 → Q M17) ∧ (r18 = 0 → ((((M17 118 17) + x10) ≤ (60 : Int32) → J164 x5 x6 x7 x8 (0 : Int32) M17) ∧ (¬ ((M17 118 17) + x10) ≤ (60 : Int32) → J164 x5 x6 x7 x8 (1 : Int32) M17)))))) → J139 x5 x6 x7 x8 x10 t0 M) → (∀ (x5 : Int32) (x6 : Int32) (x7 : Int32) (x8 : Int32) (t0 : Int32) (M : Mem), (P_X7_throwsIf t0 (4 : Int32) M (fun r21 M20 => ((r21 = 0 → (P_X7_sets p1 p2 p3 p4 M20 (fun M23 => ((p2 ≤ x6 → J203 x5 x7 x8 M23) ∧ (¬ p2 ≤ x6 → (vp_in x5 420 ∧ (P_X7_adds (M23 128 x5.toNatClampNeg) x6 p2 x8 M23 (fun M26 => J203 x5 x7 x8 M26)))))))) ∧ (¬ r21 = 0 → Q M20)))) → J164 x5 x6 x7 x8 t0 M) → (∀ (x5 : Int32) (x7 : Int32) (x8 : Int32) (M : Mem), ((x7 ≤ p3 → Q M) ∧ (¬ x7 ≤ p3 → (vp_in x5 420 ∧ (P_X7_adds (M 128 x5.toNatClampNeg) p3 x7 x8 M (fun M29 => Q M29))))) → J203 x5 x7 x8 M) → pW 118 0 (0 : Int32) M (fun M1 => (P_X7_noShare p1 M1 (fun r3 M2 => (P_X7_throwsIf r3 (1 : Int32) M2 (fun r6 M5 => ((¬ r6 = 0 → Q M5) ∧ (r6 = 0 → (P_X7_isLet p1 M5 (fun r9 M8 => (P_X7_throwsIf r9 (2 : Int32) M8 (fun r12 M11 => ((r12 = 0 → (vp_in (((7 : Int32) * p1) + (1 : Int32)) 420 ∧ (vp_in (((7 : Int32) * p1) + (2 : Int32)) 420 ∧ (vp_in (((7 : Int32) * p1) + (3 : Int32)) 420 ∧ (P_X7_noOwner p4 M11 (fun r15 M14 => ((¬ r15 = 0 → J100 ((7 : Int32) * p1) (M11 128 (((7 : Int32) * p1) + (1 : Int32)).toNatClampNeg) (M11 128 (((7 : Int32) * p1) + (2 : Int32)).toNatClampNeg) (M11 128 (((7 : Int32) * p1) + (3 : Int32)).toNatClampNeg) M14) ∧ (r15 = 0 → ((p2 < (M11 128 (((7 : Int32) * p1) + (1 : Int32)).toNatClampNeg) → J100 ((7 : Int32) * p1) (M11 128 (((7 : Int32) * p1) + (1 : Int32)).toNatClampNeg) (M11 128 (((7 : Int32) * p1) + (2 : Int32)).toNatClampNeg) (M11 128 (((7 : Int32) * p1) + (3 : Int32)).toNatClampNeg) M14) ∧ (¬ p2 < (M11 128 (((7 : Int32) * p1) + (1 : Int32)).toNatClampNeg) → ((p3 ≤ p2 → J100 ((7 : Int32) * p1) (M11 128 (((7 : Int32) * p1) + (1 : Int32)).toNatClampNeg) (M11 128 (((7 : Int32) * p1) + (2 : Int32)).toNatClampNeg) (M11 128 (((7 : Int32) * p1) + (3 : Int32)).toNatClampNeg) M14) ∧ (¬ p3 ≤ p2 → (((M11 128 (((7 : Int32) * p1) + (2 : Int32)).toNatClampNeg) < p3 → J100 ((7 : Int32) * p1) (M11 128 (((7 : Int32) * p1) + (1 : Int32)).toNatClampNeg) (M11 128 (((7 : Int32) * p1) + (2 : Int32)).toNatClampNeg) (M11 128 (((7 : Int32) * p1) + (3 : Int32)).toNatClampNeg) M14) ∧ (¬ (M11 128 (((7 : Int32) * p1) + (2 : Int32)).toNatClampNeg) < p3 → J101 ((7 : Int32) * p1) (M11 128 (((7 : Int32) * p1) + (1 : Int32)).toNatClampNeg) (M11 128 (((7 : Int32) * p1) + (2 : Int32)).toNatClampNeg) (M11 128 (((7 : Int32) * p1) + (3 : Int32)).toNatClampNeg) (1 : Int32) M14)))))))))))))) ∧ (¬ r12 = 0 → Q M11)))))))))))))
set_option maxRecDepth 20000 in
set_option maxHeartbeats 4000000 in
theorem p_X7_sell {G : Gx} {ad : Nat → Nat} {lf : Nat → Int64} (hA : Inj ad) {p1 : Int32} {p2 : Int32} {p3 : Int32} {p4 : Int32} {M : Mem} {Q : Mem → Prop} {QF : va_W → Prop}  (h : P_X7_sell p1 p2 p3 p4 M Q) (hq : ∀ M, Q M → QF (wM ad (gc G) lf M)) : F_X7_sell G (ad 118) p1 p2 p3 p4 (wM ad (gc G) lf M) QF := by
  intro J100 J101 J114 J125 J139 J164 J203 c100 c101 c114 c125 c139 c164 c203
  replace h := h (fun x5 x6 x7 x8 M => J100 x5 x6 x7 x8 (wM ad (gc G) lf M)) (fun x5 x6 x7 x8 t0 M => J101 x5 x6 x7 x8 t0 (wM ad (gc G) lf M)) (fun x5 x6 x7 x8 x9 t0 M => J114 x5 x6 x7 x8 x9 t0 (wM ad (gc G) lf M)) (fun x5 x6 x7 x8 x9 t0 t1 M => J125 x5 x6 x7 x8 x9 t0 t1 (wM ad (gc G) lf M)) (fun x5 x6 x7 x8 x10 t0 M => J139 x5 x6 x7 x8 x10 t0 (ad 118) (wM ad (gc G) lf M)) (fun x5 x6 x7 x8 t0 M => J164 x5 x6 x7 x8 t0 (ad 118) (wM ad (gc G) lf M)) (fun x5 x7 x8 M => J203 x5 x7 x8 (wM ad (gc G) lf M))
  replace h := h (by
    intro x5 x6 x7 x8 M h
    refine c100 _ _ _ _ _ ?_
    exact h)
  replace h := h (by
    intro x5 x6 x7 x8 t0 M h
    refine c101 _ _ _ _ _ _ ?_
    refine ⟨fun hc => ?_, fun hc => ?_⟩
    · replace h := h.1 hc
      exact h
    · replace h := h.2 hc
      exact h)
  replace h := h (by
    intro x5 x6 x7 x8 x9 t0 M h
    refine c114 _ _ _ _ _ _ _ ?_
    refine ⟨fun hc => ?_, fun hc => ?_⟩
    · replace h := h.1 hc
      exact h
    · replace h := h.2 hc
      exact h)
  replace h := h (by
    intro x5 x6 x7 x8 x9 t0 t1 M h
    refine c125 _ _ _ _ _ _ _ _ ?_
    refine ⟨fun hc => ?_, fun hc => ?_⟩
    · replace h := h.1 hc
      exact h
    · replace h := h.2 hc
      exact h)
  replace h := h (by
    intro x5 x6 x7 x8 x10 t0 M h
    refine c139 _ _ _ _ _ _ _ _ ?_
    refine ⟨i_V (k := 118) fl_X7, p_X7_throwsIf hA h (fun r18 M17 h => ?_)⟩
    refine ⟨fun hc => ?_, fun hc => ?_⟩
    · replace h := h.1 hc
      exact hq _ h
    · replace h := h.2 hc
      refine i_I (k := 118) fl_X7 rfl ?_
      refine ⟨fun hc => ?_, fun hc => ?_⟩
      · replace h := h.1 hc
        exact h
      · replace h := h.2 hc
        exact h)
  replace h := h (by
    intro x5 x6 x7 x8 t0 M h
    refine c164 _ _ _ _ _ _ _ ?_
    refine ⟨i_V (k := 118) fl_X7, p_X7_throwsIf hA h (fun r21 M20 h => ?_)⟩
    refine ⟨fun hc => ?_, fun hc => ?_⟩
    · replace h := h.1 hc
      refine ⟨i_V (k := 118) fl_X7, p_X7_sets hA h (fun M23 h => ?_)⟩
      refine ⟨fun hc => ?_, fun hc => ?_⟩
      · replace h := h.1 hc
        exact h
      · replace h := h.2 hc
        refine i_R (k := 118) fl_X7 rfl ?_
        obtain ⟨hi, h⟩ := h
        refine i_A (k := 128) ar_128 hi ?_
        refine ⟨i_V (k := 118) fl_X7, p_X7_adds hA h (fun M26 h => ?_)⟩
        exact h
    · replace h := h.2 hc
      exact hq _ h)
  replace h := h (by
    intro x5 x7 x8 M h
    refine c203 _ _ _ _ ?_
    refine ⟨fun hc => ?_, fun hc => ?_⟩
    · replace h := h.1 hc
      exact hq _ h
    · replace h := h.2 hc
      refine i_R (k := 118) fl_X7 rfl ?_
      obtain ⟨hi, h⟩ := h
      refine i_A (k := 128) ar_128 hi ?_
      refine ⟨i_V (k := 118) fl_X7, p_X7_adds hA h (fun M29 h => ?_)⟩
      exact hq _ h)
  refine i_P (k := 118) fl_X7 rfl ?_
  replace h := pW_at h
  generalize hM : mup M 118 0 (0 : Int32) = M1 at h ⊢
  clear hM
  refine ⟨i_V (k := 118) fl_X7, p_X7_noShare hA h (fun r3 M2 h => ?_)⟩
  refine ⟨i_V (k := 118) fl_X7, p_X7_throwsIf hA h (fun r6 M5 h => ?_)⟩
  refine ⟨fun hc => ?_, fun hc => ?_⟩
  · replace h := h.1 hc
    exact hq _ h
  · replace h := h.2 hc
    refine ⟨i_V (k := 118) fl_X7, p_X7_isLet hA h (fun r9 M8 h => ?_)⟩
    refine ⟨i_V (k := 118) fl_X7, p_X7_throwsIf hA h (fun r12 M11 h => ?_)⟩
    refine ⟨fun hc => ?_, fun hc => ?_⟩
    · replace h := h.1 hc
      refine i_R (k := 118) fl_X7 rfl ?_
      obtain ⟨hi, h⟩ := h
      refine i_A (k := 128) ar_128 hi ?_
      refine i_R (k := 118) fl_X7 rfl ?_
      obtain ⟨hi, h⟩ := h
      refine i_A (k := 128) ar_128 hi ?_
      refine i_R (k := 118) fl_X7 rfl ?_
      obtain ⟨hi, h⟩ := h
      refine i_A (k := 128) ar_128 hi ?_
      refine p_X7_noOwner hA h (fun r15 M14 h => ?_)
      refine ⟨fun hc => ?_, fun hc => ?_⟩
      · replace h := h.1 hc
        exact h
      · replace h := h.2 hc
        refine ⟨fun hc => ?_, fun hc => ?_⟩
        · replace h := h.1 hc
          exact h
        · replace h := h.2 hc
          refine ⟨fun hc => ?_, fun hc => ?_⟩
          · replace h := h.1 hc
            exact h
          · replace h := h.2 hc
            refine ⟨fun hc => ?_, fun hc => ?_⟩
            · replace h := h.1 hc
              exact h
            · replace h := h.2 hc
              exact h
    · replace h := h.2 hc
      exact hq _ h
def P_X7_heirs (p1 : Int32) (p2 : Int32) (p3 : Int32) (p4 : Int32) (p5 : Int32) (p6 : Int32) (p7 : Int32) (p8 : Int32) (p9 : Int32) (p10 : Int32) (M : Mem) (Q : Int32 → Mem → Prop) : Prop := ∀ (J107 : Int32 → Int32 → Mem → Prop), ∀ (J160 : Int32 → Mem → Prop), ∀ (J151 : Int32 → Mem → Prop), ∀ (J152 : Int32 → Int32 → Mem → Prop), ∀ (J171 : Int32 → Mem → Prop), ∀ (J217 : Int32 → Int32 → Int32 → Int32 → Int32 → Mem → Prop), ∀ (J248 : Int32 → Int32 → Int32 → Int32 → Int32 → Int32 → Mem → Prop), ∀ (J298 : Int32 → Int32 → Int32 → Int32 → Int32 → Mem → Prop), ∀ (J372 : Int32 → Int32 → Int32 → Int32 → Mem → Prop), ∀ (J324 : Int32 → Int32 → Int32 → Int32 → Int32 → Int32 → Int32 → Int32 → Mem → Prop), ∀ (J387 : Int32 → Int32 → Int32 → Int32 → Int32 → Mem → Prop), ∀ (J343 : Int32 → Int32 → Int32 → Int32 → Int32 → Int32 → Mem → Prop), ∀ (J468 : Int32 → Int32 → Int32 → Int32 → Mem → Prop), ∀ (J483 : Int32 → Int32 → Int32 → Int32 → Int32 → Mem → Prop), (∀ (x11 : Int32) (x12 : Int32) (M : Mem), ((x11 = 0 → J160 x11 M) ∧ (¬ x11 = 0 → ((p2 ≤ x12 → J160 x11 M) ∧ (¬ p2 ≤ x12 → (vp_in x12 4 ∧ (P_X7_noOwner (M 129 x12.toNatClampNeg) M (fun r26 M25 => ((¬ r26 = 0 → J151 x12 M25) ∧ (r26 = 0 → (vp_in x12 4 ∧ (P_X7_in (M25 130 x12.toNatClampNeg) (1 : Int32) (100 : Int32) M25 (fun r29 M28 => ((r29 = 0 → J151 x12 M28) ∧ (¬ r29 = 0 → J152 x12 (1 : Int32) M28)))))))))))))) → J107 x11 x12 M) → (∀ (x11 : Int32) (M : Mem), ((¬ x11 = 0 → J171 (0 : Int32) M) ∧ (x11 = 0 → J171 (1 : Int32) M)) → J160 x11 M) → (∀ (x12 : Int32) (M : Mem), J152 x12 (0 : Int32) M → J151 x12 M) → (∀ (x12 : Int32) (t0 : Int32) (M : Mem), J107 t0 (x12 + (1 : Int32)) M → J152 x12 t0 M) → (∀ (t0 : Int32) (M : Mem), (P_X7_throwsIf t0 (3 : Int32) M (fun r32 M31 => ((r32 = 0 → (vp_in (((7 : Int32) * p1) + (1 : Int32)) 420 ∧ (vp_in (((7 : Int32) * p1) + (2 : Int32)) 420 ∧ J217 ((7 : Int32) * p1) (M31 128 (((7 : Int32) * p1) + (1 : Int32)).toNatClampNeg) ((M31 128 (((7 : Int32) * p1) + (2 : Int32)).toNatClampNeg) - (M31 128 (((7 : Int32) * p1) + (1 : Int32)).toNatClampNeg)) (0 : Int32) (0 : Int32) M31))) ∧ (¬ r32 = 0 → Q (0 : Int32) M31)))) → J171 t0 M) → (∀ (x12 : Int32) (x13 : Int32) (x14 : Int32) (x15 : Int32) (x16 : Int32) (M : Mem), ((p2 ≤ x16 → J248 x12 x13 x14 x15 x14 (0 : Int32) M) ∧ (¬ p2 ≤ x16 → (vp_in x16 4 ∧ J217 x12 x13 x14 (x15 + (M 130 x16.toNatClampNeg)) (x16 + (1 : Int32)) M))) → J217 x12 x13 x14 x15 x16 M) → (∀ (x12 : Int32) (x13 : Int32) (x14 : Int32) (x15 : Int32) (x16 : Int32) (x17 : Int32) (M : Mem), ((p2 ≤ x17 → J298 x12 x13 x16 (0 : Int32) (0 : Int32) M) ∧ (¬ p2 ≤ x17 → (vp_in x17 4 ∧ (¬ x15 = 0 ∧ ((vp_in x17 4 ∧ pW 131 x17.toNatClampNeg ((x14 * (M 130 x17.toNatClampNeg)) / x15) M (fun M34 => (vp_in x17 4 ∧ J248 x12 x13 x14 x15 (x16 - (M34 131 x17.toNatClampNeg)) (x17 + (1 : Int32)) M34)))))))) → J248 x12 x13 x14 x15 x16 x17 M) → (∀ (x12 : Int32) (x13 : Int32) (x16 : Int32) (x17 : Int32) (x18 : Int32) (M : Mem), ((p2 ≤ x18 → (((((M 118 17) + x17) - (1 : Int32)) ≤ (60 : Int32) → J372 x12 x13 x17 (0 : Int32) M) ∧ (¬ (((M 118 17) + x17) - (1 : Int32)) ≤ (60 : Int32) → J372 x12 x13 x17 (1 : Int32) M))) ∧ (¬ p2 ≤ x18 → (vp_in x18 4 ∧ ((x16 ≤ x18 → J324 x12 x13 x16 x17 x18 (0 : Int32) (M 131 x18.toNatClampNeg) x18 M) ∧ (¬ x16 ≤ x18 → J324 x12 x13 x16 x17 x18 (1 : Int32) (M 131 x18.toNatClampNeg) x18 M))))) → J298 x12 x13 x16 x17 x18 M) → (∀ (x12 : Int32) (x13 : Int32) (x17 : Int32) (t0 : Int32) (M : Mem), (P_X7_throwsIf t0 (4 : Int32) M (fun r36 M35 => ((r36 = 0 → J387 x12 x13 x17 (1 : Int32) (0 : Int32) M35) ∧ (¬ r36 = 0 → Q (0 : Int32) M35)))) → J372 x12 x13 x17 t0 M) → (∀ (x12 : Int32) (x13 : Int32) (x16 : Int32) (x17 : Int32) (x18 : Int32) (t0 : Int32) (t1 : Int32) (t2 : Int32) (M : Mem), (vp_in t2 4 ∧ pW 131 t2.toNatClampNeg (t1 + t0) M (fun M38 => (vp_in x18 4 ∧ (((M38 131 x18.toNatClampNeg) ≤ 0 → J343 x12 x13 x16 x18 (0 : Int32) x17 M38) ∧ (¬ (M38 131 x18.toNatClampNeg) ≤ 0 → J343 x12 x13 x16 x18 (1 : Int32) x17 M38))))) → J324 x12 x13 x16 x17 x18 t0 t1 t2 M) → (∀ (x12 : Int32) (x13 : Int32) (x17 : Int32) (x18 : Int32) (x19 : Int32) (M : Mem), ((p2 ≤ x19 → Q x17 M) ∧ (¬ p2 ≤ x19 → (vp_in x19 4 ∧ ((¬ (M 131 x19.toNatClampNeg) = 0 → ((x18 = 0 → (vp_in x12 420 ∧ (vp_in x19 4 ∧ (vp_in x19 4 ∧ (P_X7_adds (M 128 x12.toNatClampNeg) x13 (x13 + (M 131 x19.toNatClampNeg)) (M 129 x19.toNatClampNeg) M (fun M39 => J468 x12 x13 x17 x19 M39)))))) ∧ (¬ x18 = 0 → (vp_in x19 4 ∧ (vp_in x19 4 ∧ (P_X7_sets p1 x13 (x13 + (M 131 x19.toNatClampNeg)) (M 129 x19.toNatClampNeg) M (fun M42 => J468 x12 x13 x17 x19 M42))))))) ∧ ((M 131 x19.toNatClampNeg) = 0 → J483 x12 x13 x17 x18 x19 M))))) → J387 x12 x13 x17 x18 x19 M) → (∀ (x12 : Int32) (x13 : Int32) (x16 : Int32) (x18 : Int32) (t0 : Int32) (t1 : Int32) (M : Mem), J298 x12 x13 x16 (t1 + t0) (x18 + (1 : Int32)) M → J343 x12 x13 x16 x18 t0 t1 M) → (∀ (x12 : Int32) (x13 : Int32) (x17 : Int32) (x19 : Int32) (M : Mem), (vp_in x19 4 ∧ J483 x12 (x13 + (M 131 x19.toNatClampNeg)) x17 (0 : Int32) x19 M) → J468 x12 x13 x17 x19 M) → (∀ (x12 : Int32) (x13 : Int32) (x17 : Int32) (x18 : Int32) (x19 : Int32) (M : Mem), J387 x12 x13 x17 x18 (x19 + (1 : Int32)) M → J483 x12 x13 x17 x18 x19 M) → pW 118 0 (0 : Int32) M (fun M1 => (P_X7_noShare p1 M1 (fun r3 M2 => (P_X7_throwsIf r3 (1 : Int32) M2 (fun r6 M5 => ((¬ r6 = 0 → Q (0 : Int32) M5) ∧ (r6 = 0 → (P_X7_isLet p1 M5 (fun r9 M8 => (P_X7_throwsIf r9 (2 : Int32) M8 (fun r12 M11 => ((r12 = 0 → (vp_in (0 : Int32) 4 ∧ pW 129 (0 : Int32).toNatClampNeg p3 M11 (fun M14 => (vp_in (1 : Int32) 4 ∧ pW 129 (1 : Int32).toNatClampNeg p5 M14 (fun M15 => (vp_in (2 : Int32) 4 ∧ pW 129 (2 : Int32).toNatClampNeg p7 M15 (fun M16 => (vp_in (3 : Int32) 4 ∧ pW 129 (3 : Int32).toNatClampNeg p9 M16 (fun M17 => (vp_in (0 : Int32) 4 ∧ pW 130 (0 : Int32).toNatClampNeg p4 M17 (fun M18 => (vp_in (1 : Int32) 4 ∧ pW 130 (1 : Int32).toNatClampNeg p6 M18 (fun M19 => (vp_in (2 : Int32) 4 ∧ pW 130 (2 : Int32).toNatClampNeg p8 M19 (fun M20 => (vp_in (3 : Int32) 4 ∧ pW 130 (3 : Int32).toNatClampNeg p10 M20 (fun M21 => (P_X7_in p2 (2 : Int32) (4 : Int32) M21 (fun r23 M22 => J107 r23 (0 : Int32) M22))))))))))))))))))) ∧ (¬ r12 = 0 → Q (0 : Int32) M11)))))))))))))
set_option maxRecDepth 20000 in
set_option maxHeartbeats 4000000 in
theorem p_X7_heirs {G : Gx} {ad : Nat → Nat} {lf : Nat → Int64} (hA : Inj ad) {p1 : Int32} {p2 : Int32} {p3 : Int32} {p4 : Int32} {p5 : Int32} {p6 : Int32} {p7 : Int32} {p8 : Int32} {p9 : Int32} {p10 : Int32} {M : Mem} {Q : Int32 → Mem → Prop} {QF : Int32 → va_W → Prop}  (h : P_X7_heirs p1 p2 p3 p4 p5 p6 p7 p8 p9 p10 M Q) (hq : ∀ r M, Q r M → QF r (wM ad (gc G) lf M)) : F_X7_heirs G (ad 118) p1 p2 p3 p4 p5 p6 p7 p8 p9 p10 (wM ad (gc G) lf M) QF := by
  intro J107 J160 J151 J152 J171 J217 J248 J298 J372 J324 J387 J343 J468 J483 c107 c160 c151 c152 c171 c217 c248 c298 c372 c324 c387 c343 c468 c483
  replace h := h (fun x11 x12 M => J107 x11 x12 (wM ad (gc G) lf M)) (fun x11 M => J160 x11 (wM ad (gc G) lf M)) (fun x12 M => J151 x12 (wM ad (gc G) lf M)) (fun x12 t0 M => J152 x12 t0 (wM ad (gc G) lf M)) (fun t0 M => J171 t0 (ad 118) (wM ad (gc G) lf M)) (fun x12 x13 x14 x15 x16 M => J217 x12 x13 x14 x15 x16 (wM ad (gc G) lf M)) (fun x12 x13 x14 x15 x16 x17 M => J248 x12 x13 x14 x15 x16 x17 (wM ad (gc G) lf M)) (fun x12 x13 x16 x17 x18 M => J298 x12 x13 x16 x17 x18 (wM ad (gc G) lf M)) (fun x12 x13 x17 t0 M => J372 x12 x13 x17 t0 (ad 118) (wM ad (gc G) lf M)) (fun x12 x13 x16 x17 x18 t0 t1 t2 M => J324 x12 x13 x16 x17 x18 t0 t1 t2 (ad 131) (wM ad (gc G) lf M)) (fun x12 x13 x17 x18 x19 M => J387 x12 x13 x17 x18 x19 (wM ad (gc G) lf M)) (fun x12 x13 x16 x18 t0 t1 M => J343 x12 x13 x16 x18 t0 t1 (wM ad (gc G) lf M)) (fun x12 x13 x17 x19 M => J468 x12 x13 x17 x19 (wM ad (gc G) lf M)) (fun x12 x13 x17 x18 x19 M => J483 x12 x13 x17 x18 x19 (wM ad (gc G) lf M))
  replace h := h (by
    intro x11 x12 M h
    refine c107 _ _ _ ?_
    refine ⟨fun hc => ?_, fun hc => ?_⟩
    · replace h := h.1 hc
      exact h
    · replace h := h.2 hc
      refine ⟨fun hc => ?_, fun hc => ?_⟩
      · replace h := h.1 hc
        exact h
      · replace h := h.2 hc
        refine i_R (k := 118) fl_X7 rfl ?_
        obtain ⟨hi, h⟩ := h
        refine i_A (k := 129) ar_129 hi ?_
        refine p_X7_noOwner hA h (fun r26 M25 h => ?_)
        refine ⟨fun hc => ?_, fun hc => ?_⟩
        · replace h := h.1 hc
          exact h
        · replace h := h.2 hc
          refine i_R (k := 118) fl_X7 rfl ?_
          obtain ⟨hi, h⟩ := h
          refine i_A (k := 130) ar_130 hi ?_
          refine p_X7_in hA h (fun r29 M28 h => ?_)
          refine ⟨fun hc => ?_, fun hc => ?_⟩
          · replace h := h.1 hc
            exact h
          · replace h := h.2 hc
            exact h)
  replace h := h (by
    intro x11 M h
    refine c160 _ _ ?_
    refine ⟨fun hc => ?_, fun hc => ?_⟩
    · replace h := h.1 hc
      exact h
    · replace h := h.2 hc
      exact h)
  replace h := h (by
    intro x12 M h
    refine c151 _ _ ?_
    exact h)
  replace h := h (by
    intro x12 t0 M h
    refine c152 _ _ _ ?_
    exact h)
  replace h := h (by
    intro t0 M h
    refine c171 _ _ _ ?_
    refine ⟨i_V (k := 118) fl_X7, p_X7_throwsIf hA h (fun r32 M31 h => ?_)⟩
    refine ⟨fun hc => ?_, fun hc => ?_⟩
    · replace h := h.1 hc
      refine i_R (k := 118) fl_X7 rfl ?_
      obtain ⟨hi, h⟩ := h
      refine i_A (k := 128) ar_128 hi ?_
      refine i_R (k := 118) fl_X7 rfl ?_
      obtain ⟨hi, h⟩ := h
      refine i_A (k := 128) ar_128 hi ?_
      exact h
    · replace h := h.2 hc
      exact hq _ _ h)
  replace h := h (by
    intro x12 x13 x14 x15 x16 M h
    refine c217 _ _ _ _ _ _ ?_
    refine ⟨fun hc => ?_, fun hc => ?_⟩
    · replace h := h.1 hc
      exact h
    · replace h := h.2 hc
      refine i_R (k := 118) fl_X7 rfl ?_
      obtain ⟨hi, h⟩ := h
      refine i_A (k := 130) ar_130 hi ?_
      exact h)
  replace h := h (by
    intro x12 x13 x14 x15 x16 x17 M h
    refine c248 _ _ _ _ _ _ _ ?_
    refine ⟨fun hc => ?_, fun hc => ?_⟩
    · replace h := h.1 hc
      exact h
    · replace h := h.2 hc
      refine i_R (k := 118) fl_X7 rfl ?_
      refine i_R (k := 118) fl_X7 rfl ?_
      obtain ⟨hi, h⟩ := h
      refine i_A (k := 130) ar_130 hi ?_
      obtain ⟨hz, h⟩ := h
      refine ⟨hz, ?_⟩
      obtain ⟨hi, h⟩ := h
      refine i_S (k := 131) ar_131 hi ?_
      replace h := pW_at h
      generalize hM : mup M 131 x17.toNatClampNeg ((x14 * (M 130 x17.toNatClampNeg)) / x15) = M34 at h ⊢
      clear hM
      refine i_R (k := 118) fl_X7 rfl ?_
      obtain ⟨hi, h⟩ := h
      refine i_A (k := 131) ar_131 hi ?_
      exact h)
  replace h := h (by
    intro x12 x13 x16 x17 x18 M h
    refine c298 _ _ _ _ _ _ ?_
    refine ⟨fun hc => ?_, fun hc => ?_⟩
    · replace h := h.1 hc
      refine i_I (k := 118) fl_X7 rfl ?_
      refine ⟨fun hc => ?_, fun hc => ?_⟩
      · replace h := h.1 hc
        exact h
      · replace h := h.2 hc
        exact h
    · replace h := h.2 hc
      refine i_R (k := 118) fl_X7 rfl ?_
      obtain ⟨hi, h⟩ := h
      refine i_A (k := 131) ar_131 hi ?_
      refine ⟨fun hc => ?_, fun hc => ?_⟩
      · replace h := h.1 hc
        exact h
      · replace h := h.2 hc
        exact h)
  replace h := h (by
    intro x12 x13 x17 t0 M h
    refine c372 _ _ _ _ _ _ ?_
    refine ⟨i_V (k := 118) fl_X7, p_X7_throwsIf hA h (fun r36 M35 h => ?_)⟩
    refine ⟨fun hc => ?_, fun hc => ?_⟩
    · replace h := h.1 hc
      exact h
    · replace h := h.2 hc
      exact hq _ _ h)
  replace h := h (by
    intro x12 x13 x16 x17 x18 t0 t1 t2 M h
    refine c324 _ _ _ _ _ _ _ _ _ _ ?_
    obtain ⟨hi, h⟩ := h
    refine i_S (k := 131) ar_131 hi ?_
    replace h := pW_at h
    generalize hM : mup M 131 t2.toNatClampNeg (t1 + t0) = M38 at h ⊢
    clear hM
    refine i_R (k := 118) fl_X7 rfl ?_
    obtain ⟨hi, h⟩ := h
    refine i_A (k := 131) ar_131 hi ?_
    refine ⟨fun hc => ?_, fun hc => ?_⟩
    · replace h := h.1 hc
      exact h
    · replace h := h.2 hc
      exact h)
  replace h := h (by
    intro x12 x13 x17 x18 x19 M h
    refine c387 _ _ _ _ _ _ ?_
    refine ⟨fun hc => ?_, fun hc => ?_⟩
    · replace h := h.1 hc
      exact hq _ _ h
    · replace h := h.2 hc
      refine i_R (k := 118) fl_X7 rfl ?_
      obtain ⟨hi, h⟩ := h
      refine i_A (k := 131) ar_131 hi ?_
      refine ⟨fun hc => ?_, fun hc => ?_⟩
      · replace h := h.1 hc
        refine ⟨fun hc => ?_, fun hc => ?_⟩
        · replace h := h.1 hc
          refine i_R (k := 118) fl_X7 rfl ?_
          obtain ⟨hi, h⟩ := h
          refine i_A (k := 128) ar_128 hi ?_
          refine i_R (k := 118) fl_X7 rfl ?_
          obtain ⟨hi, h⟩ := h
          refine i_A (k := 131) ar_131 hi ?_
          refine i_R (k := 118) fl_X7 rfl ?_
          obtain ⟨hi, h⟩ := h
          refine i_A (k := 129) ar_129 hi ?_
          refine ⟨i_V (k := 118) fl_X7, p_X7_adds hA h (fun M39 h => ?_)⟩
          exact h
        · replace h := h.2 hc
          refine i_R (k := 118) fl_X7 rfl ?_
          obtain ⟨hi, h⟩ := h
          refine i_A (k := 131) ar_131 hi ?_
          refine i_R (k := 118) fl_X7 rfl ?_
          obtain ⟨hi, h⟩ := h
          refine i_A (k := 129) ar_129 hi ?_
          refine ⟨i_V (k := 118) fl_X7, p_X7_sets hA h (fun M42 h => ?_)⟩
          exact h
      · replace h := h.2 hc
        exact h)
  replace h := h (by
    intro x12 x13 x16 x18 t0 t1 M h
    refine c343 _ _ _ _ _ _ _ ?_
    exact h)
  replace h := h (by
    intro x12 x13 x17 x19 M h
    refine c468 _ _ _ _ _ ?_
    refine i_R (k := 118) fl_X7 rfl ?_
    obtain ⟨hi, h⟩ := h
    refine i_A (k := 131) ar_131 hi ?_
    exact h)
  replace h := h (by
    intro x12 x13 x17 x18 x19 M h
    refine c483 _ _ _ _ _ _ ?_
    exact h)
  refine i_P (k := 118) fl_X7 rfl ?_
  replace h := pW_at h
  generalize hM : mup M 118 0 (0 : Int32) = M1 at h ⊢
  clear hM
  refine ⟨i_V (k := 118) fl_X7, p_X7_noShare hA h (fun r3 M2 h => ?_)⟩
  refine ⟨i_V (k := 118) fl_X7, p_X7_throwsIf hA h (fun r6 M5 h => ?_)⟩
  refine ⟨fun hc => ?_, fun hc => ?_⟩
  · replace h := h.1 hc
    exact hq _ _ h
  · replace h := h.2 hc
    refine ⟨i_V (k := 118) fl_X7, p_X7_isLet hA h (fun r9 M8 h => ?_)⟩
    refine ⟨i_V (k := 118) fl_X7, p_X7_throwsIf hA h (fun r12 M11 h => ?_)⟩
    refine ⟨fun hc => ?_, fun hc => ?_⟩
    · replace h := h.1 hc
      refine i_R (k := 118) fl_X7 rfl ?_
      obtain ⟨hi, h⟩ := h
      refine i_S (k := 129) ar_129 hi ?_
      replace h := pW_at h
      generalize hM : mup M11 129 (0 : Int32).toNatClampNeg p3 = M14 at h ⊢
      clear hM
      refine i_R (k := 118) fl_X7 rfl ?_
      obtain ⟨hi, h⟩ := h
      refine i_S (k := 129) ar_129 hi ?_
      replace h := pW_at h
      generalize hM : mup M14 129 (1 : Int32).toNatClampNeg p5 = M15 at h ⊢
      clear hM
      refine i_R (k := 118) fl_X7 rfl ?_
      obtain ⟨hi, h⟩ := h
      refine i_S (k := 129) ar_129 hi ?_
      replace h := pW_at h
      generalize hM : mup M15 129 (2 : Int32).toNatClampNeg p7 = M16 at h ⊢
      clear hM
      refine i_R (k := 118) fl_X7 rfl ?_
      obtain ⟨hi, h⟩ := h
      refine i_S (k := 129) ar_129 hi ?_
      replace h := pW_at h
      generalize hM : mup M16 129 (3 : Int32).toNatClampNeg p9 = M17 at h ⊢
      clear hM
      refine i_R (k := 118) fl_X7 rfl ?_
      obtain ⟨hi, h⟩ := h
      refine i_S (k := 130) ar_130 hi ?_
      replace h := pW_at h
      generalize hM : mup M17 130 (0 : Int32).toNatClampNeg p4 = M18 at h ⊢
      clear hM
      refine i_R (k := 118) fl_X7 rfl ?_
      obtain ⟨hi, h⟩ := h
      refine i_S (k := 130) ar_130 hi ?_
      replace h := pW_at h
      generalize hM : mup M18 130 (1 : Int32).toNatClampNeg p6 = M19 at h ⊢
      clear hM
      refine i_R (k := 118) fl_X7 rfl ?_
      obtain ⟨hi, h⟩ := h
      refine i_S (k := 130) ar_130 hi ?_
      replace h := pW_at h
      generalize hM : mup M19 130 (2 : Int32).toNatClampNeg p8 = M20 at h ⊢
      clear hM
      refine i_R (k := 118) fl_X7 rfl ?_
      obtain ⟨hi, h⟩ := h
      refine i_S (k := 130) ar_130 hi ?_
      replace h := pW_at h
      generalize hM : mup M20 130 (3 : Int32).toNatClampNeg p10 = M21 at h ⊢
      clear hM
      refine p_X7_in hA h (fun r23 M22 h => ?_)
      exact h
    · replace h := h.2 hc
      exact hq _ _ h
