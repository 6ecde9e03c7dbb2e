def P_X7_let (p1 : Int32) (p2 : Int32) (p3 : Int32) (p4 : Int32) (M : Mem) (Q : Mem → Prop) : Prop := ∀ (J80 : Int32 → Mem → Prop), ∀ (J85 : Int32 → Int32 → Mem → Prop), (∀ (x5 : Int32) (M : Mem), J85 x5 (1 : Int32) M → J80 x5 M) → (∀ (x5 : Int32) (t0 : Int32) (M : Mem), (P_X7_throwsIf t0 (3 : Int32) M (fun r18 M17 => ((r18 = 0 → (vp_in (x5 + (4 : Int32)) 420 ∧ pW 128 (x5 + (4 : Int32)).toNatClampNeg p2 M17 (fun M20 => (vp_in (x5 + (5 : Int32)) 420 ∧ pW 128 (x5 + (5 : Int32)).toNatClampNeg p3 M20 (fun M21 => (vp_in (x5 + (6 : Int32)) 420 ∧ pW 128 (x5 + (6 : Int32)).toNatClampNeg p4 M21 (fun M22 => Q M22))))))) ∧ (¬ r18 = 0 → Q M17)))) → J85 x5 t0 M) → pW 118 0 (0 : Int32) M (fun M1 => (P_X7_noShare p1 M1 (fun r3 M2 => (P_X7_throwsIf r3 (1 : Int32) M2 (fun r6 M5 => ((¬ r6 = 0 → Q M5) ∧ (r6 = 0 → (P_X7_isLet p1 M5 (fun r9 M8 => (P_X7_throwsIf r9 (2 : Int32) M8 (fun r12 M11 => ((r12 = 0 → (P_X7_noOwner p2 M11 (fun r15 M14 => ((¬ r15 = 0 → J80 ((7 : Int32) * p1) M14) ∧ (r15 = 0 → (vp_in (((7 : Int32) * p1) + (3 : Int32)) 420 ∧ ((p2 = (M14 128 (((7 : Int32) * p1) + (3 : Int32)).toNatClampNeg) → J80 ((7 : Int32) * p1) M14) ∧ (¬ p2 = (M14 128 (((7 : Int32) * p1) + (3 : Int32)).toNatClampNeg) → ((p3 < (M14 118 4) → J80 ((7 : Int32) * p1) M14) ∧ (¬ p3 < (M14 118 4) → ((p4 ≤ p3 → J80 ((7 : Int32) * p1) M14) ∧ (¬ p4 ≤ p3 → ((p4 ≤ (100000000 : Int32) → J85 ((7 : Int32) * p1) (0 : Int32) M14) ∧ (¬ p4 ≤ (100000000 : Int32) → J80 ((7 : Int32) * p1) M14)))))))))))))) ∧ (¬ r12 = 0 → Q M11)))))))))))))
set_option maxRecDepth 20000 in
set_option maxHeartbeats 4000000 in
theorem p_X7_let {G : Gx} {ad : Nat → Nat} {lf : Nat → Int64} (hA : Inj ad) {p1 : Int32} {p2 : Int32} {p3 : Int32} {p4 : Int32} {M : Mem} {Q : Mem → Prop} {QF : va_W → Prop}  (h : P_X7_let p1 p2 p3 p4 M Q) (hq : ∀ M, Q M → QF (wM ad (gc G) lf M)) : F_X7_let G (ad 118) p1 p2 p3 p4 (wM ad (gc G) lf M) QF := by
  intro J80 J85 c80 c85
  replace h := h (fun x5 M => J80 x5 (ad 118) (wM ad (gc G) lf M)) (fun x5 t0 M => J85 x5 t0 (ad 118) (wM ad (gc G) lf M))
  replace h := h (by
    intro x5 M h
    refine c80 _ _ _ ?_
    exact h)
  replace h := h (by
    intro x5 t0 M h
    refine c85 _ _ _ _ ?_
    refine ⟨i_V (k := 118) fl_X7, p_X7_throwsIf hA h (fun r18 M17 h => ?_)⟩
    refine ⟨fun hc => ?_, fun hc => ?_⟩
    · replace h := h.1 hc
      refine i_R (k := 118) fl_X7 rfl ?_
      obtain ⟨hi, h⟩ := h
      refine i_S (k := 128) ar_128 hi ?_
      replace h := pW_at h
      generalize hM : mup M17 128 (x5 + (4 : Int32)).toNatClampNeg p2 = M20 at h ⊢
      clear hM
      refine i_R (k := 118) fl_X7 rfl ?_
      obtain ⟨hi, h⟩ := h
      refine i_S (k := 128) ar_128 hi ?_
      replace h := pW_at h
      generalize hM : mup M20 128 (x5 + (5 : Int32)).toNatClampNeg p3 = M21 at h ⊢
      clear hM
      refine i_R (k := 118) fl_X7 rfl ?_
      obtain ⟨hi, h⟩ := h
      refine i_S (k := 128) ar_128 hi ?_
      replace h := pW_at h
      generalize hM : mup M21 128 (x5 + (6 : Int32)).toNatClampNeg p4 = M22 at h ⊢
      clear hM
      exact hq _ h
    · replace h := h.2 hc
      exact hq _ h)
  refine i_P (k := 118) fl_X7 rfl ?_
  replace h := pW_at h
  generalize hM : mup M 118 0 (0 : Int32) = M1 at h ⊢
  clear hM
  refine ⟨i_V (k := 118) fl_X7, p_X7_noShare hA h (fun r3 M2 h => ?_)⟩
  refine ⟨i_V (k := 118) fl_X7, p_X7_throwsIf hA h (fun r6 M5 h => ?_)⟩
  refine ⟨fun hc => ?_, fun hc => ?_⟩
  · replace h := h.1 hc
    exact hq _ h
  · replace h := h.2 hc
    refine ⟨i_V (k := 118) fl_X7, p_X7_isLet hA h (fun r9 M8 h => ?_)⟩
    refine ⟨i_V (k := 118) fl_X7, p_X7_throwsIf hA h (fun r12 M11 h => ?_)⟩
    refine ⟨fun hc => ?_, fun hc => ?_⟩
    · replace h := h.1 hc
      refine p_X7_noOwner hA h (fun r15 M14 h => ?_)
      refine ⟨fun hc => ?_, fun hc => ?_⟩
      · replace h := h.1 hc
        exact h
      · replace h := h.2 hc
        refine i_R (k := 118) fl_X7 rfl ?_
        obtain ⟨hi, h⟩ := h
        refine i_A (k := 128) ar_128 hi ?_
        refine ⟨fun hc => ?_, fun hc => ?_⟩
        · replace h := h.1 hc
          exact h
        · replace h := h.2 hc
          refine i_I (k := 118) fl_X7 rfl ?_
          refine ⟨fun hc => ?_, fun hc => ?_⟩
          · replace h := h.1 hc
            exact h
          · replace h := h.2 hc
            refine ⟨fun hc => ?_, fun hc => ?_⟩
            · replace h := h.1 hc
              exact h
            · replace h := h.2 hc
              refine ⟨fun hc => ?_, fun hc => ?_⟩
              · replace h := h.1 hc
                exact h
              · replace h := h.2 hc
                exact h
    · replace h := h.2 hc
      exact hq _ h
def P_X7_minutes (p1 : Int32) (M : Mem) (Q : Int32 → Mem → Prop) : Prop := ∀ (J21 : Int32 → Mem → Prop), (∀ (t0 : Int32) (M : Mem), (P_X7_throwsIf t0 (1 : Int32) M (fun r6 M5 => ((r6 = 0 → pW 118 4 ((M5 118 4) + p1) M5 (fun M8 => Q (M8 118 4) M8)) ∧ (¬ r6 = 0 → Q (0 : Int32) M5)))) → J21 t0 M) → pW 118 0 (0 : Int32) M (fun M1 => (P_X7_in p1 (0 : Int32) (100000 : Int32) M1 (fun r3 M2 => ((¬ r3 = 0 → J21 (0 : Int32) M2) ∧ (r3 = 0 → J21 (1 : Int32) M2)))))
set_option maxRecDepth 20000 in
set_option maxHeartbeats 4000000 in
theorem p_X7_minutes {G : Gx} {ad : Nat → Nat} {lf : Nat → Int64} (hA : Inj ad) {p1 : Int32} {M : Mem} {Q : Int32 → Mem → Prop} {QF : Int32 → va_W → Prop}  (h : P_X7_minutes p1 M Q) (hq : ∀ r M, Q r M → QF r (wM ad (gc G) lf M)) : F_X7_minutes G (ad 118) p1 (wM ad (gc G) lf M) QF := by
  intro J21 c21
  replace h := h (fun t0 M => J21 t0 (ad 118) (wM ad (gc G) lf M))
  replace h := h (by
    intro t0 M h
    refine c21 _ _ _ ?_
    refine ⟨i_V (k := 118) fl_X7, p_X7_throwsIf hA h (fun r6 M5 h => ?_)⟩
    refine ⟨fun hc => ?_, fun hc => ?_⟩
    · replace h := h.1 hc
      refine i_I (k := 118) fl_X7 rfl ?_
      refine i_P (k := 118) fl_X7 rfl ?_
      replace h := pW_at h
      generalize hM : mup M5 118 4 ((M5 118 4) + p1) = M8 at h ⊢
      clear hM
      refine i_I (k := 118) fl_X7 rfl ?_
      exact hq _ _ h
    · replace h := h.2 hc
      exact hq _ _ h)
  refine i_P (k := 118) fl_X7 rfl ?_
  replace h := pW_at h
  generalize hM : mup M 118 0 (0 : Int32) = M1 at h ⊢
  clear hM
  refine p_X7_in hA h (fun r3 M2 h => ?_)
  refine ⟨fun hc => ?_, fun hc => ?_⟩
  · replace h := h.1 hc
    exact h
  · replace h := h.2 hc
    exact h
def P_X7_holder (p1 : Int32) (p2 : Int32) (M : Mem) (Q : Int32 → Mem → Prop) : Prop := ∀ (J28 : Int32 → Mem → Prop), ∀ (J60 : Int32 → Int32 → Mem → Prop), ∀ (J165 : Int32 → Int32 → Mem → Prop), ∀ (J155 : Int32 → Mem → Prop), (∀ (t0 : Int32) (M : Mem), (P_X7_throwsIf t0 (2 : Int32) M (fun r9 M8 => ((r9 = 0 → (vp_in p1 8 ∧ ((¬ (M8 120 p1.toNatClampNeg) = 0 → (vp_in p1 8 ∧ (¬ (M8 123 p1.toNatClampNeg) = 0 ∧ (J60 (p2 - p2 / (M8 123 p1.toNatClampNeg) * (M8 123 p1.toNatClampNeg)) (0 : Int32) M8)))) ∧ ((M8 120 p1.toNatClampNeg) = 0 → Q (-1 : Int32) M8)))) ∧ (¬ r9 = 0 → Q (0 : Int32) M8)))) → J28 t0 M) → (∀ (x3 : Int32) (x4 : Int32) (M : Mem), (((M 118 17) ≤ x4 → Q (-1 : Int32) M) ∧ (¬ (M 118 17) ≤ x4 → (vp_in ((7 : Int32) * x4) 420 ∧ ((¬ (M 128 ((7 : Int32) * x4).toNatClampNeg) = p1 → J165 x3 x4 M) ∧ ((M 128 ((7 : Int32) * x4).toNatClampNeg) = p1 → (vp_in (((7 : Int32) * x4) + (1 : Int32)) 420 ∧ ((x3 < (M 128 (((7 : Int32) * x4) + (1 : Int32)).toNatClampNeg) → J165 x3 x4 M) ∧ (¬ x3 < (M 128 (((7 : Int32) * x4) + (1 : Int32)).toNatClampNeg) → (vp_in (((7 : Int32) * x4) + (2 : Int32)) 420 ∧ ((x3 < (M 128 (((7 : Int32) * x4) + (2 : Int32)).toNatClampNeg) → (vp_in (((7 : Int32) * x4) + (5 : Int32)) 420 ∧ ((p2 < (M 128 (((7 : Int32) * x4) + (5 : Int32)).toNatClampNeg) → J155 ((7 : Int32) * x4) M) ∧ (¬ p2 < (M 128 (((7 : Int32) * x4) + (5 : Int32)).toNatClampNeg) → (vp_in (((7 : Int32) * x4) + (6 : Int32)) 420 ∧ (((M 128 (((7 : Int32) * x4) + (6 : Int32)).toNatClampNeg) ≤ p2 → J155 ((7 : Int32) * x4) M) ∧ (¬ (M 128 (((7 : Int32) * x4) + (6 : Int32)).toNatClampNeg) ≤ p2 → (vp_in (((7 : Int32) * x4) + (4 : Int32)) 420 ∧ Q (M 128 (((7 : Int32) * x4) + (4 : Int32)).toNatClampNeg) M)))))))) ∧ (¬ x3 < (M 128 (((7 : Int32) * x4) + (2 : Int32)).toNatClampNeg) → J165 x3 x4 M))))))))))) → J60 x3 x4 M) → (∀ (x3 : Int32) (x4 : Int32) (M : Mem), J60 x3 (x4 + (1 : Int32)) M → J165 x3 x4 M) → (∀ (x5 : Int32) (M : Mem), (vp_in (x5 + (3 : Int32)) 420 ∧ Q (M 128 (x5 + (3 : Int32)).toNatClampNeg) M) → J155 x5 M) → pW 118 0 (0 : Int32) M (fun M1 => (P_X7_noChannel p1 M1 (fun r3 M2 => (P_X7_throwsIf r3 (1 : Int32) M2 (fun r6 M5 => ((¬ r6 = 0 → Q (0 : Int32) M5) ∧ (r6 = 0 → ((0 ≤ p2 → J28 (0 : Int32) M5) ∧ (¬ 0 ≤ p2 → J28 (1 : Int32) M5)))))))))
set_option maxRecDepth 20000 in
set_option maxHeartbeats 4000000 in
theorem p_X7_holder {G : Gx} {ad : Nat → Nat} {lf : Nat → Int64} (hA : Inj ad) {p1 : Int32} {p2 : Int32} {M : Mem} {Q : Int32 → Mem → Prop} {QF : Int32 → va_W → Prop}  (h : P_X7_holder p1 p2 M Q) (hq : ∀ r M, Q r M → QF r (wM ad (gc G) lf M)) : F_X7_holder G (ad 118) p1 p2 (wM ad (gc G) lf M) QF := by
  intro J28 J60 J165 J155 c28 c60 c165 c155
  replace h := h (fun t0 M => J28 t0 (ad 118) (wM ad (gc G) lf M)) (fun x3 x4 M => J60 x3 x4 (wM ad (gc G) lf M)) (fun x3 x4 M => J165 x3 x4 (wM ad (gc G) lf M)) (fun x5 M => J155 x5 (wM ad (gc G) lf M))
  replace h := h (by
    intro t0 M h
    refine c28 _ _ _ ?_
    refine ⟨i_V (k := 118) fl_X7, p_X7_throwsIf hA h (fun r9 M8 h => ?_)⟩
    refine ⟨fun hc => ?_, fun hc => ?_⟩
    · replace h := h.1 hc
      refine i_R (k := 118) fl_X7 rfl ?_
      obtain ⟨hi, h⟩ := h
      refine i_A (k := 120) ar_120 hi ?_
      refine ⟨fun hc => ?_, fun hc => ?_⟩
      · replace h := h.1 hc
        refine i_R (k := 118) fl_X7 rfl ?_
        obtain ⟨hi, h⟩ := h
        refine i_A (k := 123) ar_123 hi ?_
        obtain ⟨hz, h⟩ := h
        refine ⟨hz, ?_⟩
        exact h
      · replace h := h.2 hc
        exact hq _ _ h
    · replace h := h.2 hc
      exact hq _ _ h)
  replace h := h (by
    intro x3 x4 M h
    refine c60 _ _ _ ?_
    refine i_I (k := 118) fl_X7 rfl ?_
    refine ⟨fun hc => ?_, fun hc => ?_⟩
    · replace h := h.1 hc
      exact hq _ _ h
    · replace h := h.2 hc
      refine i_R (k := 118) fl_X7 rfl ?_
      obtain ⟨hi, h⟩ := h
      refine i_A (k := 128) ar_128 hi ?_
      refine ⟨fun hc => ?_, fun hc => ?_⟩
      · replace h := h.1 hc
        exact h
      · replace h := h.2 hc
        refine i_R (k := 118) fl_X7 rfl ?_
        obtain ⟨hi, h⟩ := h
        refine i_A (k := 128) ar_128 hi ?_
        refine ⟨fun hc => ?_, fun hc => ?_⟩
        · replace h := h.1 hc
          exact h
        · replace h := h.2 hc
          refine i_R (k := 118) fl_X7 rfl ?_
          obtain ⟨hi, h⟩ := h
          refine i_A (k := 128) ar_128 hi ?_
          refine ⟨fun hc => ?_, fun hc => ?_⟩
          · replace h := h.1 hc
            refine i_R (k := 118) fl_X7 rfl ?_
            obtain ⟨hi, h⟩ := h
            refine i_A (k := 128) ar_128 hi ?_
            refine ⟨fun hc => ?_, fun hc => ?_⟩
            · replace h := h.1 hc
              exact h
            · replace h := h.2 hc
              refine i_R (k := 118) fl_X7 rfl ?_
              obtain ⟨hi, h⟩ := h
              refine i_A (k := 128) ar_128 hi ?_
              refine ⟨fun hc => ?_, fun hc => ?_⟩
              · replace h := h.1 hc
                exact h
              · replace h := h.2 hc
                refine i_R (k := 118) fl_X7 rfl ?_
                obtain ⟨hi, h⟩ := h
                refine i_A (k := 128) ar_128 hi ?_
                exact hq _ _ h
          · replace h := h.2 hc
            exact h)
  replace h := h (by
    intro x3 x4 M h
    refine c165 _ _ _ ?_
    exact h)
  replace h := h (by
    intro x5 M h
    refine c155 _ _ ?_
    refine i_R (k := 118) fl_X7 rfl ?_
    obtain ⟨hi, h⟩ := h
    refine i_A (k := 128) ar_128 hi ?_
    exact hq _ _ h)
  refine i_P (k := 118) fl_X7 rfl ?_
  replace h := pW_at h
  generalize hM : mup M 118 0 (0 : Int32) = M1 at h ⊢
  clear hM
  refine ⟨i_V (k := 118) fl_X7, p_X7_noChannel hA h (fun r3 M2 h => ?_)⟩
  refine ⟨i_V (k := 118) fl_X7, p_X7_throwsIf hA h (fun r6 M5 h => ?_)⟩
  refine ⟨fun hc => ?_, fun hc => ?_⟩
  · replace h := h.1 hc
    exact hq _ _ h
  · replace h := h.2 hc
    refine ⟨fun hc => ?_, fun hc => ?_⟩
    · replace h := h.1 hc
      exact h
    · replace h := h.2 hc
      exact h
def P_X7_share (p1 : Int32) (p2 : Int32) (M : Mem) (Q : Int32 → Mem → Prop) : Prop := pW 118 0 (0 : Int32) M (fun M1 => (P_X7_noShare p1 M1 (fun r3 M2 => (P_X7_throwsIf r3 (1 : Int32) M2 (fun r6 M5 => ((r6 = 0 → ((p2 = (0 : Int32) → (vp_in (((7 : Int32) * p1) + p2) 420 ∧ Q (M5 128 (((7 : Int32) * p1) + p2).toNatClampNeg) M5)) ∧ (p2 = (1 : Int32) → (vp_in (((7 : Int32) * p1) + p2) 420 ∧ Q (M5 128 (((7 : Int32) * p1) + p2).toNatClampNeg) M5)) ∧ (p2 = (2 : Int32) → (vp_in (((7 : Int32) * p1) + p2) 420 ∧ Q (M5 128 (((7 : Int32) * p1) + p2).toNatClampNeg) M5)) ∧ (p2 = (3 : Int32) → (vp_in (((7 : Int32) * p1) + p2) 420 ∧ Q (M5 128 (((7 : Int32) * p1) + p2).toNatClampNeg) M5)) ∧ (p2 = (4 : Int32) → (P_X7_isLet p1 M5 (fun r9 M8 => ((r9 = 0 → Q (0 : Int32) M8) ∧ (¬ r9 = 0 → Q (1 : Int32) M8))))) ∧ ((p2.toInt < 0 ∨ (4 : Int) < p2.toInt) → pW 118 0 (2 : Int32) M5 (fun M11 => Q (0 : Int32) M11)))) ∧ (¬ r6 = 0 → Q (0 : Int32) M5)))))))
set_option maxRecDepth 20000 in
set_option maxHeartbeats 4000000 in
theorem p_X7_share {G : Gx} {ad : Nat → Nat} {lf : Nat → Int64} (hA : Inj ad) {p1 : Int32} {p2 : Int32} {M : Mem} {Q : Int32 → Mem → Prop} {QF : Int32 → va_W → Prop}  (h : P_X7_share p1 p2 M Q) (hq : ∀ r M, Q r M → QF r (wM ad (gc G) lf M)) : F_X7_share G (ad 118) p1 p2 (wM ad (gc G) lf M) QF := by
  unfold P_X7_share at h
  unfold F_X7_share
  refine i_P (k := 118) fl_X7 rfl ?_
  replace h := pW_at h
  generalize hM : mup M 118 0 (0 : Int32) = M1 at h ⊢
  clear hM
  refine ⟨i_V (k := 118) fl_X7, p_X7_noShare hA h (fun r3 M2 h => ?_)⟩
  refine ⟨i_V (k := 118) fl_X7, p_X7_throwsIf hA h (fun r6 M5 h => ?_)⟩
  refine ⟨fun hc => ?_, fun hc => ?_⟩
  · replace h := h.1 hc
    refine ⟨fun hc => ?_, fun hc => ?_, fun hc => ?_, fun hc => ?_, fun hc => ?_, fun hc => ?_⟩
    · replace h := h.1 hc
      refine i_R (k := 118) fl_X7 rfl ?_
      obtain ⟨hi, h⟩ := h
      refine i_A (k := 128) ar_128 hi ?_
      exact hq _ _ h
    · replace h := h.2.1 hc
      refine i_R (k := 118) fl_X7 rfl ?_
      obtain ⟨hi, h⟩ := h
      refine i_A (k := 128) ar_128 hi ?_
      exact hq _ _ h
    · replace h := h.2.2.1 hc
      refine i_R (k := 118) fl_X7 rfl ?_
      obtain ⟨hi, h⟩ := h
      refine i_A (k := 128) ar_128 hi ?_
      exact hq _ _ h
    · replace h := h.2.2.2.1 hc
      refine i_R (k := 118) fl_X7 rfl ?_
      obtain ⟨hi, h⟩ := h
      refine i_A (k := 128) ar_128 hi ?_
      exact hq _ _ h
    · replace h := h.2.2.2.2.1 hc
      refine ⟨i_V (k := 118) fl_X7, p_X7_isLet hA h (fun r9 M8 h => ?_)⟩
      refine ⟨fun hc => ?_, fun hc => ?_⟩
      · replace h := h.1 hc
        exact hq _ _ h
      · replace h := h.2 hc
        exact hq _ _ h
    · replace h := h.2.2.2.2.2 hc
      refine i_P (k := 118) fl_X7 rfl ?_
      replace h := pW_at h
      generalize hM : mup M5 118 0 (2 : Int32) = M11 at h ⊢
      clear hM
      exact hq _ _ h
  · replace h := h.2 hc
    exact hq _ _ h
def P_X7_feed (p1 : Int32) (p2 : Int32) (p3 : Int32) (p4 : Int32) (p5 : Int32) (M : Mem) (Q : Int32 → Mem → Prop) : Prop := ∀ (J60 : Int32 → Mem → Prop), (∀ (x6 : Int32) (M : Mem), (((20 : Int32) ≤ x6 → pW 118 24 ((M 118 24) + (20 : Int32)) M (fun M7 => Q (M7 118 24) M7)) ∧ (¬ (20 : Int32) ≤ x6 → (vp_in (x6 / (4 : Int32)) 5 ∧ (vp_in ((M 118 24) + x6) 400 ∧ pW 134 ((M 118 24) + x6).toNatClampNeg (vp_nar .byte ((M 135 (x6 / (4 : Int32)).toNatClampNeg) >>> (((24 : Int32) - ((8 : Int32) * (x6 - x6 / (4 : Int32) * (4 : Int32)))) &&& 31)).toInt8.toInt32) M (fun M8 => J60 (x6 + (1 : Int32)) M8))))) → J60 x6 M) → pW 118 0 (0 : Int32) M (fun M1 => ((((M1 118 24) + (20 : Int32)) ≤ (400 : Int32) → (vp_in (0 : Int32) 5 ∧ pW 135 (0 : Int32).toNatClampNeg p1 M1 (fun M2 => (vp_in (1 : Int32) 5 ∧ pW 135 (1 : Int32).toNatClampNeg p2 M2 (fun M3 => (vp_in (2 : Int32) 5 ∧ pW 135 (2 : Int32).toNatClampNeg p3 M3 (fun M4 => (vp_in (3 : Int32) 5 ∧ pW 135 (3 : Int32).toNatClampNeg p4 M4 (fun M5 => (vp_in (4 : Int32) 5 ∧ pW 135 (4 : Int32).toNatClampNeg p5 M5 (fun M6 => J60 (0 : Int32) M6))))))))))) ∧ (¬ ((M1 118 24) + (20 : Int32)) ≤ (400 : Int32) → Q (-1 : Int32) M1)))
set_option maxRecDepth 20000 in
set_option maxHeartbeats 4000000 in
theorem p_X7_feed {G : Gx} {ad : Nat → Nat} {lf : Nat → Int64} (hA : Inj ad) {p1 : Int32} {p2 : Int32} {p3 : Int32} {p4 : Int32} {p5 : Int32} {M : Mem} {Q : Int32 → Mem → Prop} {QF : Int32 → va_W → Prop}  (h : P_X7_feed p1 p2 p3 p4 p5 M Q) (hq : ∀ r M, Q r M → QF r (wM ad (gc G) lf M)) : F_X7_feed G (ad 118) p1 p2 p3 p4 p5 (wM ad (gc G) lf M) QF := by
  intro J60 c60
  replace h := h (fun x6 M => J60 x6 (wM ad (gc G) lf M))
  replace h := h (by
    intro x6 M h
    refine c60 _ _ ?_
    refine ⟨fun hc => ?_, fun hc => ?_⟩
    · replace h := h.1 hc
      refine i_I (k := 118) fl_X7 rfl ?_
      refine i_P (k := 118) fl_X7 rfl ?_
      replace h := pW_at h
      generalize hM : mup M 118 24 ((M 118 24) + (20 : Int32)) = M7 at h ⊢
      clear hM
      refine i_I (k := 118) fl_X7 rfl ?_
      exact hq _ _ h
    · replace h := h.2 hc
      refine i_R (k := 118) fl_X7 rfl ?_
      refine i_I (k := 118) fl_X7 rfl ?_
      refine i_R (k := 118) fl_X7 rfl ?_
      obtain ⟨hi, h⟩ := h
      refine i_A (k := 135) ar_135 hi ?_
      obtain ⟨hi, h⟩ := h
      refine i_S (k := 134) ar_134 hi ?_
      replace h := pW_at h
      generalize hM : mup M 134 ((M 118 24) + x6).toNatClampNeg (vp_nar .byte ((M 135 (x6 / (4 : Int32)).toNatClampNeg) >>> (((24 : Int32) - ((8 : Int32) * (x6 - x6 / (4 : Int32) * (4 : Int32)))) &&& 31)).toInt8.toInt32) = M8 at h ⊢
      clear hM
      exact h)
  refine i_P (k := 118) fl_X7 rfl ?_
  replace h := pW_at h
  generalize hM : mup M 118 0 (0 : Int32) = M1 at h ⊢
  clear hM
  refine i_I (k := 118) fl_X7 rfl ?_
  refine ⟨fun hc => ?_, fun hc => ?_⟩
  · replace h := h.1 hc
    refine i_R (k := 118) fl_X7 rfl ?_
    obtain ⟨hi, h⟩ := h
    refine i_S (k := 135) ar_135 hi ?_
    replace h := pW_at h
    generalize hM : mup M1 135 (0 : Int32).toNatClampNeg p1 = M2 at h ⊢
    clear hM
    refine i_R (k := 118) fl_X7 rfl ?_
    obtain ⟨hi, h⟩ := h
    refine i_S (k := 135) ar_135 hi ?_
    replace h := pW_at h
    generalize hM : mup M2 135 (1 : Int32).toNatClampNeg p2 = M3 at h ⊢
    clear hM
    refine i_R (k := 118) fl_X7 rfl ?_
    obtain ⟨hi, h⟩ := h
    refine i_S (k := 135) ar_135 hi ?_
    replace h := pW_at h
    generalize hM : mup M3 135 (2 : Int32).toNatClampNeg p3 = M4 at h ⊢
    clear hM
    refine i_R (k := 118) fl_X7 rfl ?_
    obtain ⟨hi, h⟩ := h
    refine i_S (k := 135) ar_135 hi ?_
    replace h := pW_at h
    generalize hM : mup M4 135 (3 : Int32).toNatClampNeg p4 = M5 at h ⊢
    clear hM
    refine i_R (k := 118) fl_X7 rfl ?_
    obtain ⟨hi, h⟩ := h
    refine i_S (k := 135) ar_135 hi ?_
    replace h := pW_at h
    generalize hM : mup M5 135 (4 : Int32).toNatClampNeg p5 = M6 at h ⊢
    clear hM
    exact h
  · replace h := h.2 hc
    exact hq _ _ h
def P_X7_end (p1 : Int32) (M : Mem) (Q : Int32 → Mem → Prop) : Prop := pW 118 0 (0 : Int32) M (fun M1 => ((p1 < 0 → Q (0 : Int32) M1) ∧ (¬ p1 < 0 → ((p1 ≤ (M1 118 24) → pW 118 24 p1 M1 (fun M2 => Q (1 : Int32) M2)) ∧ (¬ p1 ≤ (M1 118 24) → Q (0 : Int32) M1)))))
set_option maxRecDepth 20000 in
set_option maxHeartbeats 4000000 in
theorem p_X7_end {G : Gx} {ad : Nat → Nat} {lf : Nat → Int64} (hA : Inj ad) {p1 : Int32} {M : Mem} {Q : Int32 → Mem → Prop} {QF : Int32 → va_W → Prop}  (h : P_X7_end p1 M Q) (hq : ∀ r M, Q r M → QF r (wM ad (gc G) lf M)) : F_X7_end G (ad 118) p1 (wM ad (gc G) lf M) QF := by
  unfold P_X7_end at h
  unfold F_X7_end
  refine i_P (k := 118) fl_X7 rfl ?_
  replace h := pW_at h
  generalize hM : mup M 118 0 (0 : Int32) = M1 at h ⊢
  clear hM
  refine ⟨fun hc => ?_, fun hc => ?_⟩
  · replace h := h.1 hc
    exact hq _ _ h
  · replace h := h.2 hc
    refine i_I (k := 118) fl_X7 rfl ?_
    refine ⟨fun hc => ?_, fun hc => ?_⟩
    · replace h := h.1 hc
      refine i_P (k := 118) fl_X7 rfl ?_
      replace h := pW_at h
      generalize hM : mup M1 118 24 p1 = M2 at h ⊢
      clear hM
      exact hq _ _ h
    · replace h := h.2 hc
      exact hq _ _ h
def P_X7_isAt (p1 : Int32) (p2 : Int32) (M : Mem) (Q : Int32 → Mem → Prop) : Prop := (((M 118 26) ≤ (M 118 25) → Q (0 : Int32) M) ∧ (¬ (M 118 26) ≤ (M 118 25) → (vp_in (M 118 25) 400 ∧ (((M 134 (M 118 25).toNatClampNeg) < p1 → Q (0 : Int32) M) ∧ (¬ (M 134 (M 118 25).toNatClampNeg) < p1 → (vp_in (M 118 25) 400 ∧ ((p2 < (M 134 (M 118 25).toNatClampNeg) → Q (0 : Int32) M) ∧ (¬ p2 < (M 134 (M 118 25).toNatClampNeg) → Q (1 : Int32) M))))))))
set_option maxRecDepth 20000 in
set_option maxHeartbeats 4000000 in
theorem p_X7_isAt {G : Gx} {ad : Nat → Nat} {lf : Nat → Int64} (hA : Inj ad) {p1 : Int32} {p2 : Int32} {M : Mem} {Q : Int32 → Mem → Prop} {QF : Int32 → va_W → Prop}  (h : P_X7_isAt p1 p2 M Q) (hq : ∀ r M, Q r M → QF r (wM ad (gc G) lf M)) : F_X7_isAt G (ad 118) p1 p2 (wM ad (gc G) lf M) QF := by
  unfold P_X7_isAt at h
  unfold F_X7_isAt
  refine i_I (k := 118) fl_X7 rfl ?_
  refine i_I (k := 118) fl_X7 rfl ?_
  refine ⟨fun hc => ?_, fun hc => ?_⟩
  · replace h := h.1 hc
    exact hq _ _ h
  · replace h := h.2 hc
    refine i_R (k := 118) fl_X7 rfl ?_
    refine i_I (k := 118) fl_X7 rfl ?_
    obtain ⟨hi, h⟩ := h
    refine i_A (k := 134) ar_134 hi ?_
    refine ⟨fun hc => ?_, fun hc => ?_⟩
    · replace h := h.1 hc
      exact hq _ _ h
    · replace h := h.2 hc
      refine i_R (k := 118) fl_X7 rfl ?_
      refine i_I (k := 118) fl_X7 rfl ?_
      obtain ⟨hi, h⟩ := h
      refine i_A (k := 134) ar_134 hi ?_
      refine ⟨fun hc => ?_, fun hc => ?_⟩
      · replace h := h.1 hc
        exact hq _ _ h
      · replace h := h.2 hc
        exact hq _ _ h
def P_X7_blanks  (M : Mem) (Q : Mem → Prop) : Prop := ∀ (J0 : Mem → Prop), (∀ (M : Mem), (P_X7_isAt (32 : Int32) (32 : Int32) M (fun r7 M6 => ((r7 = 0 → pW 118 27 (M6 118 25) M6 (fun M9 => Q M9)) ∧ (¬ r7 = 0 → pW 118 25 ((M6 118 25) + (1 : Int32)) M6 (fun M10 => J0 M10))))) → J0 M) → (P_X7_isAt (32 : Int32) (32 : Int32) M (fun r2 M1 => ((r2 = 0 → pW 118 27 (M1 118 25) M1 (fun M4 => Q M4)) ∧ (¬ r2 = 0 → pW 118 25 ((M1 118 25) + (1 : Int32)) M1 (fun M5 => J0 M5)))))
set_option maxRecDepth 20000 in
set_option maxHeartbeats 4000000 in
theorem p_X7_blanks {G : Gx} {ad : Nat → Nat} {lf : Nat → Int64} (hA : Inj ad)  {M : Mem} {Q : Mem → Prop} {QF : va_W → Prop}  (h : P_X7_blanks  M Q) (hq : ∀ M, Q M → QF (wM ad (gc G) lf M)) : F_X7_blanks G (ad 118) (wM ad (gc G) lf M) QF := by
  intro J0 c0
  replace h := h (fun M => J0 (wM ad (gc G) lf M))
  replace h := h (by
    intro M h
    refine c0  _ ?_
    refine ⟨i_V (k := 118) fl_X7, p_X7_isAt hA h (fun r7 M6 h => ?_)⟩
    refine ⟨fun hc => ?_, fun hc => ?_⟩
    · replace h := h.1 hc
      refine i_I (k := 118) fl_X7 rfl ?_
      refine i_P (k := 118) fl_X7 rfl ?_
      replace h := pW_at h
      generalize hM : mup M6 118 27 (M6 118 25) = M9 at h ⊢
      clear hM
      exact hq _ h
    · replace h := h.2 hc
      refine i_I (k := 118) fl_X7 rfl ?_
      refine i_P (k := 118) fl_X7 rfl ?_
      replace h := pW_at h
      generalize hM : mup M6 118 25 ((M6 118 25) + (1 : Int32)) = M10 at h ⊢
      clear hM
      exact h)
  refine ⟨i_V (k := 118) fl_X7, p_X7_isAt hA h (fun r2 M1 h => ?_)⟩
  refine ⟨fun hc => ?_, fun hc => ?_⟩
  · replace h := h.1 hc
    refine i_I (k := 118) fl_X7 rfl ?_
    refine i_P (k := 118) fl_X7 rfl ?_
    replace h := pW_at h
    generalize hM : mup M1 118 27 (M1 118 25) = M4 at h ⊢
    clear hM
    exact hq _ h
  · replace h := h.2 hc
    refine i_I (k := 118) fl_X7 rfl ?_
    refine i_P (k := 118) fl_X7 rfl ?_
    replace h := pW_at h
    generalize hM : mup M1 118 25 ((M1 118 25) + (1 : Int32)) = M5 at h ⊢
    clear hM
    exact h
def P_X7_isWord (p1 : Nat) (M : Mem) (Q : Int32 → Mem → Prop) : Prop := ∀ (J21 : Int32 → Mem → Prop), ∀ (J24 : Int32 → Int32 → Mem → Prop), ∀ (J60 : Int32 → Int32 → Mem → Prop), (∀ (t0 : Int32) (M : Mem), J24 t0 (0 : Int32) M → J21 t0 M) → (∀ (x2 : Int32) (x3 : Int32) (M : Mem), ((x2 = 0 → ((x2 = 0 ∨ x2 = 1) ∧ Q x2 M)) ∧ (¬ x2 = 0 → (((nI (wLen.getD p1 0)) ≤ x3 → ((x2 = 0 ∨ x2 = 1) ∧ Q x2 M)) ∧ (¬ (nI (wLen.getD p1 0)) ≤ x3 → (vp_in ((M 118 27) + x3) 400 ∧ (vp_in x3 (wLen.getD p1 0) ∧ ((¬ (M 134 ((M 118 27) + x3).toNatClampNeg) = ((wByt.getD p1 []).getD x3.toNatClampNeg 0) → J60 x3 (0 : Int32) M) ∧ ((M 134 ((M 118 27) + x3).toNatClampNeg) = ((wByt.getD p1 []).getD x3.toNatClampNeg 0) → J60 x3 (1 : Int32) M)))))))) → J24 x2 x3 M) → (∀ (x3 : Int32) (t0 : Int32) (M : Mem), J24 t0 (x3 + (1 : Int32)) M → J60 x3 t0 M) → ((¬ ((M 118 25) - (M 118 27)) = (nI (wLen.getD p1 0)) → J21 (0 : Int32) M) ∧ (((M 118 25) - (M 118 27)) = (nI (wLen.getD p1 0)) → J21 (1 : Int32) M))
set_option maxRecDepth 20000 in
set_option maxHeartbeats 4000000 in
theorem p_X7_isWord {G : Gx} {ad : Nat → Nat} {lf : Nat → Int64} (hA : Inj ad) {p1 : Nat} {M : Mem} {Q : Int32 → Mem → Prop} {QF : Int32 → va_W → Prop} (hp1 : p1 < 6) (h : P_X7_isWord p1 M Q) (hq : ∀ r M, Q r M → QF r (wM ad (gc G) lf M)) : F_X7_isWord G (ad 118) (gk G p1) (wM ad (gc G) lf M) QF := by
  intro J21 J24 J60 c21 c24 c60
  replace h := h (fun t0 M => J21 t0 (wM ad (gc G) lf M)) (fun x2 x3 M => J24 x2 x3 (wM ad (gc G) lf M)) (fun x3 t0 M => J60 x3 t0 (wM ad (gc G) lf M))
  replace h := h (by
    intro t0 M h
    refine c21 _ _ ?_
    exact h)
  replace h := h (by
    intro x2 x3 M h
    refine c24 _ _ _ ?_
    refine ⟨fun hc => ?_, fun hc => ?_⟩
    · replace h := h.1 hc
      exact ⟨h.1, hq _ _ h.2⟩
    · replace h := h.2 hc
      refine i_Ln hp1 ?_
      refine ⟨fun hc => ?_, fun hc => ?_⟩
      · replace h := h.1 hc
        exact ⟨h.1, hq _ _ h.2⟩
      · replace h := h.2 hc
        refine i_R (k := 118) fl_X7 rfl ?_
        refine i_I (k := 118) fl_X7 rfl ?_
        obtain ⟨hi, h⟩ := h
        refine i_A (k := 134) ar_134 hi ?_
        obtain ⟨hi, h⟩ := h
        refine i_Ch hp1 hi ?_
        refine ⟨fun hc => ?_, fun hc => ?_⟩
        · replace h := h.1 hc
          exact h
        · replace h := h.2 hc
          exact h)
  replace h := h (by
    intro x3 t0 M h
    refine c60 _ _ _ ?_
    exact h)
  refine i_I (k := 118) fl_X7 rfl ?_
  refine i_I (k := 118) fl_X7 rfl ?_
  refine i_Ln hp1 ?_
  refine ⟨fun hc => ?_, fun hc => ?_⟩
  · replace h := h.1 hc
    exact h
  · replace h := h.2 hc
    exact h
def P_X7_word  (M : Mem) (Q : Mem → Prop) : Prop := ∀ (J4 : Mem → Prop), (∀ (M : Mem), (P_X7_isAt (97 : Int32) (122 : Int32) M (fun r5 M4 => ((r5 = 0 → Q M4) ∧ (¬ r5 = 0 → pW 118 25 ((M4 118 25) + (1 : Int32)) M4 (fun M7 => J4 M7))))) → J4 M) → (P_X7_blanks M (fun M1 => J4 M1))
set_option maxRecDepth 20000 in
set_option maxHeartbeats 4000000 in
theorem p_X7_word {G : Gx} {ad : Nat → Nat} {lf : Nat → Int64} (hA : Inj ad)  {M : Mem} {Q : Mem → Prop} {QF : va_W → Prop}  (h : P_X7_word  M Q) (hq : ∀ M, Q M → QF (wM ad (gc G) lf M)) : F_X7_word G (ad 118) (wM ad (gc G) lf M) QF := by
  intro J4 c4
  replace h := h (fun M => J4 (wM ad (gc G) lf M))
  replace h := h (by
    intro M h
    refine c4  _ ?_
    refine ⟨i_V (k := 118) fl_X7, p_X7_isAt hA h (fun r5 M4 h => ?_)⟩
    refine ⟨fun hc => ?_, fun hc => ?_⟩
    · replace h := h.1 hc
      exact hq _ h
    · replace h := h.2 hc
      refine i_I (k := 118) fl_X7 rfl ?_
      refine i_P (k := 118) fl_X7 rfl ?_
      replace h := pW_at h
      generalize hM : mup M4 118 25 ((M4 118 25) + (1 : Int32)) = M7 at h ⊢
      clear hM
      exact h)
  refine ⟨i_V (k := 118) fl_X7, p_X7_blanks hA h (fun M1 h => ?_)⟩
  exact h
def P_X7_number (p1 : Int32) (p2 : Int32) (M : Mem) (Q : Int32 → Mem → Prop) : Prop := ∀ (J6 : Int32 → Mem → Prop), ∀ (J51 : Int32 → Mem → Prop), (∀ (x3 : Int32) (M : Mem), (P_X7_isAt (48 : Int32) (57 : Int32) M (fun r5 M4 => ((r5 = 0 → (vp_in p1 4 ∧ pW 133 p1.toNatClampNeg x3 M4 (fun M7 => (((M7 118 25) ≤ (M7 118 27) → Q (0 : Int32) M7) ∧ (¬ (M7 118 25) ≤ (M7 118 27) → (((5 : Int32) ≤ ((M7 118 25) - (M7 118 27)) → Q (0 : Int32) M7) ∧ (¬ (5 : Int32) ≤ ((M7 118 25) - (M7 118 27)) → ((p2 < x3 → Q (0 : Int32) M7) ∧ (¬ p2 < x3 → Q (1 : Int32) M7))))))))) ∧ (¬ r5 = 0 → (((4 : Int32) ≤ ((M4 118 25) - (M4 118 27)) → J51 x3 M4) ∧ (¬ (4 : Int32) ≤ ((M4 118 25) - (M4 118 27)) → (vp_in (M4 118 25) 400 ∧ J51 ((((10 : Int32) * x3) + (M4 134 (M4 118 25).toNatClampNeg)) - (48 : Int32)) M4))))))) → J6 x3 M) → (∀ (t0 : Int32) (M : Mem), pW 118 25 ((M 118 25) + (1 : Int32)) M (fun M8 => J6 t0 M8) → J51 t0 M) → (P_X7_blanks M (fun M1 => J6 (0 : Int32) M1))
set_option maxRecDepth 20000 in
set_option maxHeartbeats 4000000 in
theorem p_X7_number {G : Gx} {ad : Nat → Nat} {lf : Nat → Int64} (hA : Inj ad) {p1 : Int32} {p2 : Int32} {M : Mem} {Q : Int32 → Mem → Prop} {QF : Int32 → va_W → Prop}  (h : P_X7_number p1 p2 M Q) (hq : ∀ r M, Q r M → QF r (wM ad (gc G) lf M)) : F_X7_number G (ad 118) p1 p2 (wM ad (gc G) lf M) QF := by
  intro J6 J51 c6 c51
  replace h := h (fun x3 M => J6 x3 (wM ad (gc G) lf M)) (fun t0 M => J51 t0 (wM ad (gc G) lf M))
  replace h := h (by
    intro x3 M h
    refine c6 _ _ ?_
    refine ⟨i_V (k := 118) fl_X7, p_X7_isAt hA h (fun r5 M4 h => ?_)⟩
    refine ⟨fun hc => ?_, fun hc => ?_⟩
    · replace h := h.1 hc
      refine i_R (k := 118) fl_X7 rfl ?_
      obtain ⟨hi, h⟩ := h
      refine i_S (k := 133) ar_133 hi ?_
      replace h := pW_at h
      generalize hM : mup M4 133 p1.toNatClampNeg x3 = M7 at h ⊢
      clear hM
      refine i_I (k := 118) fl_X7 rfl ?_
      refine i_I (k := 118) fl_X7 rfl ?_
      refine ⟨fun hc => ?_, fun hc => ?_⟩
      · replace h := h.1 hc
        exact hq _ _ h
      · replace h := h.2 hc
        refine i_I (k := 118) fl_X7 rfl ?_
        refine i_I (k := 118) fl_X7 rfl ?_
        refine ⟨fun hc => ?_, fun hc => ?_⟩
        · replace h := h.1 hc
          exact hq _ _ h
        · replace h := h.2 hc
          refine ⟨fun hc => ?_, fun hc => ?_⟩
          · replace h := h.1 hc
            exact hq _ _ h
          · replace h := h.2 hc
            exact hq _ _ h
    · replace h := h.2 hc
      refine i_I (k := 118) fl_X7 rfl ?_
      refine i_I (k := 118) fl_X7 rfl ?_
      refine ⟨fun hc => ?_, fun hc => ?_⟩
      · replace h := h.1 hc
        exact h
      · replace h := h.2 hc
        refine i_R (k := 118) fl_X7 rfl ?_
        refine i_I (k := 118) fl_X7 rfl ?_
        obtain ⟨hi, h⟩ := h
        refine i_A (k := 134) ar_134 hi ?_
        exact h)
  replace h := h (by
    intro t0 M h
    refine c51 _ _ ?_
    refine i_I (k := 118) fl_X7 rfl ?_
    refine i_P (k := 118) fl_X7 rfl ?_
    replace h := pW_at h
    generalize hM : mup M 118 25 ((M 118 25) + (1 : Int32)) = M8 at h ⊢
    clear hM
    exact h)
  refine ⟨i_V (k := 118) fl_X7, p_X7_blanks hA h (fun M1 h => ?_)⟩
  exact h
def P_X7_readTerm  (M : Mem) (Q : Int32 → Mem → Prop) : Prop := ∀ (J90 : Int32 → Int32 → Mem → Prop), (∀ (t0 : Int32) (t1 : Int32) (M : Mem), (vp_in t1 4 ∧ pW 133 t1.toNatClampNeg t0 M (fun M31 => (vp_in (2 : Int32) 4 ∧ (((M31 133 (2 : Int32).toNatClampNeg) = (1 : Int32) → Q (1 : Int32) M31) ∧ (¬ (M31 133 (2 : Int32).toNatClampNeg) = (1 : Int32) → (P_X7_isWord 5 M31 (fun r33 M32 => ((r33 = 0 → Q (0 : Int32) M32) ∧ (¬ r33 = 0 → Q (1 : Int32) M32))))))))) → J90 t0 t1 M) → (P_X7_word M (fun M1 => (P_X7_isWord 0 M1 (fun r5 M4 => ((r5 = 0 → (P_X7_isWord 1 M4 (fun r8 M7 => ((r8 = 0 → (P_X7_isWord 2 M7 (fun r11 M10 => ((r11 = 0 → (P_X7_isWord 3 M10 (fun r14 M13 => ((¬ r14 = 0 → (P_X7_word M13 (fun M16 => (P_X7_isWord 4 M16 (fun r20 M19 => ((r20 = 0 → J90 (0 : Int32) (2 : Int32) M19) ∧ (¬ r20 = 0 → J90 (1 : Int32) (2 : Int32) M19))))))) ∧ (r14 = 0 → Q (0 : Int32) M13))))) ∧ (¬ r11 = 0 → (P_X7_number (3 : Int32) (100 : Int32) M10 (fun r23 M22 => ((r23 = 0 ∨ r23 = 1) ∧ Q r23 M22)))))))) ∧ (¬ r8 = 0 → (P_X7_number (1 : Int32) (1000 : Int32) M7 (fun r26 M25 => ((r26 = 0 ∨ r26 = 1) ∧ Q r26 M25)))))))) ∧ (¬ r5 = 0 → (P_X7_number (0 : Int32) (100 : Int32) M4 (fun r29 M28 => ((r29 = 0 ∨ r29 = 1) ∧ Q r29 M28)))))))))
set_option maxRecDepth 20000 in
set_option maxHeartbeats 4000000 in
theorem p_X7_readTerm {G : Gx} {ad : Nat → Nat} {lf : Nat → Int64} (hA : Inj ad)  {M : Mem} {Q : Int32 → Mem → Prop} {QF : Int32 → va_W → Prop}  (h : P_X7_readTerm  M Q) (hq : ∀ r M, Q r M → QF r (wM ad (gc G) lf M)) : F_X7_readTerm G (ad 118) (wM ad (gc G) lf M) QF := by
  intro J90 c90
  replace h := h (fun t0 t1 M => J90 t0 t1 (ad 133) (wM ad (gc G) lf M))
  replace h := h (by
    intro t0 t1 M h
    refine c90 _ _ _ _ ?_
    obtain ⟨hi, h⟩ := h
    refine i_S (k := 133) ar_133 hi ?_
    replace h := pW_at h
    generalize hM : mup M 133 t1.toNatClampNeg t0 = M31 at h ⊢
    clear hM
    refine i_R (k := 118) fl_X7 rfl ?_
    obtain ⟨hi, h⟩ := h
    refine i_A (k := 133) ar_133 hi ?_
    refine ⟨fun hc => ?_, fun hc => ?_⟩
    · replace h := h.1 hc
      exact hq _ _ h
    · replace h := h.2 hc
      refine ⟨i_V (k := 118) fl_X7, p_X7_isWord hA (by decide) h (fun r33 M32 h => ?_)⟩
      refine ⟨fun hc => ?_, fun hc => ?_⟩
      · replace h := h.1 hc
        exact hq _ _ h
      · replace h := h.2 hc
        exact hq _ _ h)
  refine ⟨i_V (k := 118) fl_X7, p_X7_word hA h (fun M1 h => ?_)⟩
  refine ⟨i_V (k := 118) fl_X7, p_X7_isWord hA (by decide) h (fun r5 M4 h => ?_)⟩
  refine ⟨fun hc => ?_, fun hc => ?_⟩
  · replace h := h.1 hc
    refine ⟨i_V (k := 118) fl_X7, p_X7_isWord hA (by decide) h (fun r8 M7 h => ?_)⟩
    refine ⟨fun hc => ?_, fun hc => ?_⟩
    · replace h := h.1 hc
      refine ⟨i_V (k := 118) fl_X7, p_X7_isWord hA (by decide) h (fun r11 M10 h => ?_)⟩
      refine ⟨fun hc => ?_, fun hc => ?_⟩
      · replace h := h.1 hc
        refine ⟨i_V (k := 118) fl_X7, p_X7_isWord hA (by decide) h (fun r14 M13 h => ?_)⟩
        refine ⟨fun hc => ?_, fun hc => ?_⟩
        · replace h := h.1 hc
          refine ⟨i_V (k := 118) fl_X7, p_X7_word hA h (fun M16 h => ?_)⟩
          refine i_R (k := 118) fl_X7 rfl ?_
          refine ⟨i_V (k := 118) fl_X7, p_X7_isWord hA (by decide) h (fun r20 M19 h => ?_)⟩
          refine ⟨fun hc => ?_, fun hc => ?_⟩
          · replace h := h.1 hc
            exact h
          · replace h := h.2 hc
            exact h
        · replace h := h.2 hc
          exact hq _ _ h
      · replace h := h.2 hc
        refine ⟨i_V (k := 118) fl_X7, p_X7_number hA h (fun r23 M22 h => ?_)⟩
        exact ⟨h.1, hq _ _ h.2⟩
    · replace h := h.2 hc
      refine ⟨i_V (k := 118) fl_X7, p_X7_number hA h (fun r26 M25 h => ?_)⟩
      exact ⟨h.1, hq _ _ h.2⟩
  · replace h := h.2 hc
    refine ⟨i_V (k := 118) fl_X7, p_X7_number hA h (fun r29 M28 h => ?_)⟩
    exact ⟨h.1, hq _ _ h.2⟩
def P_X7_law  (M : Mem) (Q : Int32 → Mem → Prop) : Prop := ∀ (J25 : Int32 → Mem → Prop), ∀ (J55 : Int32 → Int32 → Mem → Prop), ∀ (J114 : Int32 → Int32 → Mem → Prop), ∀ (J127 : Int32 → Int32 → Int32 → Mem → Prop), ∀ (J140 : Int32 → Int32 → Mem → Prop), ∀ (J151 : Int32 → Int32 → Mem → Prop), (∀ (x1 : Int32) (M : Mem), (((4 : Int32) ≤ x1 → (P_X7_readTerm M (fun r6 M5 => J55 (0 : Int32) r6 M5))) ∧ (¬ (4 : Int32) ≤ x1 → (vp_in x1 4 ∧ (vp_in x1 4 ∧ pW 133 x1.toNatClampNeg (M 132 x1.toNatClampNeg) M (fun M8 => J25 (x1 + (1 : Int32)) M8))))) → J25 x1 M) → (∀ (x1 : Int32) (x2 : Int32) (M : Mem), ((x2 = 0 → J114 x1 x2 M) ∧ (¬ x2 = 0 → (P_X7_blanks M (fun M9 => ((¬ (M9 118 25) = (M9 118 26) → (P_X7_isAt (59 : Int32) (59 : Int32) M9 (fun r13 M12 => ((¬ r13 = 0 → pW 118 25 ((M12 118 25) + (1 : Int32)) M12 (fun M15 => (P_X7_readTerm M15 (fun r17 M16 => J55 (x1 + (1 : Int32)) r17 M16)))) ∧ (r13 = 0 → J114 (x1 + (1 : Int32)) r13 M12))))) ∧ ((M9 118 25) = (M9 118 26) → J114 (x1 + (1 : Int32)) x2 M9)))))) → J55 x1 x2 M) → (∀ (x1 : Int32) (x2 : Int32) (M : Mem), ((x2 = 0 → J127 x1 x2 (M 118 27) M) ∧ (¬ x2 = 0 → J127 x1 x2 (-1 : Int32) M)) → J114 x1 x2 M) → (∀ (x1 : Int32) (x2 : Int32) (t0 : Int32) (M : Mem), pW 118 28 t0 M (fun M19 => ((¬ x2 = 0 → J140 x1 (0 : Int32) M19) ∧ (x2 = 0 → J140 x1 (1 : Int32) M19))) → J127 x1 x2 t0 M) → (∀ (x1 : Int32) (t0 : Int32) (M : Mem), (P_X7_throwsIf t0 (1 : Int32) M (fun r21 M20 => ((r21 = 0 → J151 x1 (0 : Int32) M20) ∧ (¬ r21 = 0 → Q (0 : Int32) M20)))) → J140 x1 t0 M) → (∀ (x1 : Int32) (x3 : Int32) (M : Mem), (((4 : Int32) ≤ x3 → Q x1 M) ∧ (¬ (4 : Int32) ≤ x3 → (vp_in x3 4 ∧ (vp_in x3 4 ∧ pW 132 x3.toNatClampNeg (M 133 x3.toNatClampNeg) M (fun M23 => J151 x1 (x3 + (1 : Int32)) M23))))) → J151 x1 x3 M) → pW 118 0 (0 : Int32) M (fun M1 => pW 118 26 (M1 118 24) M1 (fun M2 => pW 118 24 (0 : Int32) M2 (fun M3 => pW 118 25 (0 : Int32) M3 (fun M4 => J25 (0 : Int32) M4))))
set_option maxRecDepth 20000 in
set_option maxHeartbeats 4000000 in
theorem p_X7_law {G : Gx} {ad : Nat → Nat} {lf : Nat → Int64} (hA : Inj ad)  {M : Mem} {Q : Int32 → Mem → Prop} {QF : Int32 → va_W → Prop}  (h : P_X7_law  M Q) (hq : ∀ r M, Q r M → QF r (wM ad (gc G) lf M)) : F_X7_law G (ad 118) (wM ad (gc G) lf M) QF := by
  intro J25 J55 J114 J127 J140 J151 c25 c55 c114 c127 c140 c151
  replace h := h (fun x1 M => J25 x1 (wM ad (gc G) lf M)) (fun x1 x2 M => J55 x1 x2 (wM ad (gc G) lf M)) (fun x1 x2 M => J114 x1 x2 (wM ad (gc G) lf M)) (fun x1 x2 t0 M => J127 x1 x2 t0 (ad 118) (wM ad (gc G) lf M)) (fun x1 t0 M => J140 x1 t0 (ad 118) (wM ad (gc G) lf M)) (fun x1 x3 M => J151 x1 x3 (wM ad (gc G) lf M))
  replace h := h (by
    intro x1 M h
    refine c25 _ _ ?_
    refine ⟨fun hc => ?_, fun hc => ?_⟩
    · replace h := h.1 hc
      refine ⟨i_V (k := 118) fl_X7, p_X7_readTerm hA h (fun r6 M5 h => ?_)⟩
      exact h
    · replace h := h.2 hc
      refine i_R (k := 118) fl_X7 rfl ?_
      refine i_R (k := 118) fl_X7 rfl ?_
      obtain ⟨hi, h⟩ := h
      refine i_A (k := 132) ar_132 hi ?_
      obtain ⟨hi, h⟩ := h
      refine i_S (k := 133) ar_133 hi ?_
      replace h := pW_at h
      generalize hM : mup M 133 x1.toNatClampNeg (M 132 x1.toNatClampNeg) = M8 at h ⊢
      clear hM
      exact h)
  replace h := h (by
    intro x1 x2 M h
    refine c55 _ _ _ ?_
    refine ⟨fun hc => ?_, fun hc => ?_⟩
    · replace h := h.1 hc
      exact h
    · replace h := h.2 hc
      refine ⟨i_V (k := 118) fl_X7, p_X7_blanks hA h (fun M9 h => ?_)⟩
      refine i_I (k := 118) fl_X7 rfl ?_
      refine i_I (k := 118) fl_X7 rfl ?_
      refine ⟨fun hc => ?_, fun hc => ?_⟩
      · replace h := h.1 hc
        refine ⟨i_V (k := 118) fl_X7, p_X7_isAt hA h (fun r13 M12 h => ?_)⟩
        refine ⟨fun hc => ?_, fun hc => ?_⟩
        · replace h := h.1 hc
          refine i_I (k := 118) fl_X7 rfl ?_
          refine i_P (k := 118) fl_X7 rfl ?_
          replace h := pW_at h
          generalize hM : mup M12 118 25 ((M12 118 25) + (1 : Int32)) = M15 at h ⊢
          clear hM
          refine ⟨i_V (k := 118) fl_X7, p_X7_readTerm hA h (fun r17 M16 h => ?_)⟩
          exact h
        · replace h := h.2 hc
          exact h
      · replace h := h.2 hc
        exact h)
  replace h := h (by
    intro x1 x2 M h
    refine c114 _ _ _ ?_
    refine ⟨fun hc => ?_, fun hc => ?_⟩
    · replace h := h.1 hc
      refine i_I (k := 118) fl_X7 rfl ?_
      exact h
    · replace h := h.2 hc
      exact h)
  replace h := h (by
    intro x1 x2 t0 M h
    refine c127 _ _ _ _ _ ?_
    refine i_P (k := 118) fl_X7 rfl ?_
    replace h := pW_at h
    generalize hM : mup M 118 28 t0 = M19 at h ⊢
    clear hM
    refine ⟨fun hc => ?_, fun hc => ?_⟩
    · replace h := h.1 hc
      exact h
    · replace h := h.2 hc
      exact h)
  replace h := h (by
    intro x1 t0 M h
    refine c140 _ _ _ _ ?_
    refine ⟨i_V (k := 118) fl_X7, p_X7_throwsIf hA h (fun r21 M20 h => ?_)⟩
    refine ⟨fun hc => ?_, fun hc => ?_⟩
    · replace h := h.1 hc
      exact h
    · replace h := h.2 hc
      exact hq _ _ h)
  replace h := h (by
    intro x1 x3 M h
    refine c151 _ _ _ ?_
    refine ⟨fun hc => ?_, fun hc => ?_⟩
    · replace h := h.1 hc
      exact hq _ _ h
    · replace h := h.2 hc
      refine i_R (k := 118) fl_X7 rfl ?_
      refine i_R (k := 118) fl_X7 rfl ?_
      obtain ⟨hi, h⟩ := h
      refine i_A (k := 133) ar_133 hi ?_
      obtain ⟨hi, h⟩ := h
      refine i_S (k := 132) ar_132 hi ?_
      replace h := pW_at h
      generalize hM : mup M 132 x3.toNatClampNeg (M 133 x3.toNatClampNeg) = M23 at h ⊢
      clear hM
      exact h)
  refine i_P (k := 118) fl_X7 rfl ?_
  replace h := pW_at h
  generalize hM : mup M 118 0 (0 : Int32) = M1 at h ⊢
  clear hM
  refine i_I (k := 118) fl_X7 rfl ?_
  refine i_P (k := 118) fl_X7 rfl ?_
  replace h := pW_at h
  generalize hM : mup M1 118 26 (M1 118 24) = M2 at h ⊢
  clear hM
  refine i_P (k := 118) fl_X7 rfl ?_
  replace h := pW_at h
  generalize hM : mup M2 118 24 (0 : Int32) = M3 at h ⊢
  clear hM
  refine i_P (k := 118) fl_X7 rfl ?_
  replace h := pW_at h
  generalize hM : mup M3 118 25 (0 : Int32) = M4 at h ⊢
  clear hM
  exact h
def P_X7_fault  (M : Mem) (Q : Int32 → Mem → Prop) : Prop := pW 118 0 (0 : Int32) M (fun M1 => Q (M1 118 28) M1)
set_option maxRecDepth 20000 in
set_option maxHeartbeats 4000000 in
theorem p_X7_fault {G : Gx} {ad : Nat → Nat} {lf : Nat → Int64} (hA : Inj ad)  {M : Mem} {Q : Int32 → Mem → Prop} {QF : Int32 → va_W → Prop}  (h : P_X7_fault  M Q) (hq : ∀ r M, Q r M → QF r (wM ad (gc G) lf M)) : F_X7_fault G (ad 118) (wM ad (gc G) lf M) QF := by
  unfold P_X7_fault at h
  unfold F_X7_fault
  refine i_P (k := 118) fl_X7 rfl ?_
  replace h := pW_at h
  generalize hM : mup M 118 0 (0 : Int32) = M1 at h ⊢
  clear hM
  refine i_I (k := 118) fl_X7 rfl ?_
  exact hq _ _ h
def P_X7_says (p1 : Int32) (M : Mem) (Q : Int32 → Mem → Prop) : Prop := ∀ (J20 : Int32 → Mem → Prop), (∀ (t0 : Int32) (M : Mem), (P_X7_throwsIf t0 (1 : Int32) M (fun r6 M5 => ((r6 = 0 → (vp_in p1 4 ∧ Q (M5 132 p1.toNatClampNeg) M5)) ∧ (¬ r6 = 0 → Q (0 : Int32) M5)))) → J20 t0 M) → pW 118 0 (0 : Int32) M (fun M1 => (P_X7_in p1 (0 : Int32) (3 : Int32) M1 (fun r3 M2 => ((¬ r3 = 0 → J20 (0 : Int32) M2) ∧ (r3 = 0 → J20 (1 : Int32) M2)))))
set_option maxRecDepth 20000 in
set_option maxHeartbeats 4000000 in
theorem p_X7_says {G : Gx} {ad : Nat → Nat} {lf : Nat → Int64} (hA : Inj ad) {p1 : Int32} {M : Mem} {Q : Int32 → Mem → Prop} {QF : Int32 → va_W → Prop}  (h : P_X7_says p1 M Q) (hq : ∀ r M, Q r M → QF r (wM ad (gc G) lf M)) : F_X7_says G (ad 118) p1 (wM ad (gc G) lf M) QF := by
  intro J20 c20
  replace h := h (fun t0 M => J20 t0 (ad 118) (wM ad (gc G) lf M))
  replace h := h (by
    intro t0 M h
    refine c20 _ _ _ ?_
    refine ⟨i_V (k := 118) fl_X7, p_X7_throwsIf hA h (fun r6 M5 h => ?_)⟩
    refine ⟨fun hc => ?_, fun hc => ?_⟩
    · replace h := h.1 hc
      refine i_R (k := 118) fl_X7 rfl ?_
      obtain ⟨hi, h⟩ := h
      refine i_A (k := 132) ar_132 hi ?_
      exact hq _ _ h
    · replace h := h.2 hc
      exact hq _ _ h)
  refine i_P (k := 118) fl_X7 rfl ?_
  replace h := pW_at h
  generalize hM : mup M 118 0 (0 : Int32) = M1 at h ⊢
  clear hM
  refine p_X7_in hA h (fun r3 M2 h => ?_)
  refine ⟨fun hc => ?_, fun hc => ?_⟩
  · replace h := h.1 hc
    exact h
  · replace h := h.2 hc
    exact h
def P_X7_portion (p1 : Int64) (p2 : Int32) (p3 : Int32) (p4 : Int32) (M : Mem) (Q : Int64 → Mem → Prop) : Prop := (vp_in (2 : Int32) 4 ∧ ((¬ (M 132 (2 : Int32).toNatClampNeg) = (1 : Int32) → (vp_in p2 31 ∧ (vp_in p3 8 ∧ (¬ (M 123 p3.toNatClampNeg).toInt64 = 0 ∧ (Q ((p1 * (M 136 p2.toNatClampNeg).toInt64) / (M 123 p3.toNatClampNeg).toInt64) M))))) ∧ ((M 132 (2 : Int32).toNatClampNeg) = (1 : Int32) → (¬ p4.toInt64 = 0 ∧ (Q (p1 / p4.toInt64) M)))))
set_option maxRecDepth 20000 in
set_option maxHeartbeats 4000000 in
theorem p_X7_portion {G : Gx} {ad : Nat → Nat} {lf : Nat → Int64} (hA : Inj ad) {p1 : Int64} {p2 : Int32} {p3 : Int32} {p4 : Int32} {M : Mem} {Q : Int64 → Mem → Prop} {QF : Int64 → va_W → Prop}  (h : P_X7_portion p1 p2 p3 p4 M Q) (hq : ∀ r M, Q r M → QF r (wM ad (gc G) lf M)) : F_X7_portion G (ad 118) p1 p2 p3 p4 (wM ad (gc G) lf M) QF := by
  unfold P_X7_portion at h
  unfold F_X7_portion
  refine i_R (k := 118) fl_X7 rfl ?_
  obtain ⟨hi, h⟩ := h
  refine i_A (k := 132) ar_132 hi ?_
  refine ⟨fun hc => ?_, fun hc => ?_⟩
  · replace h := h.1 hc
    refine i_R (k := 118) fl_X7 rfl ?_
    obtain ⟨hi, h⟩ := h
    refine i_A (k := 136) ar_136 hi ?_
    refine i_R (k := 118) fl_X7 rfl ?_
    obtain ⟨hi, h⟩ := h
    refine i_A (k := 123) ar_123 hi ?_
    obtain ⟨hz, h⟩ := h
    refine ⟨hz, ?_⟩
    exact hq _ _ h
  · replace h := h.2 hc
    obtain ⟨hz, h⟩ := h
    refine ⟨hz, ?_⟩
    exact hq _ _ h
def P_X7_pays (p1 : Int32) (p2 : Int32) (p3 : Int32) (M : Mem) (Q : Int32 → Mem → Prop) : Prop := ∀ (J33 : Int32 → Mem → Prop), ∀ (J58 : Mem → Prop), ∀ (J63 : Int32 → Mem → Prop), ∀ (J75 : Int32 → Mem → Prop), ∀ (J99 : Int32 → Mem → Prop), ∀ (J193 : Int32 → Int32 → Int32 → Mem → Prop), ∀ (J167 : Int32 → Mem → Prop), ∀ (J264 : Int32 → Int32 → Int64 → Int64 → Int32 → Mem → Prop), ∀ (J229 : Int32 → Int32 → Int32 → Int32 → Mem → Prop), ∀ (J232 : Int32 → Int32 → Int32 → Mem → Prop), ∀ (J327 : Int64 → Int64 → Mem → Prop), ∀ (J297 : Int32 → Int32 → Int64 → Int64 → Int32 → Mem → Prop), (∀ (t0 : Int32) (M : Mem), (P_X7_throwsIf t0 (2 : Int32) M (fun r9 M8 => ((¬ r9 = 0 → Q (0 : Int32) M8) ∧ (r9 = 0 → (P_X7_noOwner p2 M8 (fun r12 M11 => ((¬ r12 = 0 → J58 M11) ∧ (r12 = 0 → (P_X7_in p3 (0 : Int32) (1000000 : Int32) M11 (fun r15 M14 => ((¬ r15 = 0 → J63 (0 : Int32) M14) ∧ (r15 = 0 → J58 M14)))))))))))) → J33 t0 M) → (∀ (M : Mem), J63 (1 : Int32) M → J58 M) → (∀ (t0 : Int32) (M : Mem), (P_X7_throwsIf t0 (3 : Int32) M (fun r18 M17 => ((r18 = 0 → J75 (0 : Int32) M17) ∧ (¬ r18 = 0 → Q (0 : Int32) M17)))) → J63 t0 M) → (∀ (x4 : Int32) (M : Mem), (((31 : Int32) ≤ x4 → J99 (0 : Int32) M) ∧ (¬ (31 : Int32) ≤ x4 → (vp_in x4 31 ∧ pW 136 x4.toNatClampNeg (0 : Int32) M (fun M20 => J75 (x4 + (1 : Int32)) M20)))) → J75 x4 M) → (∀ (x4 : Int32) (M : Mem), (((M 118 17) ≤ x4 → (vp_in p2 31 ∧ ((¬ (M 136 p2.toNatClampNeg) = 0 → J193 (0 : Int32) (0 : Int32) (0 : Int32) M) ∧ ((M 136 p2.toNatClampNeg) = 0 → Q (0 : Int32) M)))) ∧ (¬ (M 118 17) ≤ x4 → (vp_in ((7 : Int32) * x4) 420 ∧ ((¬ (M 128 ((7 : Int32) * x4).toNatClampNeg) = p1 → J167 x4 M) ∧ ((M 128 ((7 : Int32) * x4).toNatClampNeg) = p1 → (vp_in (((7 : Int32) * x4) + (3 : Int32)) 420 ∧ (vp_in (M 128 (((7 : Int32) * x4) + (3 : Int32)).toNatClampNeg) 31 ∧ (vp_in (((7 : Int32) * x4) + (2 : Int32)) 420 ∧ (vp_in (((7 : Int32) * x4) + (1 : Int32)) 420 ∧ (vp_in (M 128 (((7 : Int32) * x4) + (3 : Int32)).toNatClampNeg) 31 ∧ pW 136 (M 128 (((7 : Int32) * x4) + (3 : Int32)).toNatClampNeg).toNatClampNeg ((M 136 (M 128 (((7 : Int32) * x4) + (3 : Int32)).toNatClampNeg).toNatClampNeg) + ((M 128 (((7 : Int32) * x4) + (2 : Int32)).toNatClampNeg) - (M 128 (((7 : Int32) * x4) + (1 : Int32)).toNatClampNeg))) M (fun M21 => J167 x4 M21))))))))))) → J99 x4 M) → (∀ (x4 : Int32) (x5 : Int32) (x6 : Int32) (M : Mem), (((31 : Int32) ≤ x6 → (vp_in (3 : Int32) 4 ∧ J264 x4 x5 (p3.toInt64 - ((p3.toInt64 * (M 132 (3 : Int32).toNatClampNeg).toInt64) / (100 : Int64))) (p3.toInt64 - ((p3.toInt64 * (M 132 (3 : Int32).toNatClampNeg).toInt64) / (100 : Int64))) (0 : Int32) M)) ∧ (¬ (31 : Int32) ≤ x6 → (vp_in x6 31 ∧ ((¬ (M 136 x6.toNatClampNeg) = 0 → ((p2 ≤ x6 → J229 (x4 + (1 : Int32)) x6 (0 : Int32) x5 M) ∧ (¬ p2 ≤ x6 → J229 (x4 + (1 : Int32)) x6 (1 : Int32) x5 M))) ∧ ((M 136 x6.toNatClampNeg) = 0 → J232 x4 x5 x6 M))))) → J193 x4 x5 x6 M) → (∀ (x4 : Int32) (M : Mem), J99 (x4 + (1 : Int32)) M → J167 x4 M) → (∀ (x4 : Int32) (x5 : Int32) (x6 : Int64) (x8 : Int64) (x10 : Int32) (M : Mem), (((31 : Int32) ≤ x10 → (P_X7_portion x6 p2 p1 x4 M (fun r23 M22 => ((0 ≤ (lg_cmp x5.toInt64 x8) → J327 (0 : Int64) r23 M22) ∧ (¬ 0 ≤ (lg_cmp x5.toInt64 x8) → J327 (1 : Int64) r23 M22))))) ∧ (¬ (31 : Int32) ≤ x10 → (vp_in x10 31 ∧ (((M 136 x10.toNatClampNeg) ≤ 0 → J297 x4 x5 x6 x8 x10 M) ∧ (¬ (M 136 x10.toNatClampNeg) ≤ 0 → (P_X7_portion x6 x10 p1 x4 M (fun r26 M25 => J297 x4 x5 x6 (x8 - r26) x10 M25))))))) → J264 x4 x5 x6 x8 x10 M) → (∀ (x4 : Int32) (x6 : Int32) (t0 : Int32) (t1 : Int32) (M : Mem), J232 x4 (t1 + t0) x6 M → J229 x4 x6 t0 t1 M) → (∀ (x4 : Int32) (x5 : Int32) (x6 : Int32) (M : Mem), J193 x4 x5 (x6 + (1 : Int32)) M → J232 x4 x5 x6 M) → (∀ (t0 : Int64) (t1 : Int64) (M : Mem), Q ((t1 + t0).toInt32) M → J327 t0 t1 M) → (∀ (x4 : Int32) (x5 : Int32) (x6 : Int64) (x8 : Int64) (x10 : Int32) (M : Mem), J264 x4 x5 x6 x8 (x10 + (1 : Int32)) M → J297 x4 x5 x6 x8 x10 M) → pW 118 0 (0 : Int32) M (fun M1 => (P_X7_noChannel p1 M1 (fun r3 M2 => (P_X7_throwsIf r3 (1 : Int32) M2 (fun r6 M5 => ((¬ r6 = 0 → Q (0 : Int32) M5) ∧ (r6 = 0 → (vp_in p1 8 ∧ ((¬ (M5 120 p1.toNatClampNeg) = 0 → J33 (0 : Int32) M5) ∧ ((M5 120 p1.toNatClampNeg) = 0 → J33 (1 : Int32) M5))))))))))
set_option maxRecDepth 20000 in
set_option maxHeartbeats 4000000 in
theorem p_X7_pays {G : Gx} {ad : Nat → Nat} {lf : Nat → Int64} (hA : Inj ad) {p1 : Int32} {p2 : Int32} {p3 : Int32} {M : Mem} {Q : Int32 → Mem → Prop} {QF : Int32 → va_W → Prop}  (h : P_X7_pays p1 p2 p3 M Q) (hq : ∀ r M, Q r M → QF r (wM ad (gc G) lf M)) : F_X7_pays G (ad 118) p1 p2 p3 (wM ad (gc G) lf M) QF := by
  intro J33 J58 J63 J75 J99 J193 J167 J264 J229 J232 J327 J297 c33 c58 c63 c75 c99 c193 c167 c264 c229 c232 c327 c297
  replace h := h (fun t0 M => J33 t0 (ad 118) (wM ad (gc G) lf M)) (fun M => J58 (ad 118) (wM ad (gc G) lf M)) (fun t0 M => J63 t0 (ad 118) (wM ad (gc G) lf M)) (fun x4 M => J75 x4 (wM ad (gc G) lf M)) (fun x4 M => J99 x4 (wM ad (gc G) lf M)) (fun x4 x5 x6 M => J193 x4 x5 x6 (wM ad (gc G) lf M)) (fun x4 M => J167 x4 (wM ad (gc G) lf M)) (fun x4 x5 x6 x8 x10 M => J264 x4 x5 x6 x8 x10 (wM ad (gc G) lf M)) (fun x4 x6 t0 t1 M => J229 x4 x6 t0 t1 (wM ad (gc G) lf M)) (fun x4 x5 x6 M => J232 x4 x5 x6 (wM ad (gc G) lf M)) (fun t0 t1 M => J327 t0 t1 (wM ad (gc G) lf M)) (fun x4 x5 x6 x8 x10 M => J297 x4 x5 x6 x8 x10 (wM ad (gc G) lf M))
  replace h := h (by
    intro t0 M h
    refine c33 _ _ _ ?_
    refine ⟨i_V (k := 118) fl_X7, p_X7_throwsIf hA h (fun r9 M8 h => ?_)⟩
    refine ⟨fun hc => ?_, fun hc => ?_⟩
    · replace h := h.1 hc
      exact hq _ _ h
    · replace h := h.2 hc
      refine p_X7_noOwner hA h (fun r12 M11 h => ?_)
      refine ⟨fun hc => ?_, fun hc => ?_⟩
      · replace h := h.1 hc
        exact h
      · replace h := h.2 hc
        refine p_X7_in hA h (fun r15 M14 h => ?_)
        refine ⟨fun hc => ?_, fun hc => ?_⟩
        · replace h := h.1 hc
          exact h
        · replace h := h.2 hc
          exact h)
  replace h := h (by
    intro M h
    refine c58 _ _ ?_
    exact h)
  replace h := h (by
    intro t0 M h
    refine c63 _ _ _ ?_
    refine ⟨i_V (k := 118) fl_X7, p_X7_throwsIf hA h (fun r18 M17 h => ?_)⟩
    refine ⟨fun hc => ?_, fun hc => ?_⟩
    · replace h := h.1 hc
      exact h
    · replace h := h.2 hc
      exact hq _ _ h)
  replace h := h (by
    intro x4 M h
    refine c75 _ _ ?_
    refine ⟨fun hc => ?_, fun hc => ?_⟩
    · replace h := h.1 hc
      exact h
    · replace h := h.2 hc
      refine i_R (k := 118) fl_X7 rfl ?_
      obtain ⟨hi, h⟩ := h
      refine i_S (k := 136) ar_136 hi ?_
      replace h := pW_at h
      generalize hM : mup M 136 x4.toNatClampNeg (0 : Int32) = M20 at h ⊢
      clear hM
      exact h)
  replace h := h (by
    intro x4 M h
    refine c99 _ _ ?_
    refine i_I (k := 118) fl_X7 rfl ?_
    refine ⟨fun hc => ?_, fun hc => ?_⟩
    · replace h := h.1 hc
      refine i_R (k := 118) fl_X7 rfl ?_
      obtain ⟨hi, h⟩ := h
      refine i_A (k := 136) ar_136 hi ?_
      refine ⟨fun hc => ?_, fun hc => ?_⟩
      · replace h := h.1 hc
        exact h
      · replace h := h.2 hc
        exact hq _ _ h
    · replace h := h.2 hc
      refine i_R (k := 118) fl_X7 rfl ?_
      obtain ⟨hi, h⟩ := h
      refine i_A (k := 128) ar_128 hi ?_
      refine ⟨fun hc => ?_, fun hc => ?_⟩
      · replace h := h.1 hc
        exact h
      · replace h := h.2 hc
        refine i_R (k := 118) fl_X7 rfl ?_
        refine i_R (k := 118) fl_X7 rfl ?_
        obtain ⟨hi, h⟩ := h
        refine i_A (k := 128) ar_128 hi ?_
        obtain ⟨hi, h⟩ := h
        refine i_A (k := 136) ar_136 hi ?_
        refine i_R (k := 118) fl_X7 rfl ?_
        obtain ⟨hi, h⟩ := h
        refine i_A (k := 128) ar_128 hi ?_
        refine i_R (k := 118) fl_X7 rfl ?_
        obtain ⟨hi, h⟩ := h
        refine i_A (k := 128) ar_128 hi ?_
        obtain ⟨hi, h⟩ := h
        refine i_S (k := 136) ar_136 hi ?_
        replace h := pW_at h
        generalize hM : mup M 136 (M 128 (((7 : Int32) * x4) + (3 : Int32)).toNatClampNeg).toNatClampNeg ((M 136 (M 128 (((7 : Int32) * x4) + (3 : Int32)).toNatClampNeg).toNatClampNeg) + ((M 128 (((7 : Int32) * x4) + (2 : Int32)).toNatClampNeg) - (M 128 (((7 : Int32) * x4) + (1 : Int32)).toNatClampNeg))) = M21 at h ⊢
        clear hM
        exact h)
  replace h := h (by
    intro x4 x5 x6 M h
    refine c193 _ _ _ _ ?_
    refine ⟨fun hc => ?_, fun hc => ?_⟩
    · replace h := h.1 hc
      refine i_R (k := 118) fl_X7 rfl ?_
      obtain ⟨hi, h⟩ := h
      refine i_A (k := 132) ar_132 hi ?_
      exact h
    · replace h := h.2 hc
      refine i_R (k := 118) fl_X7 rfl ?_
      obtain ⟨hi, h⟩ := h
      refine i_A (k := 136) ar_136 hi ?_
      refine ⟨fun hc => ?_, fun hc => ?_⟩
      · replace h := h.1 hc
        refine ⟨fun hc => ?_, fun hc => ?_⟩
        · replace h := h.1 hc
          exact h
        · replace h := h.2 hc
          exact h
      · replace h := h.2 hc
        exact h)
  replace h := h (by
    intro x4 M h
    refine c167 _ _ ?_
    exact h)
  replace h := h (by
    intro x4 x5 x6 x8 x10 M h
    refine c264 _ _ _ _ _ _ ?_
    refine ⟨fun hc => ?_, fun hc => ?_⟩
    · replace h := h.1 hc
      refine ⟨i_V (k := 118) fl_X7, p_X7_portion hA h (fun r23 M22 h => ?_)⟩
      refine ⟨fun hc => ?_, fun hc => ?_⟩
      · replace h := h.1 hc
        exact h
      · replace h := h.2 hc
        exact h
    · replace h := h.2 hc
      refine i_R (k := 118) fl_X7 rfl ?_
      obtain ⟨hi, h⟩ := h
      refine i_A (k := 136) ar_136 hi ?_
      refine ⟨fun hc => ?_, fun hc => ?_⟩
      · replace h := h.1 hc
        exact h
      · replace h := h.2 hc
        refine ⟨i_V (k := 118) fl_X7, p_X7_portion hA h (fun r26 M25 h => ?_)⟩
        exact h)
  replace h := h (by
    intro x4 x6 t0 t1 M h
    refine c229 _ _ _ _ _ ?_
    exact h)
  replace h := h (by
    intro x4 x5 x6 M h
    refine c232 _ _ _ _ ?_
    exact h)
  replace h := h (by
    intro t0 t1 M h
    refine c327 _ _ _ ?_
    exact hq _ _ h)
  replace h := h (by
    intro x4 x5 x6 x8 x10 M h
    refine c297 _ _ _ _ _ _ ?_
    exact h)
  refine i_P (k := 118) fl_X7 rfl ?_
  replace h := pW_at h
  generalize hM : mup M 118 0 (0 : Int32) = M1 at h ⊢
  clear hM
  refine ⟨i_V (k := 118) fl_X7, p_X7_noChannel hA h (fun r3 M2 h => ?_)⟩
  refine ⟨i_V (k := 118) fl_X7, p_X7_throwsIf hA h (fun r6 M5 h => ?_)⟩
  refine ⟨fun hc => ?_, fun hc => ?_⟩
  · replace h := h.1 hc
    exact hq _ _ h
  · replace h := h.2 hc
    refine i_R (k := 118) fl_X7 rfl ?_
    obtain ⟨hi, h⟩ := h
    refine i_A (k := 120) ar_120 hi ?_
    refine ⟨fun hc => ?_, fun hc => ?_⟩
    · replace h := h.1 hc
      exact h
    · replace h := h.2 hc
      exact h
