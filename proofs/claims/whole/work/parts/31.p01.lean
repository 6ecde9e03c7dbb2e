def P_X2_name (p1 : Int32) (p2 : Int32) (p3 : Int32) (M : Mem) (Q : Mem → Prop) : Prop := (P_X6_isWithin p1 (0 : Int32) (3 : Int32) M (fun r2 M1 => ((r2 = 0 → Q M1) ∧ (¬ r2 = 0 → (vp_in p1 4 ∧ pW 109 p1.toNatClampNeg p2 M1 (fun M4 => (vp_in p1 4 ∧ pW 111 p1.toNatClampNeg p3 M4 (fun M5 => Q M5))))))))
set_option maxRecDepth 20000 in
set_option maxHeartbeats 4000000 in
theorem p_X2_name {G : Gx} {ad : Nat → Nat} {lf : Nat → Int64} (hA : Inj ad) {p1 : Int32} {p2 : Int32} {p3 : Int32} {M : Mem} {Q : Mem → Prop} {QF : va_W → Prop}  (h : P_X2_name p1 p2 p3 M Q) (hq : ∀ M, Q M → QF (wM ad (gc G) lf M)) : F_X2_name G (ad 108) p1 p2 p3 (wM ad (gc G) lf M) QF := by
  unfold P_X2_name at h
  unfold F_X2_name
  refine p_X6_isWithin hA h (fun r2 M1 h => ?_)
  refine ⟨fun hc => ?_, fun hc => ?_⟩
  · replace h := h.1 hc
    exact hq _ h
  · replace h := h.2 hc
    refine i_R (k := 108) fl_X2 rfl ?_
    obtain ⟨hi, h⟩ := h
    refine i_S (k := 109) ar_109 hi ?_
    replace h := pW_at h
    generalize hM : mup M1 109 p1.toNatClampNeg p2 = M4 at h ⊢
    clear hM
    refine i_R (k := 108) fl_X2 rfl ?_
    obtain ⟨hi, h⟩ := h
    refine i_S (k := 111) ar_111 hi ?_
    replace h := pW_at h
    generalize hM : mup M4 111 p1.toNatClampNeg p3 = M5 at h ⊢
    clear hM
    exact hq _ h
def P_X2_firstStand (p1 : Int32) (M : Mem) (Q : Int32 → Mem → Prop) : Prop := ∀ (J2 : Int32 → Mem → Prop), (∀ (x2 : Int32) (M : Mem), ((p1 ≤ x2 → Q (1 : Int32) M) ∧ (¬ p1 ≤ x2 → (((4 : Int32) ≤ x2 → Q (1 : Int32) M) ∧ (¬ (4 : Int32) ≤ x2 → (vp_in x2 4 ∧ (P_X6_isOwner (M 109 x2.toNatClampNeg) M (fun r2 M1 => ((r2 = 0 → Q (0 : Int32) M1) ∧ (¬ r2 = 0 → (vp_in x2 4 ∧ (P_X6_isWithin (M1 111 x2.toNatClampNeg) (1 : Int32) (100 : Int32) M1 (fun r5 M4 => ((¬ r5 = 0 → J2 (x2 + (1 : Int32)) M4) ∧ (r5 = 0 → Q (0 : Int32) M4)))))))))))))) → J2 x2 M) → J2 (0 : Int32) M
set_option maxRecDepth 20000 in
set_option maxHeartbeats 4000000 in
theorem p_X2_firstStand {G : Gx} {ad : Nat → Nat} {lf : Nat → Int64} (hA : Inj ad) {p1 : Int32} {M : Mem} {Q : Int32 → Mem → Prop} {QF : Int32 → va_W → Prop}  (h : P_X2_firstStand p1 M Q) (hq : ∀ r M, Q r M → QF r (wM ad (gc G) lf M)) : F_X2_firstStand G (ad 108) p1 (wM ad (gc G) lf M) QF := by
  intro J2 c2
  replace h := h (fun x2 M => J2 x2 (wM ad (gc G) lf M))
  replace h := h (by
    intro x2 M h
    refine c2 _ _ ?_
    refine ⟨fun hc => ?_, fun hc => ?_⟩
    · replace h := h.1 hc
      exact hq _ _ h
    · replace h := h.2 hc
      refine ⟨fun hc => ?_, fun hc => ?_⟩
      · replace h := h.1 hc
        exact hq _ _ h
      · replace h := h.2 hc
        refine i_R (k := 108) fl_X2 rfl ?_
        obtain ⟨hi, h⟩ := h
        refine i_A (k := 109) ar_109 hi ?_
        refine p_X6_isOwner hA h (fun r2 M1 h => ?_)
        refine ⟨fun hc => ?_, fun hc => ?_⟩
        · replace h := h.1 hc
          exact hq _ _ h
        · replace h := h.2 hc
          refine i_R (k := 108) fl_X2 rfl ?_
          obtain ⟨hi, h⟩ := h
          refine i_A (k := 111) ar_111 hi ?_
          refine p_X6_isWithin hA h (fun r5 M4 h => ?_)
          refine ⟨fun hc => ?_, fun hc => ?_⟩
          · replace h := h.1 hc
            exact h
          · replace h := h.2 hc
            exact hq _ _ h)
  exact h
def P_X6_partOf (p0 : Int32) (p1 : Int32) (p2 : Int32) (M : Mem) (Q : Int32 → Mem → Prop) : Prop := ((0 < p2 → (¬ p2.toInt64 = 0 ∧ (Q (((p0.toInt64 * p1.toInt64) / p2.toInt64).toInt32) M))) ∧ (¬ 0 < p2 → Q (0 : Int32) M))
set_option maxRecDepth 20000 in
set_option maxHeartbeats 4000000 in
theorem p_X6_partOf {G : Gx} {ad : Nat → Nat} {lf : Nat → Int64} (hA : Inj ad) {p0 : Int32} {p1 : Int32} {p2 : Int32} {M : Mem} {Q : Int32 → Mem → Prop} {QF : Int32 → va_W → Prop}  (h : P_X6_partOf p0 p1 p2 M Q) (hq : ∀ r M, Q r M → QF r (wM ad (gc G) lf M)) : F_X6_partOf G p0 p1 p2 (wM ad (gc G) lf M) QF := by
  unfold P_X6_partOf at h
  unfold F_X6_partOf
  refine ⟨fun hc => ?_, fun hc => ?_⟩
  · replace h := h.1 hc
    obtain ⟨hz, h⟩ := h
    refine ⟨hz, ?_⟩
    exact hq _ _ h
  · replace h := h.2 hc
    exact hq _ _ h
def P_X2_partLength (p1 : Int32) (p2 : Int32) (M : Mem) (Q : Int32 → Mem → Prop) : Prop := ∀ (J5 : Int32 → Int32 → Mem → Prop), ∀ (J33 : Int32 → Mem → Prop), ∀ (J39 : Int32 → Int32 → Int32 → Mem → Prop), ∀ (J88 : Int32 → Mem → Prop), ∀ (J94 : Int32 → Int32 → Int32 → Mem → Prop), ∀ (J126 : Int32 → Int32 → Int32 → Int32 → Int32 → Int32 → Mem → Prop), ∀ (J145 : Int32 → Int32 → Int32 → Int32 → Mem → Prop), (∀ (x3 : Int32) (x4 : Int32) (M : Mem), ((p2 ≤ x4 → J33 x3 M) ∧ (¬ p2 ≤ x4 → (((4 : Int32) ≤ x4 → J33 x3 M) ∧ (¬ (4 : Int32) ≤ x4 → (vp_in x4 4 ∧ J5 (x3 + (M 111 x4.toNatClampNeg)) (x4 + (1 : Int32)) M))))) → J5 x3 x4 M) → (∀ (x3 : Int32) (M : Mem), J39 x3 p1 (0 : Int32) M → J33 x3 M) → (∀ (x3 : Int32) (x4 : Int32) (x5 : Int32) (M : Mem), ((p2 ≤ x5 → J88 x4 M) ∧ (¬ p2 ≤ x5 → (((4 : Int32) ≤ x5 → J88 x4 M) ∧ (¬ (4 : Int32) ≤ x5 → (vp_in x5 4 ∧ (P_X6_partOf p1 (M 111 x5.toNatClampNeg) x3 M (fun r2 M1 => (vp_in x5 4 ∧ pW 110 x5.toNatClampNeg r2 M1 (fun M4 => (vp_in x5 4 ∧ J39 x3 (x4 - (M4 110 x5.toNatClampNeg)) (x5 + (1 : Int32)) M4)))))))))) → J39 x3 x4 x5 M) → (∀ (x4 : Int32) (M : Mem), J94 x4 (0 : Int32) (0 : Int32) M → J88 x4 M) → (∀ (x4 : Int32) (x5 : Int32) (x6 : Int32) (M : Mem), ((p2 ≤ x6 → Q x5 M) ∧ (¬ p2 ≤ x6 → (((4 : Int32) ≤ x6 → Q x5 M) ∧ (¬ (4 : Int32) ≤ x6 → (vp_in x6 4 ∧ ((x4 ≤ x6 → J126 x4 x5 x6 (0 : Int32) (M 110 x6.toNatClampNeg) x6 M) ∧ (¬ x4 ≤ x6 → J126 x4 x5 x6 (1 : Int32) (M 110 x6.toNatClampNeg) x6 M))))))) → J94 x4 x5 x6 M) → (∀ (x4 : Int32) (x5 : Int32) (x6 : Int32) (t0 : Int32) (t1 : Int32) (t2 : Int32) (M : Mem), (vp_in t2 4 ∧ pW 110 t2.toNatClampNeg (t1 + t0) M (fun M5 => (vp_in x6 4 ∧ (((M5 110 x6.toNatClampNeg) ≤ 0 → J145 x4 x6 (0 : Int32) x5 M5) ∧ (¬ (M5 110 x6.toNatClampNeg) ≤ 0 → J145 x4 x6 (1 : Int32) x5 M5))))) → J126 x4 x5 x6 t0 t1 t2 M) → (∀ (x4 : Int32) (x6 : Int32) (t0 : Int32) (t1 : Int32) (M : Mem), J94 x4 (t1 + t0) (x6 + (1 : Int32)) M → J145 x4 x6 t0 t1 M) → J5 (0 : Int32) (0 : Int32) M
set_option maxRecDepth 20000 in
set_option maxHeartbeats 4000000 in
theorem p_X2_partLength {G : Gx} {ad : Nat → Nat} {lf : Nat → Int64} (hA : Inj ad) {p1 : Int32} {p2 : Int32} {M : Mem} {Q : Int32 → Mem → Prop} {QF : Int32 → va_W → Prop}  (h : P_X2_partLength p1 p2 M Q) (hq : ∀ r M, Q r M → QF r (wM ad (gc G) lf M)) : F_X2_partLength G (ad 108) p1 p2 (wM ad (gc G) lf M) QF := by
  intro J5 J33 J39 J88 J94 J126 J145 c5 c33 c39 c88 c94 c126 c145
  replace h := h (fun x3 x4 M => J5 x3 x4 (wM ad (gc G) lf M)) (fun x3 M => J33 x3 (wM ad (gc G) lf M)) (fun x3 x4 x5 M => J39 x3 x4 x5 (wM ad (gc G) lf M)) (fun x4 M => J88 x4 (wM ad (gc G) lf M)) (fun x4 x5 x6 M => J94 x4 x5 x6 (wM ad (gc G) lf M)) (fun x4 x5 x6 t0 t1 t2 M => J126 x4 x5 x6 t0 t1 t2 (ad 110) (wM ad (gc G) lf M)) (fun x4 x6 t0 t1 M => J145 x4 x6 t0 t1 (wM ad (gc G) lf M))
  replace h := h (by
    intro x3 x4 M h
    refine c5 _ _ _ ?_
    refine ⟨fun hc => ?_, fun hc => ?_⟩
    · replace h := h.1 hc
      exact h
    · replace h := h.2 hc
      refine ⟨fun hc => ?_, fun hc => ?_⟩
      · replace h := h.1 hc
        exact h
      · replace h := h.2 hc
        refine i_R (k := 108) fl_X2 rfl ?_
        obtain ⟨hi, h⟩ := h
        refine i_A (k := 111) ar_111 hi ?_
        exact h)
  replace h := h (by
    intro x3 M h
    refine c33 _ _ ?_
    exact h)
  replace h := h (by
    intro x3 x4 x5 M h
    refine c39 _ _ _ _ ?_
    refine ⟨fun hc => ?_, fun hc => ?_⟩
    · replace h := h.1 hc
      exact h
    · replace h := h.2 hc
      refine ⟨fun hc => ?_, fun hc => ?_⟩
      · replace h := h.1 hc
        exact h
      · replace h := h.2 hc
        refine i_R (k := 108) fl_X2 rfl ?_
        refine i_R (k := 108) fl_X2 rfl ?_
        obtain ⟨hi, h⟩ := h
        refine i_A (k := 111) ar_111 hi ?_
        refine p_X6_partOf hA h (fun r2 M1 h => ?_)
        obtain ⟨hi, h⟩ := h
        refine i_S (k := 110) ar_110 hi ?_
        replace h := pW_at h
        generalize hM : mup M1 110 x5.toNatClampNeg r2 = M4 at h ⊢
        clear hM
        refine i_R (k := 108) fl_X2 rfl ?_
        obtain ⟨hi, h⟩ := h
        refine i_A (k := 110) ar_110 hi ?_
        exact h)
  replace h := h (by
    intro x4 M h
    refine c88 _ _ ?_
    exact h)
  replace h := h (by
    intro x4 x5 x6 M h
    refine c94 _ _ _ _ ?_
    refine ⟨fun hc => ?_, fun hc => ?_⟩
    · replace h := h.1 hc
      exact hq _ _ h
    · replace h := h.2 hc
      refine ⟨fun hc => ?_, fun hc => ?_⟩
      · replace h := h.1 hc
        exact hq _ _ h
      · replace h := h.2 hc
        refine i_R (k := 108) fl_X2 rfl ?_
        obtain ⟨hi, h⟩ := h
        refine i_A (k := 110) ar_110 hi ?_
        refine ⟨fun hc => ?_, fun hc => ?_⟩
        · replace h := h.1 hc
          exact h
        · replace h := h.2 hc
          exact h)
  replace h := h (by
    intro x4 x5 x6 t0 t1 t2 M h
    refine c126 _ _ _ _ _ _ _ _ ?_
    obtain ⟨hi, h⟩ := h
    refine i_S (k := 110) ar_110 hi ?_
    replace h := pW_at h
    generalize hM : mup M 110 t2.toNatClampNeg (t1 + t0) = M5 at h ⊢
    clear hM
    refine i_R (k := 108) fl_X2 rfl ?_
    obtain ⟨hi, h⟩ := h
    refine i_A (k := 110) ar_110 hi ?_
    refine ⟨fun hc => ?_, fun hc => ?_⟩
    · replace h := h.1 hc
      exact h
    · replace h := h.2 hc
      exact h)
  replace h := h (by
    intro x4 x6 t0 t1 M h
    refine c145 _ _ _ _ _ ?_
    exact h)
  exact h
def P_X6_leaveTo (p1 : Nat) (p2 : Int32) (M : Mem) (Q : Mem → Prop) : Prop := ∀ (J17 : Int32 → Int32 → Int32 → Int32 → Mem → Prop), ∀ (J78 : Int32 → Int32 → Int32 → Int32 → Int32 → Mem → Prop), ∀ (J107 : Int32 → Int32 → Int32 → Int32 → Mem → Prop), (∀ (x3 : Int32) (x4 : Int32) (x5 : Int32) (x6 : Int32) (M : Mem), ((p2 ≤ x6 → Q M) ∧ (¬ p2 ≤ x6 → (((4 : Int32) ≤ x6 → Q M) ∧ (¬ (4 : Int32) ≤ x6 → (vp_in x6 4 ∧ (((x4 + (M 110 x6.toNatClampNeg)) ≤ x4 → J78 x3 x4 x5 x6 (x4 + (M 110 x6.toNatClampNeg)) M) ∧ (¬ (x4 + (M 110 x6.toNatClampNeg)) ≤ x4 → ((x5 = 0 → J78 x3 x4 x5 x6 (x4 + (M 110 x6.toNatClampNeg)) M) ∧ (¬ x5 = 0 → (vp_in x6 4 ∧ (P_X6_addShare x3 x4 (x4 + (M 110 x6.toNatClampNeg)) (M 109 x6.toNatClampNeg) M (fun M1 => J107 x3 x5 x6 (x4 + (M 110 x6.toNatClampNeg)) M1)))))))))))) → J17 x3 x4 x5 x6 M) → (∀ (x3 : Int32) (x4 : Int32) (x5 : Int32) (x6 : Int32) (x7 : Int32) (M : Mem), ((x7 ≤ x4 → J107 x3 x5 x6 x7 M) ∧ (¬ x7 ≤ x4 → (vp_in x6 4 ∧ (P_X4_become p1 x3 x4 x7 (M 109 x6.toNatClampNeg) M (fun M4 => J107 x3 (1 : Int32) x6 x7 M4))))) → J78 x3 x4 x5 x6 x7 M) → (∀ (x3 : Int32) (x5 : Int32) (x6 : Int32) (x7 : Int32) (M : Mem), J17 x3 x7 x5 (x6 + (1 : Int32)) M → J107 x3 x5 x6 x7 M) → J17 (M (48 + p1) 0) (M (48 + p1) 1) (0 : Int32) (0 : Int32) M
set_option maxRecDepth 20000 in
set_option maxHeartbeats 4000000 in
theorem p_X6_leaveTo {G : Gx} {ad : Nat → Nat} {lf : Nat → Int64} (hA : Inj ad) {p1 : Nat} {p2 : Int32} {M : Mem} {Q : Mem → Prop} {QF : va_W → Prop} (hp1 : p1 < 60) (h : P_X6_leaveTo p1 p2 M Q) (hq : ∀ M, Q M → QF (wM ad (gc G) lf M)) : F_X6_leaveTo G (ad 0) (ad (48 + p1)) p2 (wM ad (gc G) lf M) QF := by
  intro J17 J78 J107 c17 c78 c107
  replace h := h (fun x3 x4 x5 x6 M => J17 x3 x4 x5 x6 (wM ad (gc G) lf M)) (fun x3 x4 x5 x6 x7 M => J78 x3 x4 x5 x6 x7 (wM ad (gc G) lf M)) (fun x3 x5 x6 x7 M => J107 x3 x5 x6 x7 (wM ad (gc G) lf M))
  replace h := h (by
    intro x3 x4 x5 x6 M h
    refine c17 _ _ _ _ _ ?_
    refine ⟨fun hc => ?_, fun hc => ?_⟩
    · replace h := h.1 hc
      exact hq _ h
    · replace h := h.2 hc
      refine ⟨fun hc => ?_, fun hc => ?_⟩
      · replace h := h.1 hc
        exact hq _ h
      · replace h := h.2 hc
        refine i_R (k := 0) fl_X6 rfl ?_
        refine i_R (k := 108) fl_X2 rfl ?_
        obtain ⟨hi, h⟩ := h
        refine i_A (k := 110) ar_110 hi ?_
        refine ⟨fun hc => ?_, fun hc => ?_⟩
        · replace h := h.1 hc
          exact h
        · replace h := h.2 hc
          refine ⟨fun hc => ?_, fun hc => ?_⟩
          · replace h := h.1 hc
            exact h
          · replace h := h.2 hc
            refine i_R (k := 0) fl_X6 rfl ?_
            refine i_R (k := 108) fl_X2 rfl ?_
            obtain ⟨hi, h⟩ := h
            refine i_A (k := 109) ar_109 hi ?_
            refine ⟨i_V (k := 0) fl_X6, p_X6_addShare hA h (fun M1 h => ?_)⟩
            exact h)
  replace h := h (by
    intro x3 x4 x5 x6 x7 M h
    refine c78 _ _ _ _ _ _ ?_
    refine ⟨fun hc => ?_, fun hc => ?_⟩
    · replace h := h.1 hc
      exact h
    · replace h := h.2 hc
      refine i_R (k := 0) fl_X6 rfl ?_
      refine i_R (k := 108) fl_X2 rfl ?_
      obtain ⟨hi, h⟩ := h
      refine i_A (k := 109) ar_109 hi ?_
      refine ⟨i_V (k := (48 + p1)) (fl_S hp1), p_X4_become hA hp1 h (fun M4 h => ?_)⟩
      exact h)
  replace h := h (by
    intro x3 x5 x6 x7 M h
    refine c107 _ _ _ _ _ ?_
    exact h)
  refine i_I (k := (48 + p1)) (fl_S hp1) rfl ?_
  refine i_I (k := (48 + p1)) (fl_S hp1) rfl ?_
  exact h
def P_X6_heirs (p1 : Int32) (p2 : Int32) (p3 : Int32) (p4 : Int32) (p5 : Int32) (p6 : Int32) (p7 : Int32) (p8 : Int32) (p9 : Int32) (p10 : Int32) (M : Mem) (Q : Int32 → Mem → Prop) (X : String → Mem → Prop) : Prop := (P_X6_unletAt p1 M (fun r2 M1 => (P_X2_name (0 : Int32) p3 p4 M1 (fun M4 => (P_X2_name (1 : Int32) p5 p6 M4 (fun M7 => (P_X2_name (2 : Int32) p7 p8 M7 (fun M10 => (P_X2_name (3 : Int32) p9 p10 M10 (fun M13 => (P_X6_isWithin p2 (2 : Int32) (4 : Int32) M13 (fun r17 M16 => ((r17 = 0 → X "java/lang/IllegalArgumentException" M16) ∧ (¬ r17 = 0 → (P_X2_firstStand p2 M16 (fun r20 M19 => ((¬ r20 = 0 → (P_X2_partLength ((M19 (48 + r2) 2) - (M19 (48 + r2) 1)) p2 M19 (fun r23 M22 => (((((M22 0 11) + r23) - (1 : Int32)) ≤ (60 : Int32) → (P_X6_leaveTo r2 p2 M22 (fun M25 => Q r23 M25))) ∧ (¬ (((M22 0 11) + r23) - (1 : Int32)) ≤ (60 : Int32) → X "java/lang/UnsupportedOperationException" M22))))) ∧ (r20 = 0 → X "java/lang/IllegalArgumentException" M19))))))))))))))))) X)
set_option maxRecDepth 20000 in
set_option maxHeartbeats 4000000 in
theorem p_X6_heirs {G : Gx} {ad : Nat → Nat} {lf : Nat → Int64} (hA : Inj ad) {p1 : Int32} {p2 : Int32} {p3 : Int32} {p4 : Int32} {p5 : Int32} {p6 : Int32} {p7 : Int32} {p8 : Int32} {p9 : Int32} {p10 : Int32} {M : Mem} {Q : Int32 → Mem → Prop} {X : String → Mem → Prop} {QF : Int32 → va_W → Prop} {XF : String → va_W → Prop}  (h : P_X6_heirs p1 p2 p3 p4 p5 p6 p7 p8 p9 p10 M Q X) (hq : ∀ r M, Q r M → QF r (wM ad (gc G) lf M)) (hx : ∀ E M, X E M → XF E (wM ad (gc G) lf M)) : F_X6_heirs G (ad 0) p1 p2 p3 p4 p5 p6 p7 p8 p9 p10 (wM ad (gc G) lf M) QF XF := by
  unfold P_X6_heirs at h
  unfold F_X6_heirs
  refine ⟨i_V (k := 0) fl_X6, p_X6_unletAt hA h (fun r2 M1 hb3 h => ?_) (fun E M h => hx _ _ h)⟩
  refine i_R (k := 0) fl_X6 rfl ?_
  refine ⟨i_V (k := 108) fl_X2, p_X2_name hA h (fun M4 h => ?_)⟩
  refine i_R (k := 0) fl_X6 rfl ?_
  refine ⟨i_V (k := 108) fl_X2, p_X2_name hA h (fun M7 h => ?_)⟩
  refine i_R (k := 0) fl_X6 rfl ?_
  refine ⟨i_V (k := 108) fl_X2, p_X2_name hA h (fun M10 h => ?_)⟩
  refine i_R (k := 0) fl_X6 rfl ?_
  refine ⟨i_V (k := 108) fl_X2, p_X2_name hA h (fun M13 h => ?_)⟩
  refine p_X6_isWithin hA h (fun r17 M16 h => ?_)
  refine ⟨fun hc => ?_, fun hc => ?_⟩
  · replace h := h.1 hc
    exact hx _ _ h
  · replace h := h.2 hc
    refine i_R (k := 0) fl_X6 rfl ?_
    refine ⟨i_V (k := 108) fl_X2, p_X2_firstStand hA h (fun r20 M19 h => ?_)⟩
    refine ⟨fun hc => ?_, fun hc => ?_⟩
    · replace h := h.1 hc
      refine i_R (k := 0) fl_X6 rfl ?_
      refine i_I (k := (48 + r2)) (fl_S hb3) rfl ?_
      refine i_I (k := (48 + r2)) (fl_S hb3) rfl ?_
      refine ⟨i_V (k := 108) fl_X2, p_X2_partLength hA h (fun r23 M22 h => ?_)⟩
      refine i_I (k := 0) fl_X6 rfl ?_
      refine ⟨fun hc => ?_, fun hc => ?_⟩
      · replace h := h.1 hc
        refine ⟨i_V (k := 0) fl_X6, p_X6_leaveTo hA hb3 h (fun M25 h => ?_)⟩
        exact hq _ _ h
      · replace h := h.2 hc
        exact hx _ _ h
    · replace h := h.2 hc
      exact hx _ _ h
def P_X6_let (p1 : Int32) (p2 : Int32) (p3 : Int32) (p4 : Int32) (M : Mem) (Q : Mem → Prop) (X : String → Mem → Prop) : Prop := (P_X6_unletAt p1 M (fun r2 M1 => (P_X6_isOwner p2 M1 (fun r5 M4 => ((r5 = 0 → X "java/lang/IllegalArgumentException" M4) ∧ (¬ r5 = 0 → ((p2 = (M4 (48 + r2) 3) → X "java/lang/IllegalArgumentException" M4) ∧ (¬ p2 = (M4 (48 + r2) 3) → ((p3 < (M4 0 12) → X "java/lang/IllegalArgumentException" M4) ∧ (¬ p3 < (M4 0 12) → ((p4 ≤ p3 → X "java/lang/IllegalArgumentException" M4) ∧ (¬ p4 ≤ p3 → ((p4 ≤ (100000000 : Int32) → pW (48 + r2) 4 p2 M4 (fun M7 => pW (48 + r2) 5 p3 M7 (fun M8 => pW (48 + r2) 6 p4 M8 (fun M9 => Q M9)))) ∧ (¬ p4 ≤ (100000000 : Int32) → X "java/lang/IllegalArgumentException" M4))))))))))))) X)
set_option maxRecDepth 20000 in
set_option maxHeartbeats 4000000 in
theorem p_X6_let {G : Gx} {ad : Nat → Nat} {lf : Nat → Int64} (hA : Inj ad) {p1 : Int32} {p2 : Int32} {p3 : Int32} {p4 : Int32} {M : Mem} {Q : Mem → Prop} {X : String → Mem → Prop} {QF : va_W → Prop} {XF : String → va_W → Prop}  (h : P_X6_let p1 p2 p3 p4 M Q X) (hq : ∀ M, Q M → QF (wM ad (gc G) lf M)) (hx : ∀ E M, X E M → XF E (wM ad (gc G) lf M)) : F_X6_let G (ad 0) p1 p2 p3 p4 (wM ad (gc G) lf M) QF XF := by
  unfold P_X6_let at h
  unfold F_X6_let
  refine ⟨i_V (k := 0) fl_X6, p_X6_unletAt hA h (fun r2 M1 hb3 h => ?_) (fun E M h => hx _ _ h)⟩
  refine p_X6_isOwner hA h (fun r5 M4 h => ?_)
  refine ⟨fun hc => ?_, fun hc => ?_⟩
  · replace h := h.1 hc
    exact hx _ _ h
  · replace h := h.2 hc
    refine i_I (k := (48 + r2)) (fl_S hb3) rfl ?_
    refine ⟨fun hc => ?_, fun hc => ?_⟩
    · replace h := h.1 hc
      exact hx _ _ h
    · replace h := h.2 hc
      refine i_I (k := 0) fl_X6 rfl ?_
      refine ⟨fun hc => ?_, fun hc => ?_⟩
      · replace h := h.1 hc
        exact hx _ _ h
      · replace h := h.2 hc
        refine ⟨fun hc => ?_, fun hc => ?_⟩
        · replace h := h.1 hc
          exact hx _ _ h
        · replace h := h.2 hc
          refine ⟨fun hc => ?_, fun hc => ?_⟩
          · replace h := h.1 hc
            refine i_P (k := (48 + r2)) (fl_S hb3) rfl ?_
            replace h := pW_at h
            generalize hM : mup M4 (48 + r2) 4 p2 = M7 at h ⊢
            clear hM
            refine i_P (k := (48 + r2)) (fl_S hb3) rfl ?_
            replace h := pW_at h
            generalize hM : mup M7 (48 + r2) 5 p3 = M8 at h ⊢
            clear hM
            refine i_P (k := (48 + r2)) (fl_S hb3) rfl ?_
            replace h := pW_at h
            generalize hM : mup M8 (48 + r2) 6 p4 = M9 at h ⊢
            clear hM
            exact hq _ h
          · replace h := h.2 hc
            exact hx _ _ h
def P_X6_minutes (p1 : Int32) (M : Mem) (Q : Int32 → Mem → Prop) (X : String → Mem → Prop) : Prop := (P_X6_isWithin p1 (0 : Int32) (100000 : Int32) M (fun r2 M1 => ((¬ r2 = 0 → pW 0 12 ((M1 0 12) + p1) M1 (fun M4 => Q (M4 0 12) M4)) ∧ (r2 = 0 → X "java/lang/IllegalArgumentException" M1))))
set_option maxRecDepth 20000 in
set_option maxHeartbeats 4000000 in
theorem p_X6_minutes {G : Gx} {ad : Nat → Nat} {lf : Nat → Int64} (hA : Inj ad) {p1 : Int32} {M : Mem} {Q : Int32 → Mem → Prop} {X : String → Mem → Prop} {QF : Int32 → va_W → Prop} {XF : String → va_W → Prop}  (h : P_X6_minutes p1 M Q X) (hq : ∀ r M, Q r M → QF r (wM ad (gc G) lf M)) (hx : ∀ E M, X E M → XF E (wM ad (gc G) lf M)) : F_X6_minutes G (ad 0) p1 (wM ad (gc G) lf M) QF XF := by
  unfold P_X6_minutes at h
  unfold F_X6_minutes
  refine p_X6_isWithin hA h (fun r2 M1 h => ?_)
  refine ⟨fun hc => ?_, fun hc => ?_⟩
  · replace h := h.1 hc
    refine i_I (k := 0) fl_X6 rfl ?_
    refine i_P (k := 0) fl_X6 rfl ?_
    replace h := pW_at h
    generalize hM : mup M1 0 12 ((M1 0 12) + p1) = M4 at h ⊢
    clear hM
    refine i_I (k := 0) fl_X6 rfl ?_
    exact hq _ _ h
  · replace h := h.2 hc
    exact hx _ _ h
def P_X4_heldBy (p0 : Nat) (p1 : Int32) (M : Mem) (Q : Int32 → Mem → Prop) : Prop := ∀ (J23 : Mem → Prop), (∀ (M : Mem), Q (M (48 + p0) 3) M → J23 M) → ((p1 < (M (48 + p0) 5) → J23 M) ∧ (¬ p1 < (M (48 + p0) 5) → (((M (48 + p0) 6) ≤ p1 → J23 M) ∧ (¬ (M (48 + p0) 6) ≤ p1 → Q (M (48 + p0) 4) M))))
set_option maxRecDepth 20000 in
set_option maxHeartbeats 4000000 in
theorem p_X4_heldBy {G : Gx} {ad : Nat → Nat} {lf : Nat → Int64} (hA : Inj ad) {p0 : Nat} {p1 : Int32} {M : Mem} {Q : Int32 → Mem → Prop} {QF : Int32 → va_W → Prop} (hp0 : p0 < 60) (h : P_X4_heldBy p0 p1 M Q) (hq : ∀ r M, Q r M → QF r (wM ad (gc G) lf M)) : F_X4_heldBy G (ad (48 + p0)) p1 (wM ad (gc G) lf M) QF := by
  intro J23 c23
  replace h := h (fun M => J23 (wM ad (gc G) lf M))
  replace h := h (by
    intro M h
    refine c23  _ ?_
    refine i_I (k := (48 + p0)) (fl_S hp0) rfl ?_
    exact hq _ _ h)
  refine i_I (k := (48 + p0)) (fl_S hp0) rfl ?_
  refine ⟨fun hc => ?_, fun hc => ?_⟩
  · replace h := h.1 hc
    exact h
  · replace h := h.2 hc
    refine i_I (k := (48 + p0)) (fl_S hp0) rfl ?_
    refine ⟨fun hc => ?_, fun hc => ?_⟩
    · replace h := h.1 hc
      exact h
    · replace h := h.2 hc
      refine i_I (k := (48 + p0)) (fl_S hp0) rfl ?_
      exact hq _ _ h
def P_X6_holder (p1 : Int32) (p2 : Int32) (M : Mem) (Q : Int32 → Mem → Prop) (X : String → Mem → Prop) : Prop := ∀ (J40 : Int32 → Int32 → Mem → Prop), ∀ (J94 : Int32 → Int32 → Mem → Prop), (∀ (x4 : Int32) (x5 : Int32) (M : Mem), (((M 0 11) ≤ x5 → Q (-1 : Int32) M) ∧ (¬ (M 0 11) ≤ x5 → (vp_in x5 60 ∧ ((¬ (M (48 + (x5.toNatClampNeg)) 0) = p1 → J94 x4 x5 M) ∧ ((M (48 + (x5.toNatClampNeg)) 0) = p1 → ((x4 < (M (48 + (x5.toNatClampNeg)) 1) → J94 x4 x5 M) ∧ (¬ x4 < (M (48 + (x5.toNatClampNeg)) 1) → (((M (48 + (x5.toNatClampNeg)) 2) ≤ x4 → J94 x4 x5 M) ∧ (¬ (M (48 + (x5.toNatClampNeg)) 2) ≤ x4 → (P_X4_heldBy (x5.toNatClampNeg) p2 M (fun r6 M5 => Q r6 M5))))))))))) → J40 x4 x5 M) → (∀ (x4 : Int32) (x5 : Int32) (M : Mem), J40 x4 (x5 + (1 : Int32)) M → J94 x4 x5 M) → (P_X6_channelAt p1 M (fun r2 M1 => ((0 ≤ p2 → ((0 < (M1 (7 + 5 * r2) 5) → (¬ (M1 (7 + 5 * r2) 5) = 0 ∧ (J40 (p2 - p2 / (M1 (7 + 5 * r2) 5) * (M1 (7 + 5 * r2) 5)) (0 : Int32) M1))) ∧ (¬ 0 < (M1 (7 + 5 * r2) 5) → Q (-1 : Int32) M1))) ∧ (¬ 0 ≤ p2 → X "java/lang/IllegalArgumentException" M1))) X)
set_option maxRecDepth 20000 in
set_option maxHeartbeats 4000000 in
theorem p_X6_holder {G : Gx} {ad : Nat → Nat} {lf : Nat → Int64} (hA : Inj ad) {p1 : Int32} {p2 : Int32} {M : Mem} {Q : Int32 → Mem → Prop} {X : String → Mem → Prop} {QF : Int32 → va_W → Prop} {XF : String → va_W → Prop}  (h : P_X6_holder p1 p2 M Q X) (hq : ∀ r M, Q r M → QF r (wM ad (gc G) lf M)) (hx : ∀ E M, X E M → XF E (wM ad (gc G) lf M)) : F_X6_holder G (ad 0) p1 p2 (wM ad (gc G) lf M) QF XF := by
  intro J40 J94 c40 c94
  replace h := h (fun x4 x5 M => J40 x4 x5 (wM ad (gc G) lf M)) (fun x4 x5 M => J94 x4 x5 (wM ad (gc G) lf M))
  replace h := h (by
    intro x4 x5 M h
    refine c40 _ _ _ ?_
    refine i_I (k := 0) fl_X6 rfl ?_
    refine ⟨fun hc => ?_, fun hc => ?_⟩
    · replace h := h.1 hc
      exact hq _ _ h
    · replace h := h.2 hc
      refine i_R (k := 0) fl_X6 rfl ?_
      obtain ⟨hi4, h⟩ := h
      refine i_QS hi4 ?_
      refine i_I (k := (48 + (x5.toNatClampNeg))) (fl_S (vp_lt hi4)) rfl ?_
      refine ⟨fun hc => ?_, fun hc => ?_⟩
      · replace h := h.1 hc
        exact h
      · replace h := h.2 hc
        refine i_I (k := (48 + (x5.toNatClampNeg))) (fl_S (vp_lt hi4)) rfl ?_
        refine ⟨fun hc => ?_, fun hc => ?_⟩
        · replace h := h.1 hc
          exact h
        · replace h := h.2 hc
          refine i_I (k := (48 + (x5.toNatClampNeg))) (fl_S (vp_lt hi4)) rfl ?_
          refine ⟨fun hc => ?_, fun hc => ?_⟩
          · replace h := h.1 hc
            exact h
          · replace h := h.2 hc
            refine ⟨i_V (k := (48 + (x5.toNatClampNeg))) (fl_S (vp_lt hi4)), p_X4_heldBy hA (vp_lt hi4) h (fun r6 M5 h => ?_)⟩
            exact hq _ _ h)
  replace h := h (by
    intro x4 x5 M h
    refine c94 _ _ _ ?_
    exact h)
  refine ⟨i_V (k := 0) fl_X6, p_X6_channelAt hA h (fun r2 M1 hb3 h => ?_) (fun E M h => hx _ _ h)⟩
  refine ⟨fun hc => ?_, fun hc => ?_⟩
  · replace h := h.1 hc
    refine i_I (k := (7 + 5 * r2)) (fl_C hb3) rfl ?_
    refine ⟨fun hc => ?_, fun hc => ?_⟩
    · replace h := h.1 hc
      refine i_I (k := (7 + 5 * r2)) (fl_C hb3) rfl ?_
      obtain ⟨hz, h⟩ := h
      refine ⟨hz, ?_⟩
      exact h
    · replace h := h.2 hc
      exact hq _ _ h
  · replace h := h.2 hc
    exact hx _ _ h
def P_X6_share (p1 : Int32) (p2 : Int32) (M : Mem) (Q : Int32 → Mem → Prop) (X : String → Mem → Prop) : Prop := (P_X6_shareAt p1 M (fun r2 M1 => ((p2 = (0 : Int32) → Q (M1 (48 + r2) 0) M1) ∧ (p2 = (1 : Int32) → Q (M1 (48 + r2) 1) M1) ∧ (p2 = (2 : Int32) → Q (M1 (48 + r2) 2) M1) ∧ (p2 = (3 : Int32) → Q (M1 (48 + r2) 3) M1) ∧ (p2 = (4 : Int32) → (P_X4_isLetFrom r2 (M1 0 12) M1 (fun r5 M4 => ((r5 = 0 → Q (0 : Int32) M4) ∧ (¬ r5 = 0 → Q (1 : Int32) M4))))) ∧ ((p2.toInt < 0 ∨ (4 : Int) < p2.toInt) → X "java/util/NoSuchElementException" M1))) X)
set_option maxRecDepth 20000 in
set_option maxHeartbeats 4000000 in
theorem p_X6_share {G : Gx} {ad : Nat → Nat} {lf : Nat → Int64} (hA : Inj ad) {p1 : Int32} {p2 : Int32} {M : Mem} {Q : Int32 → Mem → Prop} {X : String → Mem → Prop} {QF : Int32 → va_W → Prop} {XF : String → va_W → Prop}  (h : P_X6_share p1 p2 M Q X) (hq : ∀ r M, Q r M → QF r (wM ad (gc G) lf M)) (hx : ∀ E M, X E M → XF E (wM ad (gc G) lf M)) : F_X6_share G (ad 0) p1 p2 (wM ad (gc G) lf M) QF XF := by
  unfold P_X6_share at h
  unfold F_X6_share
  refine ⟨i_V (k := 0) fl_X6, p_X6_shareAt hA h (fun r2 M1 hb3 h => ?_) (fun E M h => hx _ _ h)⟩
  refine ⟨fun hc => ?_, fun hc => ?_, fun hc => ?_, fun hc => ?_, fun hc => ?_, fun hc => ?_⟩
  · replace h := h.1 hc
    refine i_I (k := (48 + r2)) (fl_S hb3) rfl ?_
    exact hq _ _ h
  · replace h := h.2.1 hc
    refine i_I (k := (48 + r2)) (fl_S hb3) rfl ?_
    exact hq _ _ h
  · replace h := h.2.2.1 hc
    refine i_I (k := (48 + r2)) (fl_S hb3) rfl ?_
    exact hq _ _ h
  · replace h := h.2.2.2.1 hc
    refine i_I (k := (48 + r2)) (fl_S hb3) rfl ?_
    exact hq _ _ h
  · replace h := h.2.2.2.2.1 hc
    refine i_I (k := 0) fl_X6 rfl ?_
    refine ⟨i_V (k := (48 + r2)) (fl_S hb3), p_X4_isLetFrom hA hb3 h (fun r5 M4 h => ?_)⟩
    refine ⟨fun hc => ?_, fun hc => ?_⟩
    · replace h := h.1 hc
      exact hq _ _ h
    · replace h := h.2 hc
      exact hq _ _ h
  · replace h := h.2.2.2.2.2 hc
    exact hx _ _ h
def P_X3_isLetter (p0 : Int32) (M : Mem) (Q : Int32 → Mem → Prop) : Prop := (P_X6_isWithin p0 (97 : Int32) (122 : Int32) M (fun r2 M1 => ((r2 = 0 ∨ r2 = 1) ∧ Q r2 M1)))
set_option maxRecDepth 20000 in
set_option maxHeartbeats 4000000 in
theorem p_X3_isLetter {G : Gx} {ad : Nat → Nat} {lf : Nat → Int64} (hA : Inj ad) {p0 : Int32} {M : Mem} {Q : Int32 → Mem → Prop} {QF : Int32 → va_W → Prop}  (h : P_X3_isLetter p0 M Q) (hq : ∀ r M, Q r M → QF r (wM ad (gc G) lf M)) : F_X3_isLetter G p0 (wM ad (gc G) lf M) QF := by
  unfold P_X3_isLetter at h
  unfold F_X3_isLetter
  refine p_X6_isWithin hA h (fun r2 M1 h => ?_)
  exact ⟨h.1, hq _ _ h.2⟩
def P_X3_isDigit (p0 : Int32) (M : Mem) (Q : Int32 → Mem → Prop) : Prop := (P_X6_isWithin p0 (48 : Int32) (57 : Int32) M (fun r2 M1 => ((r2 = 0 ∨ r2 = 1) ∧ Q r2 M1)))
set_option maxRecDepth 20000 in
set_option maxHeartbeats 4000000 in
theorem p_X3_isDigit {G : Gx} {ad : Nat → Nat} {lf : Nat → Int64} (hA : Inj ad) {p0 : Int32} {M : Mem} {Q : Int32 → Mem → Prop} {QF : Int32 → va_W → Prop}  (h : P_X3_isDigit p0 M Q) (hq : ∀ r M, Q r M → QF r (wM ad (gc G) lf M)) : F_X3_isDigit G p0 (wM ad (gc G) lf M) QF := by
  unfold P_X3_isDigit at h
  unfold F_X3_isDigit
  refine p_X6_isWithin hA h (fun r2 M1 h => ?_)
  exact ⟨h.1, hq _ _ h.2⟩
def P_X3_takeThing  (M : Mem) (Q : Mem → Prop) : Prop := ∀ (J8 : Mem → Prop), ∀ (J52 : Mem → Prop), ∀ (J60 : Mem → Prop), ∀ (J105 : Mem → Prop), ∀ (J117 : Mem → Prop), ∀ (J162 : Mem → Prop), (∀ (M : Mem), (((M 2 1) ≤ (M 1 2) → J52 M) ∧ (¬ (M 2 1) ≤ (M 1 2) → (vp_in (M 1 2) 400 ∧ ((¬ (M 3 (M 1 2).toNatClampNeg) = (32 : Int32) → J52 M) ∧ ((M 3 (M 1 2).toNatClampNeg) = (32 : Int32) → pW 1 2 ((M 1 2) + (1 : Int32)) M (fun M2 => J8 M2)))))) → J8 M) → (∀ (M : Mem), pW 1 3 (M 1 2) M (fun M3 => J60 M3) → J52 M) → (∀ (M : Mem), (((M 2 1) ≤ (M 1 3) → J105 M) ∧ (¬ (M 2 1) ≤ (M 1 3) → (vp_in (M 1 3) 400 ∧ (P_X3_isLetter (M 3 (M 1 3).toNatClampNeg) M (fun r5 M4 => ((r5 = 0 → J105 M4) ∧ (¬ r5 = 0 → pW 1 3 ((M4 1 3) + (1 : Int32)) M4 (fun M7 => J60 M7)))))))) → J60 M) → (∀ (M : Mem), (((M 1 3) ≤ (M 1 2) → J117 M) ∧ (¬ (M 1 3) ≤ (M 1 2) → Q M)) → J105 M) → (∀ (M : Mem), (((M 2 1) ≤ (M 1 3) → J162 M) ∧ (¬ (M 2 1) ≤ (M 1 3) → (vp_in (M 1 3) 400 ∧ (P_X3_isDigit (M 3 (M 1 3).toNatClampNeg) M (fun r9 M8 => ((r9 = 0 → J162 M8) ∧ (¬ r9 = 0 → pW 1 3 ((M8 1 3) + (1 : Int32)) M8 (fun M11 => J117 M11)))))))) → J117 M) → (∀ (M : Mem), ((¬ (M 1 3) = (M 1 2) → Q M) ∧ ((M 1 3) = (M 1 2) → (((M 2 1) ≤ (M 1 2) → Q M) ∧ (¬ (M 2 1) ≤ (M 1 2) → pW 1 3 ((M 1 3) + (1 : Int32)) M (fun M12 => Q M12))))) → J162 M) → pW 1 2 (M 1 3) M (fun M1 => J8 M1)
set_option maxRecDepth 20000 in
set_option maxHeartbeats 4000000 in
theorem p_X3_takeThing {G : Gx} {ad : Nat → Nat} {lf : Nat → Int64} (hA : Inj ad)  {M : Mem} {Q : Mem → Prop} {QF : va_W → Prop}  (h : P_X3_takeThing  M Q) (hq : ∀ M, Q M → QF (wM ad (gc G) lf M)) : F_X3_takeThing G (ad 1) (wM ad (gc G) lf M) QF := by
  intro J8 J52 J60 J105 J117 J162 c8 c52 c60 c105 c117 c162
  replace h := h (fun M => J8 (wM ad (gc G) lf M)) (fun M => J52 (wM ad (gc G) lf M)) (fun M => J60 (wM ad (gc G) lf M)) (fun M => J105 (wM ad (gc G) lf M)) (fun M => J117 (wM ad (gc G) lf M)) (fun M => J162 (wM ad (gc G) lf M))
  replace h := h (by
    intro M h
    refine c8  _ ?_
    refine i_I (k := 1) fl_X3 rfl ?_
    refine i_R (k := 1) fl_X3 rfl ?_
    refine i_I (k := 2) fl_X5 rfl ?_
    refine ⟨fun hc => ?_, fun hc => ?_⟩
    · replace h := h.1 hc
      exact h
    · replace h := h.2 hc
      refine i_R (k := 1) fl_X3 rfl ?_
      refine i_R (k := 2) fl_X5 rfl ?_
      refine i_I (k := 1) fl_X3 rfl ?_
      obtain ⟨hi, h⟩ := h
      refine i_A (k := 3) ar_3 hi ?_
      refine ⟨fun hc => ?_, fun hc => ?_⟩
      · replace h := h.1 hc
        exact h
      · replace h := h.2 hc
        refine i_I (k := 1) fl_X3 rfl ?_
        refine i_P (k := 1) fl_X3 rfl ?_
        replace h := pW_at h
        generalize hM : mup M 1 2 ((M 1 2) + (1 : Int32)) = M2 at h ⊢
        clear hM
        exact h)
  replace h := h (by
    intro M h
    refine c52  _ ?_
    refine i_I (k := 1) fl_X3 rfl ?_
    refine i_P (k := 1) fl_X3 rfl ?_
    replace h := pW_at h
    generalize hM : mup M 1 3 (M 1 2) = M3 at h ⊢
    clear hM
    exact h)
  replace h := h (by
    intro M h
    refine c60  _ ?_
    refine i_I (k := 1) fl_X3 rfl ?_
    refine i_R (k := 1) fl_X3 rfl ?_
    refine i_I (k := 2) fl_X5 rfl ?_
    refine ⟨fun hc => ?_, fun hc => ?_⟩
    · replace h := h.1 hc
      exact h
    · replace h := h.2 hc
      refine i_R (k := 1) fl_X3 rfl ?_
      refine i_R (k := 2) fl_X5 rfl ?_
      refine i_I (k := 1) fl_X3 rfl ?_
      obtain ⟨hi, h⟩ := h
      refine i_A (k := 3) ar_3 hi ?_
      refine p_X3_isLetter hA h (fun r5 M4 h => ?_)
      refine ⟨fun hc => ?_, fun hc => ?_⟩
      · replace h := h.1 hc
        exact h
      · replace h := h.2 hc
        refine i_I (k := 1) fl_X3 rfl ?_
        refine i_P (k := 1) fl_X3 rfl ?_
        replace h := pW_at h
        generalize hM : mup M4 1 3 ((M4 1 3) + (1 : Int32)) = M7 at h ⊢
        clear hM
        exact h)
  replace h := h (by
    intro M h
    refine c105  _ ?_
    refine i_I (k := 1) fl_X3 rfl ?_
    refine i_I (k := 1) fl_X3 rfl ?_
    refine ⟨fun hc => ?_, fun hc => ?_⟩
    · replace h := h.1 hc
      exact h
    · replace h := h.2 hc
      exact hq _ h)
  replace h := h (by
    intro M h
    refine c117  _ ?_
    refine i_I (k := 1) fl_X3 rfl ?_
    refine i_R (k := 1) fl_X3 rfl ?_
    refine i_I (k := 2) fl_X5 rfl ?_
    refine ⟨fun hc => ?_, fun hc => ?_⟩
    · replace h := h.1 hc
      exact h
    · replace h := h.2 hc
      refine i_R (k := 1) fl_X3 rfl ?_
      refine i_R (k := 2) fl_X5 rfl ?_
      refine i_I (k := 1) fl_X3 rfl ?_
      obtain ⟨hi, h⟩ := h
      refine i_A (k := 3) ar_3 hi ?_
      refine p_X3_isDigit hA h (fun r9 M8 h => ?_)
      refine ⟨fun hc => ?_, fun hc => ?_⟩
      · replace h := h.1 hc
        exact h
      · replace h := h.2 hc
        refine i_I (k := 1) fl_X3 rfl ?_
        refine i_P (k := 1) fl_X3 rfl ?_
        replace h := pW_at h
        generalize hM : mup M8 1 3 ((M8 1 3) + (1 : Int32)) = M11 at h ⊢
        clear hM
        exact h)
  replace h := h (by
    intro M h
    refine c162  _ ?_
    refine i_I (k := 1) fl_X3 rfl ?_
    refine i_I (k := 1) fl_X3 rfl ?_
    refine ⟨fun hc => ?_, fun hc => ?_⟩
    · replace h := h.1 hc
      exact hq _ h
    · replace h := h.2 hc
      refine i_I (k := 1) fl_X3 rfl ?_
      refine i_R (k := 1) fl_X3 rfl ?_
      refine i_I (k := 2) fl_X5 rfl ?_
      refine ⟨fun hc => ?_, fun hc => ?_⟩
      · replace h := h.1 hc
        exact hq _ h
      · replace h := h.2 hc
        refine i_I (k := 1) fl_X3 rfl ?_
        refine i_P (k := 1) fl_X3 rfl ?_
        replace h := pW_at h
        generalize hM : mup M 1 3 ((M 1 3) + (1 : Int32)) = M12 at h ⊢
        clear hM
        exact hq _ h)
  refine i_I (k := 1) fl_X3 rfl ?_
  refine i_P (k := 1) fl_X3 rfl ?_
  replace h := pW_at h
  generalize hM : mup M 1 2 (M 1 3) = M1 at h ⊢
  clear hM
  exact h
def P_X3_isWord (p1 : Nat) (M : Mem) (Q : Int32 → Mem → Prop) : Prop := ∀ (J20 : Int32 → Mem → Prop), (∀ (x2 : Int32) (M : Mem), (((nI (wLen.getD p1 0)) ≤ x2 → Q (1 : Int32) M) ∧ (¬ (nI (wLen.getD p1 0)) ≤ x2 → (vp_in ((M 1 2) + x2) 400 ∧ (vp_in x2 (wLen.getD p1 0) ∧ (((M 3 ((M 1 2) + x2).toNatClampNeg) = ((wByt.getD p1 []).getD x2.toNatClampNeg 0) → J20 (x2 + (1 : Int32)) M) ∧ (¬ (M 3 ((M 1 2) + x2).toNatClampNeg) = ((wByt.getD p1 []).getD x2.toNatClampNeg 0) → Q (0 : Int32) M)))))) → J20 x2 M) → ((((M 1 3) - (M 1 2)) = (nI (wLen.getD p1 0)) → J20 (0 : Int32) M) ∧ (¬ ((M 1 3) - (M 1 2)) = (nI (wLen.getD p1 0)) → Q (0 : Int32) M))
set_option maxRecDepth 20000 in
set_option maxHeartbeats 4000000 in
theorem p_X3_isWord {G : Gx} {ad : Nat → Nat} {lf : Nat → Int64} (hA : Inj ad) {p1 : Nat} {M : Mem} {Q : Int32 → Mem → Prop} {QF : Int32 → va_W → Prop} (hp1 : p1 < 6) (h : P_X3_isWord p1 M Q) (hq : ∀ r M, Q r M → QF r (wM ad (gc G) lf M)) : F_X3_isWord G (ad 1) (gk G p1) (wM ad (gc G) lf M) QF := by
  intro J20 c20
  replace h := h (fun x2 M => J20 x2 (wM ad (gc G) lf M))
  replace h := h (by
    intro x2 M h
    refine c20 _ _ ?_
    refine i_Ln hp1 ?_
    refine ⟨fun hc => ?_, fun hc => ?_⟩
    · replace h := h.1 hc
      exact hq _ _ h
    · replace h := h.2 hc
      refine i_R (k := 1) fl_X3 rfl ?_
      refine i_R (k := 2) fl_X5 rfl ?_
      refine i_I (k := 1) fl_X3 rfl ?_
      obtain ⟨hi, h⟩ := h
      refine i_A (k := 3) ar_3 hi ?_
      obtain ⟨hi, h⟩ := h
      refine i_Ch hp1 hi ?_
      refine ⟨fun hc => ?_, fun hc => ?_⟩
      · replace h := h.1 hc
        exact h
      · replace h := h.2 hc
        exact hq _ _ h)
  refine i_I (k := 1) fl_X3 rfl ?_
  refine i_I (k := 1) fl_X3 rfl ?_
  refine i_Ln hp1 ?_
  refine ⟨fun hc => ?_, fun hc => ?_⟩
  · replace h := h.1 hc
    exact h
  · replace h := h.2 hc
    exact hq _ _ h
def P_X3_isNumber (p1 : Int32) (p2 : Int32) (M : Mem) (Q : Int32 → Mem → Prop) : Prop := ∀ (J59 : Int32 → Int32 → Mem → Prop), (∀ (x3 : Int32) (x4 : Int32) (M : Mem), (((M 1 3) ≤ x4 → ((x3 ≤ p2 → (vp_in p1 4 ∧ pW 4 p1.toNatClampNeg x3 M (fun M7 => Q (1 : Int32) M7))) ∧ (¬ x3 ≤ p2 → Q (0 : Int32) M))) ∧ (¬ (M 1 3) ≤ x4 → (vp_in x4 400 ∧ J59 (((x3 * (10 : Int32)) + (M 3 x4.toNatClampNeg)) - (48 : Int32)) (x4 + (1 : Int32)) M))) → J59 x3 x4 M) → (P_X3_takeThing M (fun M1 => (((M1 2 1) ≤ (M1 1 2) → Q (0 : Int32) M1) ∧ (¬ (M1 2 1) ≤ (M1 1 2) → (vp_in (M1 1 2) 400 ∧ (P_X3_isDigit (M1 3 (M1 1 2).toNatClampNeg) M1 (fun r5 M4 => ((r5 = 0 → Q (0 : Int32) M4) ∧ (¬ r5 = 0 → ((((M4 1 3) - (M4 1 2)) ≤ (4 : Int32) → J59 (0 : Int32) (M4 1 2) M4) ∧ (¬ ((M4 1 3) - (M4 1 2)) ≤ (4 : Int32) → Q (0 : Int32) M4)))))))))))
set_option maxRecDepth 20000 in
set_option maxHeartbeats 4000000 in
theorem p_X3_isNumber {G : Gx} {ad : Nat → Nat} {lf : Nat → Int64} (hA : Inj ad) {p1 : Int32} {p2 : Int32} {M : Mem} {Q : Int32 → Mem → Prop} {QF : Int32 → va_W → Prop}  (h : P_X3_isNumber p1 p2 M Q) (hq : ∀ r M, Q r M → QF r (wM ad (gc G) lf M)) : F_X3_isNumber G (ad 1) p1 p2 (wM ad (gc G) lf M) QF := by
  intro J59 c59
  replace h := h (fun x3 x4 M => J59 x3 x4 (wM ad (gc G) lf M))
  replace h := h (by
    intro x3 x4 M h
    refine c59 _ _ _ ?_
    refine i_I (k := 1) fl_X3 rfl ?_
    refine ⟨fun hc => ?_, fun hc => ?_⟩
    · replace h := h.1 hc
      refine ⟨fun hc => ?_, fun hc => ?_⟩
      · replace h := h.1 hc
        refine i_R (k := 1) fl_X3 rfl ?_
        obtain ⟨hi, h⟩ := h
        refine i_S (k := 4) ar_4 hi ?_
        replace h := pW_at h
        generalize hM : mup M 4 p1.toNatClampNeg x3 = M7 at h ⊢
        clear hM
        exact hq _ _ h
      · replace h := h.2 hc
        exact hq _ _ h
    · replace h := h.2 hc
      refine i_R (k := 1) fl_X3 rfl ?_
      refine i_R (k := 2) fl_X5 rfl ?_
      obtain ⟨hi, h⟩ := h
      refine i_A (k := 3) ar_3 hi ?_
      exact h)
  refine ⟨i_V (k := 1) fl_X3, p_X3_takeThing hA h (fun M1 h => ?_)⟩
  refine i_I (k := 1) fl_X3 rfl ?_
  refine i_R (k := 1) fl_X3 rfl ?_
  refine i_I (k := 2) fl_X5 rfl ?_
  refine ⟨fun hc => ?_, fun hc => ?_⟩
  · replace h := h.1 hc
    exact hq _ _ h
  · replace h := h.2 hc
    refine i_R (k := 1) fl_X3 rfl ?_
    refine i_R (k := 2) fl_X5 rfl ?_
    refine i_I (k := 1) fl_X3 rfl ?_
    obtain ⟨hi, h⟩ := h
    refine i_A (k := 3) ar_3 hi ?_
    refine p_X3_isDigit hA h (fun r5 M4 h => ?_)
    refine ⟨fun hc => ?_, fun hc => ?_⟩
    · replace h := h.1 hc
      exact hq _ _ h
    · replace h := h.2 hc
      refine i_I (k := 1) fl_X3 rfl ?_
      refine i_I (k := 1) fl_X3 rfl ?_
      refine ⟨fun hc => ?_, fun hc => ?_⟩
      · replace h := h.1 hc
        refine i_I (k := 1) fl_X3 rfl ?_
        exact h
      · replace h := h.2 hc
        exact hq _ _ h
def P_X3_isPayment  (M : Mem) (Q : Int32 → Mem → Prop) : Prop := ∀ (J26 : Int32 → Mem → Prop), ∀ (J40 : Int32 → Int32 → Mem → Prop), (∀ (x1 : Int32) (M : Mem), ((x1 = 0 → J40 (0 : Int32) (2 : Int32) M) ∧ (¬ x1 = 0 → J40 (1 : Int32) (2 : Int32) M)) → J26 x1 M) → (∀ (t0 : Int32) (t1 : Int32) (M : Mem), (vp_in t1 4 ∧ pW 4 t1.toNatClampNeg t0 M (fun M10 => Q (1 : Int32) M10)) → J40 t0 t1 M) → (P_X3_takeThing M (fun M1 => (P_X3_isWord 4 M1 (fun r5 M4 => ((¬ r5 = 0 → J26 r5 M4) ∧ (r5 = 0 → (P_X3_isWord 5 M4 (fun r8 M7 => ((¬ r8 = 0 → J26 r5 M7) ∧ (r8 = 0 → Q (0 : Int32) M7))))))))))
set_option maxRecDepth 20000 in
set_option maxHeartbeats 4000000 in
theorem p_X3_isPayment {G : Gx} {ad : Nat → Nat} {lf : Nat → Int64} (hA : Inj ad)  {M : Mem} {Q : Int32 → Mem → Prop} {QF : Int32 → va_W → Prop}  (h : P_X3_isPayment  M Q) (hq : ∀ r M, Q r M → QF r (wM ad (gc G) lf M)) : F_X3_isPayment G (ad 1) (wM ad (gc G) lf M) QF := by
  intro J26 J40 c26 c40
  replace h := h (fun x1 M => J26 x1 (wM ad (gc G) lf M)) (fun t0 t1 M => J40 t0 t1 (ad 4) (wM ad (gc G) lf M))
  replace h := h (by
    intro x1 M h
    refine c26 _ _ ?_
    refine i_R (k := 1) fl_X3 rfl ?_
    refine ⟨fun hc => ?_, fun hc => ?_⟩
    · replace h := h.1 hc
      exact h
    · replace h := h.2 hc
      exact h)
  replace h := h (by
    intro t0 t1 M h
    refine c40 _ _ _ _ ?_
    obtain ⟨hi, h⟩ := h
    refine i_S (k := 4) ar_4 hi ?_
    replace h := pW_at h
    generalize hM : mup M 4 t1.toNatClampNeg t0 = M10 at h ⊢
    clear hM
    exact hq _ _ h)
  refine ⟨i_V (k := 1) fl_X3, p_X3_takeThing hA h (fun M1 h => ?_)⟩
  refine ⟨i_V (k := 1) fl_X3, p_X3_isWord hA (by decide) h (fun r5 M4 h => ?_)⟩
  refine ⟨fun hc => ?_, fun hc => ?_⟩
  · replace h := h.1 hc
    exact h
  · replace h := h.2 hc
    refine ⟨i_V (k := 1) fl_X3, p_X3_isWord hA (by decide) h (fun r8 M7 h => ?_)⟩
    refine ⟨fun hc => ?_, fun hc => ?_⟩
    · replace h := h.1 hc
      exact h
    · replace h := h.2 hc
      exact hq _ _ h
def P_X3_isTerm  (M : Mem) (Q : Int32 → Mem → Prop) : Prop := (P_X3_takeThing M (fun M1 => (P_X3_isWord 0 M1 (fun r5 M4 => ((r5 = 0 → (P_X3_isWord 1 M4 (fun r8 M7 => ((r8 = 0 → (P_X3_isWord 2 M7 (fun r11 M10 => ((r11 = 0 → (P_X3_isWord 3 M10 (fun r14 M13 => ((r14 = 0 → Q (0 : Int32) M13) ∧ (¬ r14 = 0 → (P_X3_isPayment M13 (fun r17 M16 => ((r17 = 0 → Q (0 : Int32) M16) ∧ (¬ r17 = 0 → Q (1 : Int32) M16))))))))) ∧ (¬ r11 = 0 → (P_X3_isNumber (3 : Int32) (100 : Int32) M10 (fun r20 M19 => ((r20 = 0 ∨ r20 = 1) ∧ Q r20 M19)))))))) ∧ (¬ r8 = 0 → (P_X3_isNumber (1 : Int32) (1000 : Int32) M7 (fun r23 M22 => ((r23 = 0 ∨ r23 = 1) ∧ Q r23 M22)))))))) ∧ (¬ r5 = 0 → (P_X3_isNumber (0 : Int32) (100 : Int32) M4 (fun r26 M25 => ((r26 = 0 ∨ r26 = 1) ∧ Q r26 M25)))))))))
set_option maxRecDepth 20000 in
set_option maxHeartbeats 4000000 in
theorem p_X3_isTerm {G : Gx} {ad : Nat → Nat} {lf : Nat → Int64} (hA : Inj ad)  {M : Mem} {Q : Int32 → Mem → Prop} {QF : Int32 → va_W → Prop}  (h : P_X3_isTerm  M Q) (hq : ∀ r M, Q r M → QF r (wM ad (gc G) lf M)) : F_X3_isTerm G (ad 1) (wM ad (gc G) lf M) QF := by
  unfold P_X3_isTerm at h
  unfold F_X3_isTerm
  refine ⟨i_V (k := 1) fl_X3, p_X3_takeThing hA h (fun M1 h => ?_)⟩
  refine ⟨i_V (k := 1) fl_X3, p_X3_isWord hA (by decide) h (fun r5 M4 h => ?_)⟩
  refine ⟨fun hc => ?_, fun hc => ?_⟩
  · replace h := h.1 hc
    refine ⟨i_V (k := 1) fl_X3, p_X3_isWord hA (by decide) h (fun r8 M7 h => ?_)⟩
    refine ⟨fun hc => ?_, fun hc => ?_⟩
    · replace h := h.1 hc
      refine ⟨i_V (k := 1) fl_X3, p_X3_isWord hA (by decide) h (fun r11 M10 h => ?_)⟩
      refine ⟨fun hc => ?_, fun hc => ?_⟩
      · replace h := h.1 hc
        refine ⟨i_V (k := 1) fl_X3, p_X3_isWord hA (by decide) h (fun r14 M13 h => ?_)⟩
        refine ⟨fun hc => ?_, fun hc => ?_⟩
        · replace h := h.1 hc
          exact hq _ _ h
        · replace h := h.2 hc
          refine ⟨i_V (k := 1) fl_X3, p_X3_isPayment hA h (fun r17 M16 h => ?_)⟩
          refine ⟨fun hc => ?_, fun hc => ?_⟩
          · replace h := h.1 hc
            exact hq _ _ h
          · replace h := h.2 hc
            exact hq _ _ h
      · replace h := h.2 hc
        refine ⟨i_V (k := 1) fl_X3, p_X3_isNumber hA h (fun r20 M19 h => ?_)⟩
        exact ⟨h.1, hq _ _ h.2⟩
    · replace h := h.2 hc
      refine ⟨i_V (k := 1) fl_X3, p_X3_isNumber hA h (fun r23 M22 h => ?_)⟩
      exact ⟨h.1, hq _ _ h.2⟩
  · replace h := h.2 hc
    refine ⟨i_V (k := 1) fl_X3, p_X3_isNumber hA h (fun r26 M25 h => ?_)⟩
    exact ⟨h.1, hq _ _ h.2⟩
def P_X3_readTerms  (M : Mem) (Q : Int32 → Mem → Prop) : Prop := ∀ (J18 : Int32 → Mem → Prop), (∀ (x2 : Int32) (M : Mem), (((400 : Int32) < x2 → Q (-1 : Int32) M) ∧ (¬ (400 : Int32) < x2 → (P_X3_isTerm M (fun r4 M3 => ((¬ r4 = 0 → (P_X3_takeThing M3 (fun M6 => (((M6 1 2) < (M6 2 1) → (vp_in (M6 1 2) 400 ∧ (((M6 3 (M6 1 2).toNatClampNeg) = (59 : Int32) → J18 (x2 + (1 : Int32)) M6) ∧ (¬ (M6 3 (M6 1 2).toNatClampNeg) = (59 : Int32) → Q (-1 : Int32) M6)))) ∧ (¬ (M6 1 2) < (M6 2 1) → Q x2 M6))))) ∧ (r4 = 0 → Q (-1 : Int32) M3)))))) → J18 x2 M) → pC 5 4 M (fun M1 => pW 1 3 (0 : Int32) M1 (fun M2 => J18 (1 : Int32) M2))
set_option maxRecDepth 20000 in
set_option maxHeartbeats 4000000 in
theorem p_X3_readTerms {G : Gx} {ad : Nat → Nat} {lf : Nat → Int64} (hA : Inj ad)  {M : Mem} {Q : Int32 → Mem → Prop} {QF : Int32 → va_W → Prop}  (h : P_X3_readTerms  M Q) (hq : ∀ r M, Q r M → QF r (wM ad (gc G) lf M)) : F_X3_readTerms G (ad 1) (ad 5) (wM ad (gc G) lf M) QF := by
  intro J18 c18
  replace h := h (fun x2 M => J18 x2 (wM ad (gc G) lf M))
  replace h := h (by
    intro x2 M h
    refine c18 _ _ ?_
    refine ⟨fun hc => ?_, fun hc => ?_⟩
    · replace h := h.1 hc
      exact hq _ _ h
    · replace h := h.2 hc
      refine ⟨i_V (k := 1) fl_X3, p_X3_isTerm hA h (fun r4 M3 h => ?_)⟩
      refine ⟨fun hc => ?_, fun hc => ?_⟩
      · replace h := h.1 hc
        refine ⟨i_V (k := 1) fl_X3, p_X3_takeThing hA h (fun M6 h => ?_)⟩
        refine i_I (k := 1) fl_X3 rfl ?_
        refine i_R (k := 1) fl_X3 rfl ?_
        refine i_I (k := 2) fl_X5 rfl ?_
        refine ⟨fun hc => ?_, fun hc => ?_⟩
        · replace h := h.1 hc
          refine i_R (k := 1) fl_X3 rfl ?_
          refine i_R (k := 2) fl_X5 rfl ?_
          refine i_I (k := 1) fl_X3 rfl ?_
          obtain ⟨hi, h⟩ := h
          refine i_A (k := 3) ar_3 hi ?_
          refine ⟨fun hc => ?_, fun hc => ?_⟩
          · replace h := h.1 hc
            exact h
          · replace h := h.2 hc
            exact hq _ _ h
        · replace h := h.2 hc
          exact hq _ _ h
      · replace h := h.2 hc
        exact hq _ _ h)
  refine i_R (k := 1) fl_X3 rfl ?_
  refine i_C (k0 := 5) (k1 := 4) ar_5 ar_4 ?_
  replace h := pC_at h
  generalize hM : mcp M 5 4 = M1 at h ⊢
  clear hM
  refine i_P (k := 1) fl_X3 rfl ?_
  replace h := pW_at h
  generalize hM : mup M1 1 3 (0 : Int32) = M2 at h ⊢
  clear hM
  exact h
def P_X6_law  (M : Mem) (Q : Int32 → Mem → Prop) (X : String → Mem → Prop) : Prop := (P_X3_readTerms M (fun r2 M1 => pW 2 1 (0 : Int32) M1 (fun M4 => ((¬ r2 = (-1 : Int32) → pW 0 3 (-1 : Int32) M4 (fun M5 => pC 4 5 M5 (fun M6 => Q r2 M6))) ∧ (r2 = (-1 : Int32) → pW 0 3 (M4 1 2) M4 (fun M7 => X "java/lang/IllegalArgumentException" M7))))))
set_option maxRecDepth 20000 in
set_option maxHeartbeats 4000000 in
theorem p_X6_law {G : Gx} {ad : Nat → Nat} {lf : Nat → Int64} (hA : Inj ad)  {M : Mem} {Q : Int32 → Mem → Prop} {X : String → Mem → Prop} {QF : Int32 → va_W → Prop} {XF : String → va_W → Prop}  (h : P_X6_law  M Q X) (hq : ∀ r M, Q r M → QF r (wM ad (gc G) lf M)) (hx : ∀ E M, X E M → XF E (wM ad (gc G) lf M)) : F_X6_law G (ad 0) (wM ad (gc G) lf M) QF XF := by
  unfold P_X6_law at h
  unfold F_X6_law
  refine i_R (k := 0) fl_X6 rfl ?_
  refine i_R (k := 0) fl_X6 rfl ?_
  refine ⟨i_V (k := 1) fl_X3, p_X3_readTerms hA h (fun r2 M1 h => ?_)⟩
  refine i_R (k := 0) fl_X6 rfl ?_
  refine i_P (k := 2) fl_X5 rfl ?_
  replace h := pW_at h
  generalize hM : mup M1 2 1 (0 : Int32) = M4 at h ⊢
  clear hM
  refine ⟨fun hc => ?_, fun hc => ?_⟩
  · replace h := h.1 hc
    refine i_P (k := 0) fl_X6 rfl ?_
    replace h := pW_at h
    generalize hM : mup M4 0 3 (-1 : Int32) = M5 at h ⊢
    clear hM
    refine i_R (k := 0) fl_X6 rfl ?_
    refine i_R (k := 1) fl_X3 rfl ?_
    refine i_R (k := 0) fl_X6 rfl ?_
    refine i_C (k0 := 4) (k1 := 5) ar_4 ar_5 ?_
    replace h := pC_at h
    generalize hM : mcp M5 4 5 = M6 at h ⊢
    clear hM
    exact hq _ _ h
  · replace h := h.2 hc
    refine i_R (k := 0) fl_X6 rfl ?_
    refine i_I (k := 1) fl_X3 rfl ?_
    refine i_P (k := 0) fl_X6 rfl ?_
    replace h := pW_at h
    generalize hM : mup M4 0 3 (M4 1 2) = M7 at h ⊢
    clear hM
    exact hx _ _ h
def P_X6_fault  (M : Mem) (Q : Int32 → Mem → Prop) : Prop := Q (M 0 3) M
set_option maxRecDepth 20000 in
set_option maxHeartbeats 4000000 in
theorem p_X6_fault {G : Gx} {ad : Nat → Nat} {lf : Nat → Int64} (hA : Inj ad)  {M : Mem} {Q : Int32 → Mem → Prop} {QF : Int32 → va_W → Prop}  (h : P_X6_fault  M Q) (hq : ∀ r M, Q r M → QF r (wM ad (gc G) lf M)) : F_X6_fault G (ad 0) (wM ad (gc G) lf M) QF := by
  unfold P_X6_fault at h
  unfold F_X6_fault
  refine i_I (k := 0) fl_X6 rfl ?_
  exact hq _ _ h
def P_X6_says (p1 : Int32) (M : Mem) (Q : Int32 → Mem → Prop) (X : String → Mem → Prop) : Prop := ((p1 < 0 → X "java/util/NoSuchElementException" M) ∧ (¬ p1 < 0 → ((p1 < (4 : Int32) → (vp_in p1 4 ∧ Q (M 5 p1.toNatClampNeg) M)) ∧ (¬ p1 < (4 : Int32) → X "java/util/NoSuchElementException" M))))
set_option maxRecDepth 20000 in
set_option maxHeartbeats 4000000 in
theorem p_X6_says {G : Gx} {ad : Nat → Nat} {lf : Nat → Int64} (hA : Inj ad) {p1 : Int32} {M : Mem} {Q : Int32 → Mem → Prop} {X : String → Mem → Prop} {QF : Int32 → va_W → Prop} {XF : String → va_W → Prop}  (h : P_X6_says p1 M Q X) (hq : ∀ r M, Q r M → QF r (wM ad (gc G) lf M)) (hx : ∀ E M, X E M → XF E (wM ad (gc G) lf M)) : F_X6_says G (ad 0) p1 (wM ad (gc G) lf M) QF XF := by
  unfold P_X6_says at h
  unfold F_X6_says
  refine ⟨fun hc => ?_, fun hc => ?_⟩
  · replace h := h.1 hc
    exact hx _ _ h
  · replace h := h.2 hc
    refine ⟨fun hc => ?_, fun hc => ?_⟩
    · replace h := h.1 hc
      refine i_R (k := 0) fl_X6 rfl ?_
      obtain ⟨hi, h⟩ := h
      refine i_A (k := 5) ar_5 hi ?_
      exact hq _ _ h
    · replace h := h.2 hc
      exact hx _ _ h
