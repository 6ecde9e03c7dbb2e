def P_X5_append (p1 : Int32) (M : Mem) (Q : Mem → Prop) : Prop := ∀ (J3 : Int32 → Mem → Prop), (∀ (x2 : Int32) (M : Mem), ((x2 < 0 → Q M) ∧ (¬ x2 < 0 → (((400 : Int32) ≤ (M 2 1) → Q M) ∧ (¬ (400 : Int32) ≤ (M 2 1) → (vp_in (M 2 1) 400 ∧ pW 3 (M 2 1).toNatClampNeg ((p1.toUInt32 >>> (x2.toUInt32 &&& Int32.toUInt32 31)).toInt32 &&& (255 : Int32)) M (fun M1 => pW 2 1 ((M1 2 1) + (1 : Int32)) M1 (fun M2 => J3 (x2 + (-8 : Int32)) M2))))))) → J3 x2 M) → J3 (24 : Int32) M
set_option maxRecDepth 20000 in
set_option maxHeartbeats 4000000 in
theorem p_X5_append {G : Gx} {ad : Nat → Nat} {lf : Nat → Int64} (hA : Inj ad) {p1 : Int32} {M : Mem} {Q : Mem → Prop} {QF : va_W → Prop}  (h : P_X5_append p1 M Q) (hq : ∀ M, Q M → QF (wM ad (gc G) lf M)) : F_X5_append G (ad 2) p1 (wM ad (gc G) lf M) QF := by
  intro J3 c3
  replace h := h (fun x2 M => J3 x2 (wM ad (gc G) lf M))
  replace h := h (by
    intro x2 M h
    refine c3 _ _ ?_
    refine ⟨fun hc => ?_, fun hc => ?_⟩
    · replace h := h.1 hc
      exact hq _ h
    · replace h := h.2 hc
      refine i_I (k := 2) fl_X5 rfl ?_
      refine ⟨fun hc => ?_, fun hc => ?_⟩
      · replace h := h.1 hc
        exact hq _ h
      · replace h := h.2 hc
        refine i_R (k := 2) fl_X5 rfl ?_
        refine i_I (k := 2) fl_X5 rfl ?_
        obtain ⟨hi, h⟩ := h
        refine i_S (k := 3) ar_3 hi ?_
        replace h := pW_at h
        generalize hM : mup M 3 (M 2 1).toNatClampNeg ((p1.toUInt32 >>> (x2.toUInt32 &&& Int32.toUInt32 31)).toInt32 &&& (255 : Int32)) = M1 at h ⊢
        clear hM
        refine i_I (k := 2) fl_X5 rfl ?_
        refine i_P (k := 2) fl_X5 rfl ?_
        replace h := pW_at h
        generalize hM : mup M1 2 1 ((M1 2 1) + (1 : Int32)) = M2 at h ⊢
        clear hM
        exact h)
  exact h
def P_X6_feed (p1 : Int32) (p2 : Int32) (p3 : Int32) (p4 : Int32) (p5 : Int32) (M : Mem) (Q : Int32 → Mem → Prop) : Prop := ((((M 2 1) + (20 : Int32)) ≤ (400 : Int32) → (P_X5_append p1 M (fun M1 => (P_X5_append p2 M1 (fun M4 => (P_X5_append p3 M4 (fun M7 => (P_X5_append p4 M7 (fun M10 => (P_X5_append p5 M10 (fun M13 => Q (M13 2 1) M13))))))))))) ∧ (¬ ((M 2 1) + (20 : Int32)) ≤ (400 : Int32) → Q (-1 : Int32) M))
set_option maxRecDepth 20000 in
set_option maxHeartbeats 4000000 in
theorem p_X6_feed {G : Gx} {ad : Nat → Nat} {lf : Nat → Int64} (hA : Inj ad) {p1 : Int32} {p2 : Int32} {p3 : Int32} {p4 : Int32} {p5 : Int32} {M : Mem} {Q : Int32 → Mem → Prop} {QF : Int32 → va_W → Prop}  (h : P_X6_feed p1 p2 p3 p4 p5 M Q) (hq : ∀ r M, Q r M → QF r (wM ad (gc G) lf M)) : F_X6_feed G (ad 0) p1 p2 p3 p4 p5 (wM ad (gc G) lf M) QF := by
  unfold P_X6_feed at h
  unfold F_X6_feed
  refine i_R (k := 0) fl_X6 rfl ?_
  refine i_I (k := 2) fl_X5 rfl ?_
  refine ⟨fun hc => ?_, fun hc => ?_⟩
  · replace h := h.1 hc
    refine i_R (k := 0) fl_X6 rfl ?_
    refine ⟨i_V (k := 2) fl_X5, p_X5_append hA h (fun M1 h => ?_)⟩
    refine i_R (k := 0) fl_X6 rfl ?_
    refine ⟨i_V (k := 2) fl_X5, p_X5_append hA h (fun M4 h => ?_)⟩
    refine i_R (k := 0) fl_X6 rfl ?_
    refine ⟨i_V (k := 2) fl_X5, p_X5_append hA h (fun M7 h => ?_)⟩
    refine i_R (k := 0) fl_X6 rfl ?_
    refine ⟨i_V (k := 2) fl_X5, p_X5_append hA h (fun M10 h => ?_)⟩
    refine i_R (k := 0) fl_X6 rfl ?_
    refine ⟨i_V (k := 2) fl_X5, p_X5_append hA h (fun M13 h => ?_)⟩
    refine i_R (k := 0) fl_X6 rfl ?_
    refine i_I (k := 2) fl_X5 rfl ?_
    exact hq _ _ h
  · replace h := h.2 hc
    exact hq _ _ h
def P_X6_end (p1 : Int32) (M : Mem) (Q : Int32 → Mem → Prop) : Prop := ((p1 < 0 → Q (0 : Int32) M) ∧ (¬ p1 < 0 → ((p1 ≤ (M 2 1) → pW 2 1 p1 M (fun M1 => Q (1 : Int32) M1)) ∧ (¬ p1 ≤ (M 2 1) → Q (0 : Int32) M))))
set_option maxRecDepth 20000 in
set_option maxHeartbeats 4000000 in
theorem p_X6_end {G : Gx} {ad : Nat → Nat} {lf : Nat → Int64} (hA : Inj ad) {p1 : Int32} {M : Mem} {Q : Int32 → Mem → Prop} {QF : Int32 → va_W → Prop}  (h : P_X6_end p1 M Q) (hq : ∀ r M, Q r M → QF r (wM ad (gc G) lf M)) : F_X6_end G (ad 0) p1 (wM ad (gc G) lf M) QF := by
  unfold P_X6_end at h
  unfold F_X6_end
  refine ⟨fun hc => ?_, fun hc => ?_⟩
  · replace h := h.1 hc
    exact hq _ _ h
  · replace h := h.2 hc
    refine i_R (k := 0) fl_X6 rfl ?_
    refine i_I (k := 2) fl_X5 rfl ?_
    refine ⟨fun hc => ?_, fun hc => ?_⟩
    · replace h := h.1 hc
      refine i_R (k := 0) fl_X6 rfl ?_
      refine i_P (k := 2) fl_X5 rfl ?_
      replace h := pW_at h
      generalize hM : mup M 2 1 p1 = M1 at h ⊢
      clear hM
      exact hq _ _ h
    · replace h := h.2 hc
      exact hq _ _ h
def P_X6_isWithin (p0 : Int32) (p1 : Int32) (p2 : Int32) (M : Mem) (Q : Int32 → Mem → Prop) : Prop := ((p0 < p1 → Q (0 : Int32) M) ∧ (¬ p0 < p1 → ((p2 < p0 → Q (0 : Int32) M) ∧ (¬ p2 < p0 → Q (1 : Int32) M))))
set_option maxRecDepth 20000 in
set_option maxHeartbeats 4000000 in
theorem p_X6_isWithin {G : Gx} {ad : Nat → Nat} {lf : Nat → Int64} (hA : Inj ad) {p0 : Int32} {p1 : Int32} {p2 : Int32} {M : Mem} {Q : Int32 → Mem → Prop} {QF : Int32 → va_W → Prop}  (h : P_X6_isWithin p0 p1 p2 M Q) (hq : ∀ r M, Q r M → QF r (wM ad (gc G) lf M)) : F_X6_isWithin G p0 p1 p2 (wM ad (gc G) lf M) QF := by
  unfold P_X6_isWithin at h
  unfold F_X6_isWithin
  refine ⟨fun hc => ?_, fun hc => ?_⟩
  · replace h := h.1 hc
    exact hq _ _ h
  · replace h := h.2 hc
    refine ⟨fun hc => ?_, fun hc => ?_⟩
    · replace h := h.1 hc
      exact hq _ _ h
    · replace h := h.2 hc
      exact hq _ _ h
def P_X6_ground (p1 : Int32) (p2 : Int32) (M : Mem) (Q : Mem → Prop) (X : String → Mem → Prop) : Prop := (P_X6_isWithin p1 (0 : Int32) (2000 : Int32) M (fun r2 M1 => ((r2 = 0 → X "java/lang/IllegalArgumentException" M1) ∧ (¬ r2 = 0 → (P_X6_isWithin p2 (0 : Int32) (20 : Int32) M1 (fun r5 M4 => ((¬ r5 = 0 → pW 0 7 p1 M4 (fun M7 => pW 0 8 p2 M7 (fun M8 => Q M8))) ∧ (r5 = 0 → X "java/lang/IllegalArgumentException" M4))))))))
set_option maxRecDepth 20000 in
set_option maxHeartbeats 4000000 in
theorem p_X6_ground {G : Gx} {ad : Nat → Nat} {lf : Nat → Int64} (hA : Inj ad) {p1 : Int32} {p2 : Int32} {M : Mem} {Q : Mem → Prop} {X : String → Mem → Prop} {QF : va_W → Prop} {XF : String → va_W → Prop}  (h : P_X6_ground p1 p2 M Q X) (hq : ∀ M, Q M → QF (wM ad (gc G) lf M)) (hx : ∀ E M, X E M → XF E (wM ad (gc G) lf M)) : F_X6_ground G (ad 0) p1 p2 (wM ad (gc G) lf M) QF XF := by
  unfold P_X6_ground at h
  unfold F_X6_ground
  refine p_X6_isWithin hA h (fun r2 M1 h => ?_)
  refine ⟨fun hc => ?_, fun hc => ?_⟩
  · replace h := h.1 hc
    exact hx _ _ h
  · replace h := h.2 hc
    refine p_X6_isWithin hA h (fun r5 M4 h => ?_)
    refine ⟨fun hc => ?_, fun hc => ?_⟩
    · replace h := h.1 hc
      refine i_P (k := 0) fl_X6 rfl ?_
      replace h := pW_at h
      generalize hM : mup M4 0 7 p1 = M7 at h ⊢
      clear hM
      refine i_P (k := 0) fl_X6 rfl ?_
      replace h := pW_at h
      generalize hM : mup M7 0 8 p2 = M8 at h ⊢
      clear hM
      exact hq _ h
    · replace h := h.2 hc
      exact hx _ _ h
def P_X6_channel  (M : Mem) (Q : Int32 → Mem → Prop) (X : String → Mem → Prop) : Prop := (((M 0 5) < (8 : Int32) → pW 0 5 ((M 0 5) + (1 : Int32)) M (fun M1 => Q ((M1 0 5) - (1 : Int32)) M1)) ∧ (¬ (M 0 5) < (8 : Int32) → X "java/lang/UnsupportedOperationException" M))
set_option maxRecDepth 20000 in
set_option maxHeartbeats 4000000 in
theorem p_X6_channel {G : Gx} {ad : Nat → Nat} {lf : Nat → Int64} (hA : Inj ad)  {M : Mem} {Q : Int32 → Mem → Prop} {X : String → Mem → Prop} {QF : Int32 → va_W → Prop} {XF : String → va_W → Prop}  (h : P_X6_channel  M Q X) (hq : ∀ r M, Q r M → QF r (wM ad (gc G) lf M)) (hx : ∀ E M, X E M → XF E (wM ad (gc G) lf M)) : F_X6_channel G (ad 0) (wM ad (gc G) lf M) QF XF := by
  unfold P_X6_channel at h
  unfold F_X6_channel
  refine i_I (k := 0) fl_X6 rfl ?_
  refine ⟨fun hc => ?_, fun hc => ?_⟩
  · replace h := h.1 hc
    refine i_I (k := 0) fl_X6 rfl ?_
    refine i_P (k := 0) fl_X6 rfl ?_
    replace h := pW_at h
    generalize hM : mup M 0 5 ((M 0 5) + (1 : Int32)) = M1 at h ⊢
    clear hM
    refine i_I (k := 0) fl_X6 rfl ?_
    exact hq _ _ h
  · replace h := h.2 hc
    exact hx _ _ h
def P_X6_channelAt (p1 : Int32) (M : Mem) (Q : Nat → Mem → Prop) (X : String → Mem → Prop) : Prop := ((p1 < 0 → X "java/lang/IndexOutOfBoundsException" M) ∧ (¬ p1 < 0 → ((p1 < (M 0 5) → (vp_in p1 8 ∧ Q (p1.toNatClampNeg) M)) ∧ (¬ p1 < (M 0 5) → X "java/lang/IndexOutOfBoundsException" M))))
set_option maxRecDepth 20000 in
set_option maxHeartbeats 4000000 in
theorem p_X6_channelAt {G : Gx} {ad : Nat → Nat} {lf : Nat → Int64} (hA : Inj ad) {p1 : Int32} {M : Mem} {Q : Nat → Mem → Prop} {X : String → Mem → Prop} {QF : Nat → va_W → Prop} {XF : String → va_W → Prop}  (h : P_X6_channelAt p1 M Q X) (hq : ∀ r M, r < 8 → Q r M → QF (ad (7 + 5 * r)) (wM ad (gc G) lf M)) (hx : ∀ E M, X E M → XF E (wM ad (gc G) lf M)) : F_X6_channelAt G (ad 0) p1 (wM ad (gc G) lf M) QF XF := by
  unfold P_X6_channelAt at h
  unfold F_X6_channelAt
  refine ⟨fun hc => ?_, fun hc => ?_⟩
  · replace h := h.1 hc
    exact hx _ _ h
  · replace h := h.2 hc
    refine i_I (k := 0) fl_X6 rfl ?_
    refine ⟨fun hc => ?_, fun hc => ?_⟩
    · replace h := h.1 hc
      refine i_R (k := 0) fl_X6 rfl ?_
      obtain ⟨hi1, h⟩ := h
      refine i_QC hi1 ?_
      exact hq _ _ (vp_lt hi1) h
    · replace h := h.2 hc
      exact hx _ _ h
def P_X0_isDug (p0 : Nat) (M : Mem) (Q : Int32 → Mem → Prop) : Prop := (((M (7 + 5 * p0) 5) ≤ 0 → Q (0 : Int32) M) ∧ (¬ (M (7 + 5 * p0) 5) ≤ 0 → Q (1 : Int32) M))
set_option maxRecDepth 20000 in
set_option maxHeartbeats 4000000 in
theorem p_X0_isDug {G : Gx} {ad : Nat → Nat} {lf : Nat → Int64} (hA : Inj ad) {p0 : Nat} {M : Mem} {Q : Int32 → Mem → Prop} {QF : Int32 → va_W → Prop} (hp0 : p0 < 8) (h : P_X0_isDug p0 M Q) (hq : ∀ r M, Q r M → QF r (wM ad (gc G) lf M)) : F_X0_isDug G (ad (7 + 5 * p0)) (wM ad (gc G) lf M) QF := by
  unfold P_X0_isDug at h
  unfold F_X0_isDug
  refine i_I (k := (7 + 5 * p0)) (fl_C hp0) rfl ?_
  refine ⟨fun hc => ?_, fun hc => ?_⟩
  · replace h := h.1 hc
    exact hq _ _ h
  · replace h := h.2 hc
    exact hq _ _ h
def P_X6_undugAt (p1 : Int32) (M : Mem) (Q : Nat → Mem → Prop) (X : String → Mem → Prop) : Prop := (P_X6_channelAt p1 M (fun r2 M1 => (P_X0_isDug r2 M1 (fun r5 M4 => ((r5 = 0 → Q r2 M4) ∧ (¬ r5 = 0 → X "java/lang/IllegalStateException" M4))))) X)
set_option maxRecDepth 20000 in
set_option maxHeartbeats 4000000 in
theorem p_X6_undugAt {G : Gx} {ad : Nat → Nat} {lf : Nat → Int64} (hA : Inj ad) {p1 : Int32} {M : Mem} {Q : Nat → Mem → Prop} {X : String → Mem → Prop} {QF : Nat → va_W → Prop} {XF : String → va_W → Prop}  (h : P_X6_undugAt p1 M Q X) (hq : ∀ r M, r < 8 → Q r M → QF (ad (7 + 5 * r)) (wM ad (gc G) lf M)) (hx : ∀ E M, X E M → XF E (wM ad (gc G) lf M)) : F_X6_undugAt G (ad 0) p1 (wM ad (gc G) lf M) QF XF := by
  unfold P_X6_undugAt at h
  unfold F_X6_undugAt
  refine ⟨i_V (k := 0) fl_X6, p_X6_channelAt hA h (fun r2 M1 hb3 h => ?_) (fun E M h => hx _ _ h)⟩
  refine ⟨i_V (k := (7 + 5 * r2)) (fl_C hb3), p_X0_isDug hA hb3 h (fun r5 M4 h => ?_)⟩
  refine ⟨fun hc => ?_, fun hc => ?_⟩
  · replace h := h.1 hc
    exact hq _ _ hb3 h
  · replace h := h.2 hc
    exact hx _ _ h
def P_X0_lastFloor (p0 : Nat) (M : Mem) (Q : Int32 → Mem → Prop) : Prop := (((M (7 + 5 * p0) 4) ≤ 0 → Q (0 : Int32) M) ∧ (¬ (M (7 + 5 * p0) 4) ≤ 0 → (vp_in ((M (7 + 5 * p0) 4) - (1 : Int32)) 20 ∧ Q (M (10 + 5 * p0) ((M (7 + 5 * p0) 4) - (1 : Int32)).toNatClampNeg) M)))
set_option maxRecDepth 20000 in
set_option maxHeartbeats 4000000 in
theorem p_X0_lastFloor {G : Gx} {ad : Nat → Nat} {lf : Nat → Int64} (hA : Inj ad) {p0 : Nat} {M : Mem} {Q : Int32 → Mem → Prop} {QF : Int32 → va_W → Prop} (hp0 : p0 < 8) (h : P_X0_lastFloor p0 M Q) (hq : ∀ r M, Q r M → QF r (wM ad (gc G) lf M)) : F_X0_lastFloor G (ad (7 + 5 * p0)) (wM ad (gc G) lf M) QF := by
  unfold P_X0_lastFloor at h
  unfold F_X0_lastFloor
  refine i_I (k := (7 + 5 * p0)) (fl_C hp0) rfl ?_
  refine ⟨fun hc => ?_, fun hc => ?_⟩
  · replace h := h.1 hc
    exact hq _ _ h
  · replace h := h.2 hc
    refine i_R (k := (7 + 5 * p0)) (fl_C hp0) rfl ?_
    refine i_I (k := (7 + 5 * p0)) (fl_C hp0) rfl ?_
    obtain ⟨hi, h⟩ := h
    refine i_A (k := (10 + 5 * p0)) (ar_C2 hp0) hi ?_
    exact hq _ _ h
def P_X0_addWell (p0 : Nat) (p1 : Int32) (p2 : Int32) (p3 : Int32) (M : Mem) (Q : Mem → Prop) : Prop := (((20 : Int32) ≤ (M (7 + 5 * p0) 4) → Q M) ∧ (¬ (20 : Int32) ≤ (M (7 + 5 * p0) 4) → (vp_in (M (7 + 5 * p0) 4) 20 ∧ pW (8 + 5 * p0) (M (7 + 5 * p0) 4).toNatClampNeg p1 M (fun M1 => (vp_in (M1 (7 + 5 * p0) 4) 20 ∧ pW (9 + 5 * p0) (M1 (7 + 5 * p0) 4).toNatClampNeg p2 M1 (fun M2 => (vp_in (M2 (7 + 5 * p0) 4) 20 ∧ pW (10 + 5 * p0) (M2 (7 + 5 * p0) 4).toNatClampNeg p3 M2 (fun M3 => pW (7 + 5 * p0) 4 ((M3 (7 + 5 * p0) 4) + (1 : Int32)) M3 (fun M4 => Q M4)))))))))
set_option maxRecDepth 20000 in
set_option maxHeartbeats 4000000 in
theorem p_X0_addWell {G : Gx} {ad : Nat → Nat} {lf : Nat → Int64} (hA : Inj ad) {p0 : Nat} {p1 : Int32} {p2 : Int32} {p3 : Int32} {M : Mem} {Q : Mem → Prop} {QF : va_W → Prop} (hp0 : p0 < 8) (h : P_X0_addWell p0 p1 p2 p3 M Q) (hq : ∀ M, Q M → QF (wM ad (gc G) lf M)) : F_X0_addWell G (ad (7 + 5 * p0)) p1 p2 p3 (wM ad (gc G) lf M) QF := by
  unfold P_X0_addWell at h
  unfold F_X0_addWell
  refine i_I (k := (7 + 5 * p0)) (fl_C hp0) rfl ?_
  refine ⟨fun hc => ?_, fun hc => ?_⟩
  · replace h := h.1 hc
    exact hq _ h
  · replace h := h.2 hc
    refine i_R (k := (7 + 5 * p0)) (fl_C hp0) rfl ?_
    refine i_I (k := (7 + 5 * p0)) (fl_C hp0) rfl ?_
    obtain ⟨hi, h⟩ := h
    refine i_S (k := (8 + 5 * p0)) (ar_C0 hp0) hi ?_
    replace h := pW_at h
    generalize hM : mup M (8 + 5 * p0) (M (7 + 5 * p0) 4).toNatClampNeg p1 = M1 at h ⊢
    clear hM
    refine i_R (k := (7 + 5 * p0)) (fl_C hp0) rfl ?_
    refine i_I (k := (7 + 5 * p0)) (fl_C hp0) rfl ?_
    obtain ⟨hi, h⟩ := h
    refine i_S (k := (9 + 5 * p0)) (ar_C1 hp0) hi ?_
    replace h := pW_at h
    generalize hM : mup M1 (9 + 5 * p0) (M1 (7 + 5 * p0) 4).toNatClampNeg p2 = M2 at h ⊢
    clear hM
    refine i_R (k := (7 + 5 * p0)) (fl_C hp0) rfl ?_
    refine i_I (k := (7 + 5 * p0)) (fl_C hp0) rfl ?_
    obtain ⟨hi, h⟩ := h
    refine i_S (k := (10 + 5 * p0)) (ar_C2 hp0) hi ?_
    replace h := pW_at h
    generalize hM : mup M2 (10 + 5 * p0) (M2 (7 + 5 * p0) 4).toNatClampNeg p3 = M3 at h ⊢
    clear hM
    refine i_I (k := (7 + 5 * p0)) (fl_C hp0) rfl ?_
    refine i_P (k := (7 + 5 * p0)) (fl_C hp0) rfl ?_
    replace h := pW_at h
    generalize hM : mup M3 (7 + 5 * p0) 4 ((M3 (7 + 5 * p0) 4) + (1 : Int32)) = M4 at h ⊢
    clear hM
    exact hq _ h
def P_X6_well (p1 : Int32) (p2 : Int32) (p3 : Int32) (p4 : Int32) (M : Mem) (Q : Int32 → Mem → Prop) (X : String → Mem → Prop) : Prop := (P_X6_undugAt p1 M (fun r2 M1 => (P_X6_isWithin p2 (0 : Int32) (100 : Int32) M1 (fun r5 M4 => ((r5 = 0 → X "java/lang/IllegalArgumentException" M4) ∧ (¬ r5 = 0 → (P_X6_isWithin p3 (0 : Int32) (100 : Int32) M4 (fun r8 M7 => ((r8 = 0 → X "java/lang/IllegalArgumentException" M7) ∧ (¬ r8 = 0 → (P_X0_lastFloor r2 M7 (fun r11 M10 => (P_X6_isWithin p4 r11 (1000 : Int32) M10 (fun r14 M13 => ((¬ r14 = 0 → (((M13 (7 + 5 * r2) 4) < (20 : Int32) → (P_X0_addWell r2 p2 p3 p4 M13 (fun M16 => Q ((M16 (7 + 5 * r2) 4) - (1 : Int32)) M16))) ∧ (¬ (M13 (7 + 5 * r2) 4) < (20 : Int32) → X "java/lang/UnsupportedOperationException" M13))) ∧ (r14 = 0 → X "java/lang/IllegalArgumentException" M13))))))))))))))) X)
set_option maxRecDepth 20000 in
set_option maxHeartbeats 4000000 in
theorem p_X6_well {G : Gx} {ad : Nat → Nat} {lf : Nat → Int64} (hA : Inj ad) {p1 : Int32} {p2 : Int32} {p3 : Int32} {p4 : Int32} {M : Mem} {Q : Int32 → Mem → Prop} {X : String → Mem → Prop} {QF : Int32 → va_W → Prop} {XF : String → va_W → Prop}  (h : P_X6_well p1 p2 p3 p4 M Q X) (hq : ∀ r M, Q r M → QF r (wM ad (gc G) lf M)) (hx : ∀ E M, X E M → XF E (wM ad (gc G) lf M)) : F_X6_well G (ad 0) p1 p2 p3 p4 (wM ad (gc G) lf M) QF XF := by
  unfold P_X6_well at h
  unfold F_X6_well
  refine ⟨i_V (k := 0) fl_X6, p_X6_undugAt hA h (fun r2 M1 hb3 h => ?_) (fun E M h => hx _ _ h)⟩
  refine p_X6_isWithin hA h (fun r5 M4 h => ?_)
  refine ⟨fun hc => ?_, fun hc => ?_⟩
  · replace h := h.1 hc
    exact hx _ _ h
  · replace h := h.2 hc
    refine p_X6_isWithin hA h (fun r8 M7 h => ?_)
    refine ⟨fun hc => ?_, fun hc => ?_⟩
    · replace h := h.1 hc
      exact hx _ _ h
    · replace h := h.2 hc
      refine ⟨i_V (k := (7 + 5 * r2)) (fl_C hb3), p_X0_lastFloor hA hb3 h (fun r11 M10 h => ?_)⟩
      refine p_X6_isWithin hA h (fun r14 M13 h => ?_)
      refine ⟨fun hc => ?_, fun hc => ?_⟩
      · replace h := h.1 hc
        refine i_I (k := (7 + 5 * r2)) (fl_C hb3) rfl ?_
        refine ⟨fun hc => ?_, fun hc => ?_⟩
        · replace h := h.1 hc
          refine ⟨i_V (k := (7 + 5 * r2)) (fl_C hb3), p_X0_addWell hA hb3 h (fun M16 h => ?_)⟩
          refine i_I (k := (7 + 5 * r2)) (fl_C hb3) rfl ?_
          exact hq _ _ h
        · replace h := h.2 hc
          exact hx _ _ h
      · replace h := h.2 hc
        exact hx _ _ h
def P_X6_kingSteps (p0 : Int32) (p1 : Int32) (p2 : Int32) (p3 : Int32) (M : Mem) (Q : Int32 → Mem → Prop) : Prop := Q (if (if 0 ≤ (p0 - p2) then (p0 - p2) else 0 - (p0 - p2)) < (if 0 ≤ (p1 - p3) then (p1 - p3) else 0 - (p1 - p3)) then (if 0 ≤ (p1 - p3) then (p1 - p3) else 0 - (p1 - p3)) else (if 0 ≤ (p0 - p2) then (p0 - p2) else 0 - (p0 - p2))) M
set_option maxRecDepth 20000 in
set_option maxHeartbeats 4000000 in
theorem p_X6_kingSteps {G : Gx} {ad : Nat → Nat} {lf : Nat → Int64} (hA : Inj ad) {p0 : Int32} {p1 : Int32} {p2 : Int32} {p3 : Int32} {M : Mem} {Q : Int32 → Mem → Prop} {QF : Int32 → va_W → Prop}  (h : P_X6_kingSteps p0 p1 p2 p3 M Q) (hq : ∀ r M, Q r M → QF r (wM ad (gc G) lf M)) : F_X6_kingSteps G p0 p1 p2 p3 (wM ad (gc G) lf M) QF := by
  unfold P_X6_kingSteps at h
  unfold F_X6_kingSteps
  exact hq _ _ h
def P_X6_isClearOf (p1 : Nat) (p2 : Nat) (M : Mem) (Q : Int32 → Mem → Prop) : Prop := ∀ (J2 : Int32 → Mem → Prop), ∀ (J13 : Int32 → Int32 → Mem → Prop), ∀ (J89 : Int32 → Int32 → Mem → Prop), (∀ (x3 : Int32) (M : Mem), (((M (7 + 5 * p1) 4) ≤ x3 → Q (1 : Int32) M) ∧ (¬ (M (7 + 5 * p1) 4) ≤ x3 → J13 x3 (0 : Int32) M)) → J2 x3 M) → (∀ (x3 : Int32) (x4 : Int32) (M : Mem), (((M (7 + 5 * p2) 4) ≤ x4 → J2 (x3 + (1 : Int32)) M) ∧ (¬ (M (7 + 5 * p2) 4) ≤ x4 → (vp_in x3 20 ∧ (vp_in x3 20 ∧ (vp_in x4 20 ∧ (vp_in x4 20 ∧ (P_X6_kingSteps (M (8 + 5 * p1) x3.toNatClampNeg) (M (9 + 5 * p1) x3.toNatClampNeg) (M (8 + 5 * p2) x4.toNatClampNeg) (M (9 + 5 * p2) x4.toNatClampNeg) M (fun r2 M1 => (vp_in (0 : Int32) 4 ∧ (((M1 5 (0 : Int32).toNatClampNeg) ≤ r2 → J89 x3 x4 M1) ∧ (¬ (M1 5 (0 : Int32).toNatClampNeg) ≤ r2 → (vp_in x3 20 ∧ (vp_in x4 20 ∧ (vp_in (1 : Int32) 4 ∧ (((M1 5 (1 : Int32).toNatClampNeg) ≤ ((M1 (10 + 5 * p1) x3.toNatClampNeg) - (M1 (10 + 5 * p2) x4.toNatClampNeg)) → J89 x3 x4 M1) ∧ (¬ (M1 5 (1 : Int32).toNatClampNeg) ≤ ((M1 (10 + 5 * p1) x3.toNatClampNeg) - (M1 (10 + 5 * p2) x4.toNatClampNeg)) → Q (0 : Int32) M1)))))))))))))))) → J13 x3 x4 M) → (∀ (x3 : Int32) (x4 : Int32) (M : Mem), J13 x3 (x4 + (1 : Int32)) M → J89 x3 x4 M) → J2 (0 : Int32) M
set_option maxRecDepth 20000 in
set_option maxHeartbeats 4000000 in
theorem p_X6_isClearOf {G : Gx} {ad : Nat → Nat} {lf : Nat → Int64} (hA : Inj ad) {p1 : Nat} {p2 : Nat} {M : Mem} {Q : Int32 → Mem → Prop} {QF : Int32 → va_W → Prop} (hp1 : p1 < 8) (hp2 : p2 < 8) (h : P_X6_isClearOf p1 p2 M Q) (hq : ∀ r M, Q r M → QF r (wM ad (gc G) lf M)) : F_X6_isClearOf G (ad 0) (ad (7 + 5 * p1)) (ad (7 + 5 * p2)) (wM ad (gc G) lf M) QF := by
  intro J2 J13 J89 c2 c13 c89
  replace h := h (fun x3 M => J2 x3 (wM ad (gc G) lf M)) (fun x3 x4 M => J13 x3 x4 (wM ad (gc G) lf M)) (fun x3 x4 M => J89 x3 x4 (wM ad (gc G) lf M))
  replace h := h (by
    intro x3 M h
    refine c2 _ _ ?_
    refine i_I (k := (7 + 5 * p1)) (fl_C hp1) rfl ?_
    refine ⟨fun hc => ?_, fun hc => ?_⟩
    · replace h := h.1 hc
      exact hq _ _ h
    · replace h := h.2 hc
      exact h)
  replace h := h (by
    intro x3 x4 M h
    refine c13 _ _ _ ?_
    refine i_I (k := (7 + 5 * p2)) (fl_C hp2) rfl ?_
    refine ⟨fun hc => ?_, fun hc => ?_⟩
    · replace h := h.1 hc
      exact h
    · replace h := h.2 hc
      refine i_R (k := (7 + 5 * p1)) (fl_C hp1) rfl ?_
      obtain ⟨hi, h⟩ := h
      refine i_A (k := (8 + 5 * p1)) (ar_C0 hp1) hi ?_
      refine i_R (k := (7 + 5 * p1)) (fl_C hp1) rfl ?_
      obtain ⟨hi, h⟩ := h
      refine i_A (k := (9 + 5 * p1)) (ar_C1 hp1) hi ?_
      refine i_R (k := (7 + 5 * p2)) (fl_C hp2) rfl ?_
      obtain ⟨hi, h⟩ := h
      refine i_A (k := (8 + 5 * p2)) (ar_C0 hp2) hi ?_
      refine i_R (k := (7 + 5 * p2)) (fl_C hp2) rfl ?_
      obtain ⟨hi, h⟩ := h
      refine i_A (k := (9 + 5 * p2)) (ar_C1 hp2) hi ?_
      refine p_X6_kingSteps hA h (fun r2 M1 h => ?_)
      refine i_R (k := 0) fl_X6 rfl ?_
      obtain ⟨hi, h⟩ := h
      refine i_A (k := 5) ar_5 hi ?_
      refine ⟨fun hc => ?_, fun hc => ?_⟩
      · replace h := h.1 hc
        exact h
      · replace h := h.2 hc
        refine i_R (k := (7 + 5 * p1)) (fl_C hp1) rfl ?_
        obtain ⟨hi, h⟩ := h
        refine i_A (k := (10 + 5 * p1)) (ar_C2 hp1) hi ?_
        refine i_R (k := (7 + 5 * p2)) (fl_C hp2) rfl ?_
        obtain ⟨hi, h⟩ := h
        refine i_A (k := (10 + 5 * p2)) (ar_C2 hp2) hi ?_
        refine i_R (k := 0) fl_X6 rfl ?_
        obtain ⟨hi, h⟩ := h
        refine i_A (k := 5) ar_5 hi ?_
        refine ⟨fun hc => ?_, fun hc => ?_⟩
        · replace h := h.1 hc
          exact h
        · replace h := h.2 hc
          exact hq _ _ h)
  replace h := h (by
    intro x3 x4 M h
    refine c89 _ _ _ ?_
    exact h)
  exact h
def P_X6_isAllowed (p1 : Nat) (M : Mem) (Q : Int32 → Mem → Prop) : Prop := ∀ (J12 : Int32 → Mem → Prop), ∀ (J45 : Int32 → Mem → Prop), (∀ (x2 : Int32) (M : Mem), (((M 0 5) ≤ x2 → Q (1 : Int32) M) ∧ (¬ (M 0 5) ≤ x2 → (vp_in x2 8 ∧ (P_X0_isDug (x2.toNatClampNeg) M (fun r3 M2 => ((r3 = 0 → J45 x2 M2) ∧ (¬ r3 = 0 → (P_X6_isClearOf p1 (x2.toNatClampNeg) M2 (fun r6 M5 => ((¬ r6 = 0 → J45 x2 M5) ∧ (r6 = 0 → Q (0 : Int32) M5))))))))))) → J12 x2 M) → (∀ (x2 : Int32) (M : Mem), J12 (x2 + (1 : Int32)) M → J45 x2 M) → (((2 : Int32) ≤ (M (7 + 5 * p1) 4) → J12 (0 : Int32) M) ∧ (¬ (2 : Int32) ≤ (M (7 + 5 * p1) 4) → Q (0 : Int32) M))
set_option maxRecDepth 20000 in
set_option maxHeartbeats 4000000 in
theorem p_X6_isAllowed {G : Gx} {ad : Nat → Nat} {lf : Nat → Int64} (hA : Inj ad) {p1 : Nat} {M : Mem} {Q : Int32 → Mem → Prop} {QF : Int32 → va_W → Prop} (hp1 : p1 < 8) (h : P_X6_isAllowed p1 M Q) (hq : ∀ r M, Q r M → QF r (wM ad (gc G) lf M)) : F_X6_isAllowed G (ad 0) (ad (7 + 5 * p1)) (wM ad (gc G) lf M) QF := by
  intro J12 J45 c12 c45
  replace h := h (fun x2 M => J12 x2 (wM ad (gc G) lf M)) (fun x2 M => J45 x2 (wM ad (gc G) lf M))
  replace h := h (by
    intro x2 M h
    refine c12 _ _ ?_
    refine i_I (k := 0) fl_X6 rfl ?_
    refine ⟨fun hc => ?_, fun hc => ?_⟩
    · replace h := h.1 hc
      exact hq _ _ h
    · replace h := h.2 hc
      refine i_R (k := 0) fl_X6 rfl ?_
      obtain ⟨hi1, h⟩ := h
      refine i_QC hi1 ?_
      refine ⟨i_V (k := (7 + 5 * (x2.toNatClampNeg))) (fl_C (vp_lt hi1)), p_X0_isDug hA (vp_lt hi1) h (fun r3 M2 h => ?_)⟩
      refine ⟨fun hc => ?_, fun hc => ?_⟩
      · replace h := h.1 hc
        exact h
      · replace h := h.2 hc
        refine ⟨i_V (k := 0) fl_X6, p_X6_isClearOf hA hp1 (vp_lt hi1) h (fun r6 M5 h => ?_)⟩
        refine ⟨fun hc => ?_, fun hc => ?_⟩
        · replace h := h.1 hc
          exact h
        · replace h := h.2 hc
          exact hq _ _ h)
  replace h := h (by
    intro x2 M h
    refine c45 _ _ ?_
    exact h)
  refine i_I (k := (7 + 5 * p1)) (fl_C hp1) rfl ?_
  refine ⟨fun hc => ?_, fun hc => ?_⟩
  · replace h := h.1 hc
    exact h
  · replace h := h.2 hc
    exact hq _ _ h
def P_X6_may (p1 : Int32) (M : Mem) (Q : Int32 → Mem → Prop) (X : String → Mem → Prop) : Prop := (P_X6_undugAt p1 M (fun r2 M1 => (P_X6_isAllowed r2 M1 (fun r5 M4 => ((r5 = 0 ∨ r5 = 1) ∧ Q r5 M4)))) X)
set_option maxRecDepth 20000 in
set_option maxHeartbeats 4000000 in
theorem p_X6_may {G : Gx} {ad : Nat → Nat} {lf : Nat → Int64} (hA : Inj ad) {p1 : Int32} {M : Mem} {Q : Int32 → Mem → Prop} {X : String → Mem → Prop} {QF : Int32 → va_W → Prop} {XF : String → va_W → Prop}  (h : P_X6_may p1 M Q X) (hq : ∀ r M, Q r M → QF r (wM ad (gc G) lf M)) (hx : ∀ E M, X E M → XF E (wM ad (gc G) lf M)) : F_X6_may G (ad 0) p1 (wM ad (gc G) lf M) QF XF := by
  unfold P_X6_may at h
  unfold F_X6_may
  refine ⟨i_V (k := 0) fl_X6, p_X6_undugAt hA h (fun r2 M1 hb3 h => ?_) (fun E M h => hx _ _ h)⟩
  refine ⟨i_V (k := 0) fl_X6, p_X6_isAllowed hA hb3 h (fun r5 M4 h => ?_)⟩
  exact ⟨h.1, hq _ _ h.2⟩
def P_X6_isOwner (p0 : Int32) (M : Mem) (Q : Int32 → Mem → Prop) : Prop := (P_X6_isWithin p0 (0 : Int32) (30 : Int32) M (fun r2 M1 => ((r2 = 0 ∨ r2 = 1) ∧ Q r2 M1)))
set_option maxRecDepth 20000 in
set_option maxHeartbeats 4000000 in
theorem p_X6_isOwner {G : Gx} {ad : Nat → Nat} {lf : Nat → Int64} (hA : Inj ad) {p0 : Int32} {M : Mem} {Q : Int32 → Mem → Prop} {QF : Int32 → va_W → Prop}  (h : P_X6_isOwner p0 M Q) (hq : ∀ r M, Q r M → QF r (wM ad (gc G) lf M)) : F_X6_isOwner G p0 (wM ad (gc G) lf M) QF := by
  unfold P_X6_isOwner at h
  unfold F_X6_isOwner
  refine p_X6_isWithin hA h (fun r2 M1 h => ?_)
  exact ⟨h.1, hq _ _ h.2⟩
def P_X4_become (p0 : Nat) (p1 : Int32) (p2 : Int32) (p3 : Int32) (p4 : Int32) (M : Mem) (Q : Mem → Prop) : Prop := pW (48 + p0) 0 p1 M (fun M1 => pW (48 + p0) 1 p2 M1 (fun M2 => pW (48 + p0) 2 p3 M2 (fun M3 => pW (48 + p0) 3 p4 M3 (fun M4 => pW (48 + p0) 4 (-1 : Int32) M4 (fun M5 => pW (48 + p0) 5 (0 : Int32) M5 (fun M6 => pW (48 + p0) 6 (0 : Int32) M6 (fun M7 => Q M7)))))))
set_option maxRecDepth 20000 in
set_option maxHeartbeats 4000000 in
theorem p_X4_become {G : Gx} {ad : Nat → Nat} {lf : Nat → Int64} (hA : Inj ad) {p0 : Nat} {p1 : Int32} {p2 : Int32} {p3 : Int32} {p4 : Int32} {M : Mem} {Q : Mem → Prop} {QF : va_W → Prop} (hp0 : p0 < 60) (h : P_X4_become p0 p1 p2 p3 p4 M Q) (hq : ∀ M, Q M → QF (wM ad (gc G) lf M)) : F_X4_become G (ad (48 + p0)) p1 p2 p3 p4 (wM ad (gc G) lf M) QF := by
  unfold P_X4_become at h
  unfold F_X4_become
  refine i_P (k := (48 + p0)) (fl_S hp0) rfl ?_
  replace h := pW_at h
  generalize hM : mup M (48 + p0) 0 p1 = M1 at h ⊢
  clear hM
  refine i_P (k := (48 + p0)) (fl_S hp0) rfl ?_
  replace h := pW_at h
  generalize hM : mup M1 (48 + p0) 1 p2 = M2 at h ⊢
  clear hM
  refine i_P (k := (48 + p0)) (fl_S hp0) rfl ?_
  replace h := pW_at h
  generalize hM : mup M2 (48 + p0) 2 p3 = M3 at h ⊢
  clear hM
  refine i_P (k := (48 + p0)) (fl_S hp0) rfl ?_
  replace h := pW_at h
  generalize hM : mup M3 (48 + p0) 3 p4 = M4 at h ⊢
  clear hM
  refine i_P (k := (48 + p0)) (fl_S hp0) rfl ?_
  replace h := pW_at h
  generalize hM : mup M4 (48 + p0) 4 (-1 : Int32) = M5 at h ⊢
  clear hM
  refine i_P (k := (48 + p0)) (fl_S hp0) rfl ?_
  replace h := pW_at h
  generalize hM : mup M5 (48 + p0) 5 (0 : Int32) = M6 at h ⊢
  clear hM
  refine i_P (k := (48 + p0)) (fl_S hp0) rfl ?_
  replace h := pW_at h
  generalize hM : mup M6 (48 + p0) 6 (0 : Int32) = M7 at h ⊢
  clear hM
  exact hq _ h
def P_X6_addShare (p1 : Int32) (p2 : Int32) (p3 : Int32) (p4 : Int32) (M : Mem) (Q : Mem → Prop) : Prop := (((60 : Int32) ≤ (M 0 11) → Q M) ∧ (¬ (60 : Int32) ≤ (M 0 11) → (vp_in (M 0 11) 60 ∧ (P_X4_become ((M 0 11).toNatClampNeg) p1 p2 p3 p4 M (fun M2 => pW 0 11 ((M2 0 11) + (1 : Int32)) M2 (fun M5 => Q M5))))))
set_option maxRecDepth 20000 in
set_option maxHeartbeats 4000000 in
theorem p_X6_addShare {G : Gx} {ad : Nat → Nat} {lf : Nat → Int64} (hA : Inj ad) {p1 : Int32} {p2 : Int32} {p3 : Int32} {p4 : Int32} {M : Mem} {Q : Mem → Prop} {QF : va_W → Prop}  (h : P_X6_addShare p1 p2 p3 p4 M Q) (hq : ∀ M, Q M → QF (wM ad (gc G) lf M)) : F_X6_addShare G (ad 0) p1 p2 p3 p4 (wM ad (gc G) lf M) QF := by
  unfold P_X6_addShare at h
  unfold F_X6_addShare
  refine i_I (k := 0) fl_X6 rfl ?_
  refine ⟨fun hc => ?_, fun hc => ?_⟩
  · replace h := h.1 hc
    exact hq _ h
  · replace h := h.2 hc
    refine i_R (k := 0) fl_X6 rfl ?_
    refine i_I (k := 0) fl_X6 rfl ?_
    obtain ⟨hi1, h⟩ := h
    refine i_QS hi1 ?_
    refine ⟨i_V (k := (48 + ((M 0 11).toNatClampNeg))) (fl_S (vp_lt hi1)), p_X4_become hA (vp_lt hi1) h (fun M2 h => ?_)⟩
    refine i_I (k := 0) fl_X6 rfl ?_
    refine i_P (k := 0) fl_X6 rfl ?_
    replace h := pW_at h
    generalize hM : mup M2 0 11 ((M2 0 11) + (1 : Int32)) = M5 at h ⊢
    clear hM
    exact hq _ h
def P_X6_dig (p1 : Int32) (p2 : Int32) (p3 : Int32) (M : Mem) (Q : Int32 → Mem → Prop) (X : String → Mem → Prop) : Prop := (P_X6_undugAt p1 M (fun r2 M1 => (P_X6_isOwner p2 M1 (fun r5 M4 => ((r5 = 0 → X "java/lang/IllegalArgumentException" M4) ∧ (¬ r5 = 0 → (P_X6_isWithin p3 (1 : Int32) (15 : Int32) M4 (fun r8 M7 => ((¬ r8 = 0 → (((60 : Int32) ≤ (M7 0 11) → Q (-1 : Int32) M7) ∧ (¬ (60 : Int32) ≤ (M7 0 11) → (P_X6_isAllowed r2 M7 (fun r11 M10 => ((¬ r11 = 0 → pW (7 + 5 * r2) 5 (p3 * (1440 : Int32)) M10 (fun M13 => pW (7 + 5 * r2) 6 (M13 0 9) M13 (fun M14 => pW (7 + 5 * r2) 7 (M14 0 6) M14 (fun M15 => pW 0 6 ((M15 0 6) + (1 : Int32)) M15 (fun M16 => (P_X6_addShare p1 (0 : Int32) (M16 (7 + 5 * r2) 5) p2 M16 (fun M17 => Q ((M17 0 11) - (1 : Int32)) M17))))))) ∧ (r11 = 0 → Q (-1 : Int32) M10))))))) ∧ (r8 = 0 → X "java/lang/IllegalArgumentException" M7))))))))) X)
set_option maxRecDepth 20000 in
set_option maxHeartbeats 4000000 in
theorem p_X6_dig {G : Gx} {ad : Nat → Nat} {lf : Nat → Int64} (hA : Inj ad) {p1 : Int32} {p2 : Int32} {p3 : Int32} {M : Mem} {Q : Int32 → Mem → Prop} {X : String → Mem → Prop} {QF : Int32 → va_W → Prop} {XF : String → va_W → Prop}  (h : P_X6_dig p1 p2 p3 M Q X) (hq : ∀ r M, Q r M → QF r (wM ad (gc G) lf M)) (hx : ∀ E M, X E M → XF E (wM ad (gc G) lf M)) : F_X6_dig G (ad 0) p1 p2 p3 (wM ad (gc G) lf M) QF XF := by
  unfold P_X6_dig at h
  unfold F_X6_dig
  refine ⟨i_V (k := 0) fl_X6, p_X6_undugAt hA h (fun r2 M1 hb3 h => ?_) (fun E M h => hx _ _ h)⟩
  refine p_X6_isOwner hA h (fun r5 M4 h => ?_)
  refine ⟨fun hc => ?_, fun hc => ?_⟩
  · replace h := h.1 hc
    exact hx _ _ h
  · replace h := h.2 hc
    refine p_X6_isWithin hA h (fun r8 M7 h => ?_)
    refine ⟨fun hc => ?_, fun hc => ?_⟩
    · replace h := h.1 hc
      refine i_I (k := 0) fl_X6 rfl ?_
      refine ⟨fun hc => ?_, fun hc => ?_⟩
      · replace h := h.1 hc
        exact hq _ _ h
      · replace h := h.2 hc
        refine ⟨i_V (k := 0) fl_X6, p_X6_isAllowed hA hb3 h (fun r11 M10 h => ?_)⟩
        refine ⟨fun hc => ?_, fun hc => ?_⟩
        · replace h := h.1 hc
          refine i_P (k := (7 + 5 * r2)) (fl_C hb3) rfl ?_
          replace h := pW_at h
          generalize hM : mup M10 (7 + 5 * r2) 5 (p3 * (1440 : Int32)) = M13 at h ⊢
          clear hM
          refine i_I (k := 0) fl_X6 rfl ?_
          refine i_P (k := (7 + 5 * r2)) (fl_C hb3) rfl ?_
          replace h := pW_at h
          generalize hM : mup M13 (7 + 5 * r2) 6 (M13 0 9) = M14 at h ⊢
          clear hM
          refine i_I (k := 0) fl_X6 rfl ?_
          refine i_P (k := (7 + 5 * r2)) (fl_C hb3) rfl ?_
          replace h := pW_at h
          generalize hM : mup M14 (7 + 5 * r2) 7 (M14 0 6) = M15 at h ⊢
          clear hM
          refine i_I (k := 0) fl_X6 rfl ?_
          refine i_P (k := 0) fl_X6 rfl ?_
          replace h := pW_at h
          generalize hM : mup M15 0 6 ((M15 0 6) + (1 : Int32)) = M16 at h ⊢
          clear hM
          refine i_I (k := (7 + 5 * r2)) (fl_C hb3) rfl ?_
          refine ⟨i_V (k := 0) fl_X6, p_X6_addShare hA h (fun M17 h => ?_)⟩
          refine i_I (k := 0) fl_X6 rfl ?_
          exact hq _ _ h
        · replace h := h.2 hc
          exact hq _ _ h
    · replace h := h.2 hc
      exact hx _ _ h
def P_X6_years (p1 : Int32) (M : Mem) (Q : Int32 → Mem → Prop) (X : String → Mem → Prop) : Prop := (P_X6_isWithin p1 (0 : Int32) (100 : Int32) M (fun r2 M1 => ((¬ r2 = 0 → pW 0 9 ((M1 0 9) + p1) M1 (fun M4 => Q (M4 0 9) M4)) ∧ (r2 = 0 → X "java/lang/IllegalArgumentException" M1))))
set_option maxRecDepth 20000 in
set_option maxHeartbeats 4000000 in
theorem p_X6_years {G : Gx} {ad : Nat → Nat} {lf : Nat → Int64} (hA : Inj ad) {p1 : Int32} {M : Mem} {Q : Int32 → Mem → Prop} {X : String → Mem → Prop} {QF : Int32 → va_W → Prop} {XF : String → va_W → Prop}  (h : P_X6_years p1 M Q X) (hq : ∀ r M, Q r M → QF r (wM ad (gc G) lf M)) (hx : ∀ E M, X E M → XF E (wM ad (gc G) lf M)) : F_X6_years G (ad 0) p1 (wM ad (gc G) lf M) QF XF := by
  unfold P_X6_years at h
  unfold F_X6_years
  refine p_X6_isWithin hA h (fun r2 M1 h => ?_)
  refine ⟨fun hc => ?_, fun hc => ?_⟩
  · replace h := h.1 hc
    refine i_I (k := 0) fl_X6 rfl ?_
    refine i_P (k := 0) fl_X6 rfl ?_
    replace h := pW_at h
    generalize hM : mup M1 0 9 ((M1 0 9) + p1) = M4 at h ⊢
    clear hM
    refine i_I (k := 0) fl_X6 rfl ?_
    exact hq _ _ h
  · replace h := h.2 hc
    exact hx _ _ h
def P_X6_dugWithWell (p1 : Int32) (p2 : Int32) (M : Mem) (Q : Nat → Mem → Prop) (X : String → Mem → Prop) : Prop := (P_X6_channelAt p1 M (fun r2 M1 => ((p2 < 0 → X "java/lang/IndexOutOfBoundsException" M1) ∧ (¬ p2 < 0 → ((p2 < (M1 (7 + 5 * r2) 4) → (P_X0_isDug r2 M1 (fun r5 M4 => ((¬ r5 = 0 → Q r2 M4) ∧ (r5 = 0 → X "java/lang/IllegalStateException" M4))))) ∧ (¬ p2 < (M1 (7 + 5 * r2) 4) → X "java/lang/IndexOutOfBoundsException" M1))))) X)
set_option maxRecDepth 20000 in
set_option maxHeartbeats 4000000 in
theorem p_X6_dugWithWell {G : Gx} {ad : Nat → Nat} {lf : Nat → Int64} (hA : Inj ad) {p1 : Int32} {p2 : Int32} {M : Mem} {Q : Nat → Mem → Prop} {X : String → Mem → Prop} {QF : Nat → va_W → Prop} {XF : String → va_W → Prop}  (h : P_X6_dugWithWell p1 p2 M Q X) (hq : ∀ r M, r < 8 → Q r M → QF (ad (7 + 5 * r)) (wM ad (gc G) lf M)) (hx : ∀ E M, X E M → XF E (wM ad (gc G) lf M)) : F_X6_dugWithWell G (ad 0) p1 p2 (wM ad (gc G) lf M) QF XF := by
  unfold P_X6_dugWithWell at h
  unfold F_X6_dugWithWell
  refine ⟨i_V (k := 0) fl_X6, p_X6_channelAt hA h (fun r2 M1 hb3 h => ?_) (fun E M h => hx _ _ h)⟩
  refine ⟨fun hc => ?_, fun hc => ?_⟩
  · replace h := h.1 hc
    exact hx _ _ h
  · replace h := h.2 hc
    refine i_I (k := (7 + 5 * r2)) (fl_C hb3) rfl ?_
    refine ⟨fun hc => ?_, fun hc => ?_⟩
    · replace h := h.1 hc
      refine ⟨i_V (k := (7 + 5 * r2)) (fl_C hb3), p_X0_isDug hA hb3 h (fun r5 M4 h => ?_)⟩
      refine ⟨fun hc => ?_, fun hc => ?_⟩
      · replace h := h.1 hc
        exact hq _ _ hb3 h
      · replace h := h.2 hc
        exact hx _ _ h
    · replace h := h.2 hc
      exact hx _ _ h
def P_X6_collapse (p1 : Int32) (p2 : Int32) (p3 : Int32) (M : Mem) (Q : Int32 → Mem → Prop) (X : String → Mem → Prop) : Prop := (P_X6_dugWithWell p1 p2 M (fun r2 M1 => (vp_in p2 20 ∧ (vp_in p2 20 ∧ pW (11 + 5 * r2) p2.toNatClampNeg (vp_nar .boolean p3) M1 (fun M4 => (((M1 (11 + 5 * r2) p2.toNatClampNeg) = p3 → Q (0 : Int32) M4) ∧ (¬ (M1 (11 + 5 * r2) p2.toNatClampNeg) = p3 → Q (1 : Int32) M4)))))) X)
set_option maxRecDepth 20000 in
set_option maxHeartbeats 4000000 in
theorem p_X6_collapse {G : Gx} {ad : Nat → Nat} {lf : Nat → Int64} (hA : Inj ad) {p1 : Int32} {p2 : Int32} {p3 : Int32} {M : Mem} {Q : Int32 → Mem → Prop} {X : String → Mem → Prop} {QF : Int32 → va_W → Prop} {XF : String → va_W → Prop}  (h : P_X6_collapse p1 p2 p3 M Q X) (hq : ∀ r M, Q r M → QF r (wM ad (gc G) lf M)) (hx : ∀ E M, X E M → XF E (wM ad (gc G) lf M)) : F_X6_collapse G (ad 0) p1 p2 p3 (wM ad (gc G) lf M) QF XF := by
  unfold P_X6_collapse at h
  unfold F_X6_collapse
  refine ⟨i_V (k := 0) fl_X6, p_X6_dugWithWell hA h (fun r2 M1 hb3 h => ?_) (fun E M h => hx _ _ h)⟩
  refine i_R (k := (7 + 5 * r2)) (fl_C hb3) rfl ?_
  obtain ⟨hi, h⟩ := h
  refine i_A (k := (11 + 5 * r2)) (ar_C3 hb3) hi ?_
  refine i_R (k := (7 + 5 * r2)) (fl_C hb3) rfl ?_
  obtain ⟨hi, h⟩ := h
  refine i_S (k := (11 + 5 * r2)) (ar_C3 hb3) hi ?_
  replace h := pW_at h
  generalize hM : mup M1 (11 + 5 * r2) p2.toNatClampNeg (vp_nar .boolean p3) = M4 at h ⊢
  clear hM
  refine ⟨fun hc => ?_, fun hc => ?_⟩
  · replace h := h.1 hc
    exact hq _ _ h
  · replace h := h.2 hc
    exact hq _ _ h
def P_X6_dugAt (p1 : Int32) (M : Mem) (Q : Nat → Mem → Prop) (X : String → Mem → Prop) : Prop := (P_X6_channelAt p1 M (fun r2 M1 => (P_X0_isDug r2 M1 (fun r5 M4 => ((¬ r5 = 0 → Q r2 M4) ∧ (r5 = 0 → X "java/lang/IllegalStateException" M4))))) X)
set_option maxRecDepth 20000 in
set_option maxHeartbeats 4000000 in
theorem p_X6_dugAt {G : Gx} {ad : Nat → Nat} {lf : Nat → Int64} (hA : Inj ad) {p1 : Int32} {M : Mem} {Q : Nat → Mem → Prop} {X : String → Mem → Prop} {QF : Nat → va_W → Prop} {XF : String → va_W → Prop}  (h : P_X6_dugAt p1 M Q X) (hq : ∀ r M, r < 8 → Q r M → QF (ad (7 + 5 * r)) (wM ad (gc G) lf M)) (hx : ∀ E M, X E M → XF E (wM ad (gc G) lf M)) : F_X6_dugAt G (ad 0) p1 (wM ad (gc G) lf M) QF XF := by
  unfold P_X6_dugAt at h
  unfold F_X6_dugAt
  refine ⟨i_V (k := 0) fl_X6, p_X6_channelAt hA h (fun r2 M1 hb3 h => ?_) (fun E M h => hx _ _ h)⟩
  refine ⟨i_V (k := (7 + 5 * r2)) (fl_C hb3), p_X0_isDug hA hb3 h (fun r5 M4 h => ?_)⟩
  refine ⟨fun hc => ?_, fun hc => ?_⟩
  · replace h := h.1 hc
    exact hq _ _ hb3 h
  · replace h := h.2 hc
    exact hx _ _ h
def P_X0_runningWells (p0 : Nat) (M : Mem) (Q : Int32 → Mem → Prop) : Prop := ∀ (J2 : Int32 → Mem → Prop), (∀ (x1 : Int32) (M : Mem), (((M (7 + 5 * p0) 4) ≤ x1 → Q (M (7 + 5 * p0) 4) M) ∧ (¬ (M (7 + 5 * p0) 4) ≤ x1 → (vp_in x1 20 ∧ (((M (11 + 5 * p0) x1.toNatClampNeg) = 0 → J2 (x1 + (1 : Int32)) M) ∧ (¬ (M (11 + 5 * p0) x1.toNatClampNeg) = 0 → Q x1 M))))) → J2 x1 M) → J2 (0 : Int32) M
set_option maxRecDepth 20000 in
set_option maxHeartbeats 4000000 in
theorem p_X0_runningWells {G : Gx} {ad : Nat → Nat} {lf : Nat → Int64} (hA : Inj ad) {p0 : Nat} {M : Mem} {Q : Int32 → Mem → Prop} {QF : Int32 → va_W → Prop} (hp0 : p0 < 8) (h : P_X0_runningWells p0 M Q) (hq : ∀ r M, Q r M → QF r (wM ad (gc G) lf M)) : F_X0_runningWells G (ad (7 + 5 * p0)) (wM ad (gc G) lf M) QF := by
  intro J2 c2
  replace h := h (fun x1 M => J2 x1 (wM ad (gc G) lf M))
  replace h := h (by
    intro x1 M h
    refine c2 _ _ ?_
    refine i_I (k := (7 + 5 * p0)) (fl_C hp0) rfl ?_
    refine ⟨fun hc => ?_, fun hc => ?_⟩
    · replace h := h.1 hc
      refine i_I (k := (7 + 5 * p0)) (fl_C hp0) rfl ?_
      exact hq _ _ h
    · replace h := h.2 hc
      refine i_R (k := (7 + 5 * p0)) (fl_C hp0) rfl ?_
      obtain ⟨hi, h⟩ := h
      refine i_A (k := (11 + 5 * p0)) (ar_C3 hp0) hi ?_
      refine ⟨fun hc => ?_, fun hc => ?_⟩
      · replace h := h.1 hc
        exact h
      · replace h := h.2 hc
        exact hq _ _ h)
  exact h
def P_X6_drawAt (p1 : Nat) (p2 : Int32) (p3 : Int32) (M : Mem) (Q : Int32 → Mem → Prop) : Prop := ∀ (J12 : Int32 → Int32 → Int32 → Mem → Prop), (∀ (x4 : Int32) (x5 : Int32) (x6 : Int32) (M : Mem), ((x4 ≤ x6 → (((5 : Int32) ≤ ((M 0 9) - (M (7 + 5 * p1) 6)) → Q x5 M) ∧ (¬ (5 : Int32) ≤ ((M 0 9) - (M (7 + 5 * p1) 6)) → Q ((x5 * ((M 0 9) - (M (7 + 5 * p1) 6))) / (5 : Int32)) M))) ∧ (¬ x4 ≤ x6 → (vp_in x6 20 ∧ (vp_in x6 20 ∧ (P_X6_kingSteps p2 p3 (M (8 + 5 * p1) x6.toNatClampNeg) (M (9 + 5 * p1) x6.toNatClampNeg) M (fun r5 M4 => J12 x4 (if x5 < ((30 : Int32) - r5) then ((30 : Int32) - r5) else x5) (x6 + (1 : Int32)) M4)))))) → J12 x4 x5 x6 M) → (P_X0_runningWells p1 M (fun r2 M1 => J12 r2 (0 : Int32) (0 : Int32) M1))
set_option maxRecDepth 20000 in
set_option maxHeartbeats 4000000 in
theorem p_X6_drawAt {G : Gx} {ad : Nat → Nat} {lf : Nat → Int64} (hA : Inj ad) {p1 : Nat} {p2 : Int32} {p3 : Int32} {M : Mem} {Q : Int32 → Mem → Prop} {QF : Int32 → va_W → Prop} (hp1 : p1 < 8) (h : P_X6_drawAt p1 p2 p3 M Q) (hq : ∀ r M, Q r M → QF r (wM ad (gc G) lf M)) : F_X6_drawAt G (ad 0) (ad (7 + 5 * p1)) p2 p3 (wM ad (gc G) lf M) QF := by
  intro J12 c12
  replace h := h (fun x4 x5 x6 M => J12 x4 x5 x6 (wM ad (gc G) lf M))
  replace h := h (by
    intro x4 x5 x6 M h
    refine c12 _ _ _ _ ?_
    refine ⟨fun hc => ?_, fun hc => ?_⟩
    · replace h := h.1 hc
      refine i_I (k := 0) fl_X6 rfl ?_
      refine i_I (k := (7 + 5 * p1)) (fl_C hp1) rfl ?_
      refine ⟨fun hc => ?_, fun hc => ?_⟩
      · replace h := h.1 hc
        exact hq _ _ h
      · replace h := h.2 hc
        exact hq _ _ h
    · replace h := h.2 hc
      refine i_R (k := (7 + 5 * p1)) (fl_C hp1) rfl ?_
      obtain ⟨hi, h⟩ := h
      refine i_A (k := (8 + 5 * p1)) (ar_C0 hp1) hi ?_
      refine i_R (k := (7 + 5 * p1)) (fl_C hp1) rfl ?_
      obtain ⟨hi, h⟩ := h
      refine i_A (k := (9 + 5 * p1)) (ar_C1 hp1) hi ?_
      refine p_X6_kingSteps hA h (fun r5 M4 h => ?_)
      exact h)
  refine ⟨i_V (k := (7 + 5 * p1)) (fl_C hp1), p_X0_runningWells hA hp1 h (fun r2 M1 h => ?_)⟩
  exact h
def P_X6_seepAt (p1 : Nat) (p2 : Int32) (p3 : Int32) (M : Mem) (Q : Int32 → Mem → Prop) : Prop := ∀ (J21 : Int32 → Int32 → Mem → Prop), ∀ (J85 : Int32 → Int32 → Mem → Prop), (∀ (x4 : Int32) (x5 : Int32) (M : Mem), (((M 0 5) ≤ x5 → (vp_in p2 20 ∧ Q (if (0 : Int32) < (if ((x4 - (M (10 + 5 * p1) p2.toNatClampNeg)) / (10 : Int32)) < (50 : Int32) then ((x4 - (M (10 + 5 * p1) p2.toNatClampNeg)) / (10 : Int32)) else (50 : Int32)) then (if ((x4 - (M (10 + 5 * p1) p2.toNatClampNeg)) / (10 : Int32)) < (50 : Int32) then ((x4 - (M (10 + 5 * p1) p2.toNatClampNeg)) / (10 : Int32)) else (50 : Int32)) else (0 : Int32)) M)) ∧ (¬ (M 0 5) ≤ x5 → (vp_in x5 8 ∧ ((x5.toNatClampNeg = p1 → J85 x4 x5 M) ∧ (¬ x5.toNatClampNeg = p1 → (P_X0_isDug (x5.toNatClampNeg) M (fun r3 M2 => ((r3 = 0 → J85 x4 x5 M2) ∧ (¬ r3 = 0 → ((p3 < (M2 (7 + 5 * (x5.toNatClampNeg)) 7) → J85 x4 x5 M2) ∧ (¬ p3 < (M2 (7 + 5 * (x5.toNatClampNeg)) 7) → (vp_in p2 20 ∧ (vp_in p2 20 ∧ (P_X6_drawAt (x5.toNatClampNeg) (M2 (8 + 5 * p1) p2.toNatClampNeg) (M2 (9 + 5 * p1) p2.toNatClampNeg) M2 (fun r6 M5 => J85 (x4 - r6) x5 M5))))))))))))))) → J21 x4 x5 M) → (∀ (x4 : Int32) (x5 : Int32) (M : Mem), J21 x4 (x5 + (1 : Int32)) M → J85 x4 x5 M) → (vp_in p2 20 ∧ J21 ((M 0 7) + ((M 0 8) * (M (8 + 5 * p1) p2.toNatClampNeg))) (0 : Int32) M)
set_option maxRecDepth 20000 in
set_option maxHeartbeats 4000000 in
theorem p_X6_seepAt {G : Gx} {ad : Nat → Nat} {lf : Nat → Int64} (hA : Inj ad) {p1 : Nat} {p2 : Int32} {p3 : Int32} {M : Mem} {Q : Int32 → Mem → Prop} {QF : Int32 → va_W → Prop} (hp1 : p1 < 8) (h : P_X6_seepAt p1 p2 p3 M Q) (hq : ∀ r M, Q r M → QF r (wM ad (gc G) lf M)) : F_X6_seepAt G (ad 0) (ad (7 + 5 * p1)) p2 p3 (wM ad (gc G) lf M) QF := by
  intro J21 J85 c21 c85
  replace h := h (fun x4 x5 M => J21 x4 x5 (wM ad (gc G) lf M)) (fun x4 x5 M => J85 x4 x5 (wM ad (gc G) lf M))
  replace h := h (by
    intro x4 x5 M h
    refine c21 _ _ _ ?_
    refine i_I (k := 0) fl_X6 rfl ?_
    refine ⟨fun hc => ?_, fun hc => ?_⟩
    · replace h := h.1 hc
      refine i_R (k := (7 + 5 * p1)) (fl_C hp1) rfl ?_
      obtain ⟨hi, h⟩ := h
      refine i_A (k := (10 + 5 * p1)) (ar_C2 hp1) hi ?_
      exact hq _ _ h
    · replace h := h.2 hc
      refine i_R (k := 0) fl_X6 rfl ?_
      obtain ⟨hi1, h⟩ := h
      refine i_QC hi1 ?_
      refine i_acmp hA (vp_lt hi1) hp1 (fun hc => ?_) (fun hc => ?_)
      · replace h := h.1 hc
        exact h
      · replace h := h.2 hc
        refine ⟨i_V (k := (7 + 5 * (x5.toNatClampNeg))) (fl_C (vp_lt hi1)), p_X0_isDug hA (vp_lt hi1) h (fun r3 M2 h => ?_)⟩
        refine ⟨fun hc => ?_, fun hc => ?_⟩
        · replace h := h.1 hc
          exact h
        · replace h := h.2 hc
          refine i_I (k := (7 + 5 * (x5.toNatClampNeg))) (fl_C (vp_lt hi1)) rfl ?_
          refine ⟨fun hc => ?_, fun hc => ?_⟩
          · replace h := h.1 hc
            exact h
          · replace h := h.2 hc
            refine i_R (k := (7 + 5 * p1)) (fl_C hp1) rfl ?_
            obtain ⟨hi, h⟩ := h
            refine i_A (k := (8 + 5 * p1)) (ar_C0 hp1) hi ?_
            refine i_R (k := (7 + 5 * p1)) (fl_C hp1) rfl ?_
            obtain ⟨hi, h⟩ := h
            refine i_A (k := (9 + 5 * p1)) (ar_C1 hp1) hi ?_
            refine ⟨i_V (k := 0) fl_X6, p_X6_drawAt hA (vp_lt hi1) h (fun r6 M5 h => ?_)⟩
            exact h)
  replace h := h (by
    intro x4 x5 M h
    refine c85 _ _ _ ?_
    exact h)
  refine i_I (k := 0) fl_X6 rfl ?_
  refine i_I (k := 0) fl_X6 rfl ?_
  refine i_R (k := (7 + 5 * p1)) (fl_C hp1) rfl ?_
  obtain ⟨hi, h⟩ := h
  refine i_A (k := (8 + 5 * p1)) (ar_C0 hp1) hi ?_
  exact h
def P_X0_leaksBelow (p0 : Nat) (p1 : Int32) (M : Mem) (Q : Int32 → Mem → Prop) : Prop := ((p1 < (1 : Int32) → Q (0 : Int32) M) ∧ (¬ p1 < (1 : Int32) → ((p1 < (M (7 + 5 * p0) 4) → (vp_in p1 20 ∧ (vp_in (p1 - (1 : Int32)) 20 ∧ ((((M (10 + 5 * p0) p1.toNatClampNeg) - (M (10 + 5 * p0) (p1 - (1 : Int32)).toNatClampNeg)) = 0 → Q (1 : Int32) M) ∧ (¬ ((M (10 + 5 * p0) p1.toNatClampNeg) - (M (10 + 5 * p0) (p1 - (1 : Int32)).toNatClampNeg)) = 0 → ((((M (10 + 5 * p0) p1.toNatClampNeg) - (M (10 + 5 * p0) (p1 - (1 : Int32)).toNatClampNeg)) ≤ (20 : Int32) → Q (0 : Int32) M) ∧ (¬ ((M (10 + 5 * p0) p1.toNatClampNeg) - (M (10 + 5 * p0) (p1 - (1 : Int32)).toNatClampNeg)) ≤ (20 : Int32) → Q (1 : Int32) M))))))) ∧ (¬ p1 < (M (7 + 5 * p0) 4) → Q (0 : Int32) M))))
set_option maxRecDepth 20000 in
set_option maxHeartbeats 4000000 in
theorem p_X0_leaksBelow {G : Gx} {ad : Nat → Nat} {lf : Nat → Int64} (hA : Inj ad) {p0 : Nat} {p1 : Int32} {M : Mem} {Q : Int32 → Mem → Prop} {QF : Int32 → va_W → Prop} (hp0 : p0 < 8) (h : P_X0_leaksBelow p0 p1 M Q) (hq : ∀ r M, Q r M → QF r (wM ad (gc G) lf M)) : F_X0_leaksBelow G (ad (7 + 5 * p0)) p1 (wM ad (gc G) lf M) QF := by
  unfold P_X0_leaksBelow at h
  unfold F_X0_leaksBelow
  refine ⟨fun hc => ?_, fun hc => ?_⟩
  · replace h := h.1 hc
    exact hq _ _ h
  · replace h := h.2 hc
    refine i_I (k := (7 + 5 * p0)) (fl_C hp0) rfl ?_
    refine ⟨fun hc => ?_, fun hc => ?_⟩
    · replace h := h.1 hc
      refine i_R (k := (7 + 5 * p0)) (fl_C hp0) rfl ?_
      obtain ⟨hi, h⟩ := h
      refine i_A (k := (10 + 5 * p0)) (ar_C2 hp0) hi ?_
      refine i_R (k := (7 + 5 * p0)) (fl_C hp0) rfl ?_
      obtain ⟨hi, h⟩ := h
      refine i_A (k := (10 + 5 * p0)) (ar_C2 hp0) hi ?_
      refine ⟨fun hc => ?_, fun hc => ?_⟩
      · replace h := h.1 hc
        exact hq _ _ h
      · replace h := h.2 hc
        refine ⟨fun hc => ?_, fun hc => ?_⟩
        · replace h := h.1 hc
          exact hq _ _ h
        · replace h := h.2 hc
          exact hq _ _ h
    · replace h := h.2 hc
      exact hq _ _ h
def P_X6_flowOf (p1 : Nat) (p2 : Int32) (M : Mem) (Q : Int32 → Mem → Prop) : Prop := ∀ (J10 : Int32 → Int32 → Mem → Prop), ∀ (J47 : Int32 → Int32 → Mem → Prop), (∀ (x3 : Int32) (x4 : Int32) (M : Mem), ((x4 < 0 → Q x3 M) ∧ (¬ x4 < 0 → (P_X6_seepAt p1 x4 p2 M (fun r5 M4 => (P_X0_leaksBelow p1 x4 M4 (fun r8 M7 => ((r8 = 0 → J47 (x3 + r5) x4 M7) ∧ (¬ r8 = 0 → J47 ((x3 + r5) - ((((x3 + r5) + (100 : Int32)) - (1 : Int32)) / (100 : Int32))) x4 M7)))))))) → J10 x3 x4 M) → (∀ (x3 : Int32) (x4 : Int32) (M : Mem), J10 x3 (x4 + (-1 : Int32)) M → J47 x3 x4 M) → (P_X0_runningWells p1 M (fun r2 M1 => J10 (0 : Int32) (r2 - (1 : Int32)) M1))
set_option maxRecDepth 20000 in
set_option maxHeartbeats 4000000 in
theorem p_X6_flowOf {G : Gx} {ad : Nat → Nat} {lf : Nat → Int64} (hA : Inj ad) {p1 : Nat} {p2 : Int32} {M : Mem} {Q : Int32 → Mem → Prop} {QF : Int32 → va_W → Prop} (hp1 : p1 < 8) (h : P_X6_flowOf p1 p2 M Q) (hq : ∀ r M, Q r M → QF r (wM ad (gc G) lf M)) : F_X6_flowOf G (ad 0) (ad (7 + 5 * p1)) p2 (wM ad (gc G) lf M) QF := by
  intro J10 J47 c10 c47
  replace h := h (fun x3 x4 M => J10 x3 x4 (wM ad (gc G) lf M)) (fun x3 x4 M => J47 x3 x4 (wM ad (gc G) lf M))
  replace h := h (by
    intro x3 x4 M h
    refine c10 _ _ _ ?_
    refine ⟨fun hc => ?_, fun hc => ?_⟩
    · replace h := h.1 hc
      exact hq _ _ h
    · replace h := h.2 hc
      refine ⟨i_V (k := 0) fl_X6, p_X6_seepAt hA hp1 h (fun r5 M4 h => ?_)⟩
      refine ⟨i_V (k := (7 + 5 * p1)) (fl_C hp1), p_X0_leaksBelow hA hp1 h (fun r8 M7 h => ?_)⟩
      refine ⟨fun hc => ?_, fun hc => ?_⟩
      · replace h := h.1 hc
        exact h
      · replace h := h.2 hc
        exact h)
  replace h := h (by
    intro x3 x4 M h
    refine c47 _ _ _ ?_
    exact h)
  refine ⟨i_V (k := (7 + 5 * p1)) (fl_C hp1), p_X0_runningWells hA hp1 h (fun r2 M1 h => ?_)⟩
  exact h
def P_X6_flow (p1 : Int32) (M : Mem) (Q : Int32 → Mem → Prop) (X : String → Mem → Prop) : Prop := (P_X6_dugAt p1 M (fun r2 M1 => (P_X6_flowOf r2 (M1 0 6) M1 (fun r5 M4 => Q r5 M4))) X)
set_option maxRecDepth 20000 in
set_option maxHeartbeats 4000000 in
theorem p_X6_flow {G : Gx} {ad : Nat → Nat} {lf : Nat → Int64} (hA : Inj ad) {p1 : Int32} {M : Mem} {Q : Int32 → Mem → Prop} {X : String → Mem → Prop} {QF : Int32 → va_W → Prop} {XF : String → va_W → Prop}  (h : P_X6_flow p1 M Q X) (hq : ∀ r M, Q r M → QF r (wM ad (gc G) lf M)) (hx : ∀ E M, X E M → XF E (wM ad (gc G) lf M)) : F_X6_flow G (ad 0) p1 (wM ad (gc G) lf M) QF XF := by
  unfold P_X6_flow at h
  unfold F_X6_flow
  refine ⟨i_V (k := 0) fl_X6, p_X6_dugAt hA h (fun r2 M1 hb3 h => ?_) (fun E M h => hx _ _ h)⟩
  refine i_I (k := 0) fl_X6 rfl ?_
  refine ⟨i_V (k := 0) fl_X6, p_X6_flowOf hA hb3 h (fun r5 M4 h => ?_)⟩
  exact hq _ _ h
def P_X6_harm (p1 : Int32) (M : Mem) (Q : Int32 → Mem → Prop) (X : String → Mem → Prop) : Prop := (P_X6_dugAt p1 M (fun r2 M1 => (P_X6_flowOf r2 (M1 (7 + 5 * r2) 7) M1 (fun r5 M4 => (P_X6_flowOf r2 (M4 0 6) M4 (fun r8 M7 => Q (r5 - r8) M7))))) X)
set_option maxRecDepth 20000 in
set_option maxHeartbeats 4000000 in
theorem p_X6_harm {G : Gx} {ad : Nat → Nat} {lf : Nat → Int64} (hA : Inj ad) {p1 : Int32} {M : Mem} {Q : Int32 → Mem → Prop} {X : String → Mem → Prop} {QF : Int32 → va_W → Prop} {XF : String → va_W → Prop}  (h : P_X6_harm p1 M Q X) (hq : ∀ r M, Q r M → QF r (wM ad (gc G) lf M)) (hx : ∀ E M, X E M → XF E (wM ad (gc G) lf M)) : F_X6_harm G (ad 0) p1 (wM ad (gc G) lf M) QF XF := by
  unfold P_X6_harm at h
  unfold F_X6_harm
  refine ⟨i_V (k := 0) fl_X6, p_X6_dugAt hA h (fun r2 M1 hb3 h => ?_) (fun E M h => hx _ _ h)⟩
  refine i_I (k := (7 + 5 * r2)) (fl_C hb3) rfl ?_
  refine ⟨i_V (k := 0) fl_X6, p_X6_flowOf hA hb3 h (fun r5 M4 h => ?_)⟩
  refine i_I (k := 0) fl_X6 rfl ?_
  refine ⟨i_V (k := 0) fl_X6, p_X6_flowOf hA hb3 h (fun r8 M7 h => ?_)⟩
  exact hq _ _ h
def P_X6_seep (p1 : Int32) (p2 : Int32) (M : Mem) (Q : Int32 → Mem → Prop) (X : String → Mem → Prop) : Prop := (P_X6_dugWithWell p1 p2 M (fun r2 M1 => (P_X0_runningWells r2 M1 (fun r5 M4 => ((r5 ≤ p2 → Q (0 : Int32) M4) ∧ (¬ r5 ≤ p2 → (P_X6_seepAt r2 p2 (M4 0 6) M4 (fun r8 M7 => Q r8 M7))))))) X)
set_option maxRecDepth 20000 in
set_option maxHeartbeats 4000000 in
theorem p_X6_seep {G : Gx} {ad : Nat → Nat} {lf : Nat → Int64} (hA : Inj ad) {p1 : Int32} {p2 : Int32} {M : Mem} {Q : Int32 → Mem → Prop} {X : String → Mem → Prop} {QF : Int32 → va_W → Prop} {XF : String → va_W → Prop}  (h : P_X6_seep p1 p2 M Q X) (hq : ∀ r M, Q r M → QF r (wM ad (gc G) lf M)) (hx : ∀ E M, X E M → XF E (wM ad (gc G) lf M)) : F_X6_seep G (ad 0) p1 p2 (wM ad (gc G) lf M) QF XF := by
  unfold P_X6_seep at h
  unfold F_X6_seep
  refine ⟨i_V (k := 0) fl_X6, p_X6_dugWithWell hA h (fun r2 M1 hb3 h => ?_) (fun E M h => hx _ _ h)⟩
  refine ⟨i_V (k := (7 + 5 * r2)) (fl_C hb3), p_X0_runningWells hA hb3 h (fun r5 M4 h => ?_)⟩
  refine ⟨fun hc => ?_, fun hc => ?_⟩
  · replace h := h.1 hc
    exact hq _ _ h
  · replace h := h.2 hc
    refine i_I (k := 0) fl_X6 rfl ?_
    refine ⟨i_V (k := 0) fl_X6, p_X6_seepAt hA hb3 h (fun r8 M7 h => ?_)⟩
    exact hq _ _ h
def P_X6_shareAt (p1 : Int32) (M : Mem) (Q : Nat → Mem → Prop) (X : String → Mem → Prop) : Prop := ((p1 < 0 → X "java/lang/IndexOutOfBoundsException" M) ∧ (¬ p1 < 0 → ((p1 < (M 0 11) → (vp_in p1 60 ∧ Q (p1.toNatClampNeg) M)) ∧ (¬ p1 < (M 0 11) → X "java/lang/IndexOutOfBoundsException" M))))
set_option maxRecDepth 20000 in
set_option maxHeartbeats 4000000 in
theorem p_X6_shareAt {G : Gx} {ad : Nat → Nat} {lf : Nat → Int64} (hA : Inj ad) {p1 : Int32} {M : Mem} {Q : Nat → Mem → Prop} {X : String → Mem → Prop} {QF : Nat → va_W → Prop} {XF : String → va_W → Prop}  (h : P_X6_shareAt p1 M Q X) (hq : ∀ r M, r < 60 → Q r M → QF (ad (48 + r)) (wM ad (gc G) lf M)) (hx : ∀ E M, X E M → XF E (wM ad (gc G) lf M)) : F_X6_shareAt G (ad 0) p1 (wM ad (gc G) lf M) QF XF := by
  unfold P_X6_shareAt at h
  unfold F_X6_shareAt
  refine ⟨fun hc => ?_, fun hc => ?_⟩
  · replace h := h.1 hc
    exact hx _ _ h
  · replace h := h.2 hc
    refine i_I (k := 0) fl_X6 rfl ?_
    refine ⟨fun hc => ?_, fun hc => ?_⟩
    · replace h := h.1 hc
      refine i_R (k := 0) fl_X6 rfl ?_
      obtain ⟨hi1, h⟩ := h
      refine i_QS hi1 ?_
      exact hq _ _ (vp_lt hi1) h
    · replace h := h.2 hc
      exact hx _ _ h
def P_X4_isLetFrom (p0 : Nat) (p1 : Int32) (M : Mem) (Q : Int32 → Mem → Prop) : Prop := (((M (48 + p0) 6) ≤ p1 → Q (0 : Int32) M) ∧ (¬ (M (48 + p0) 6) ≤ p1 → Q (1 : Int32) M))
set_option maxRecDepth 20000 in
set_option maxHeartbeats 4000000 in
theorem p_X4_isLetFrom {G : Gx} {ad : Nat → Nat} {lf : Nat → Int64} (hA : Inj ad) {p0 : Nat} {p1 : Int32} {M : Mem} {Q : Int32 → Mem → Prop} {QF : Int32 → va_W → Prop} (hp0 : p0 < 60) (h : P_X4_isLetFrom p0 p1 M Q) (hq : ∀ r M, Q r M → QF r (wM ad (gc G) lf M)) : F_X4_isLetFrom G (ad (48 + p0)) p1 (wM ad (gc G) lf M) QF := by
  unfold P_X4_isLetFrom at h
  unfold F_X4_isLetFrom
  refine i_I (k := (48 + p0)) (fl_S hp0) rfl ?_
  refine ⟨fun hc => ?_, fun hc => ?_⟩
  · replace h := h.1 hc
    exact hq _ _ h
  · replace h := h.2 hc
    exact hq _ _ h
def P_X6_unletAt (p1 : Int32) (M : Mem) (Q : Nat → Mem → Prop) (X : String → Mem → Prop) : Prop := (P_X6_shareAt p1 M (fun r2 M1 => (P_X4_isLetFrom r2 (M1 0 12) M1 (fun r5 M4 => ((r5 = 0 → Q r2 M4) ∧ (¬ r5 = 0 → X "java/lang/IllegalStateException" M4))))) X)
set_option maxRecDepth 20000 in
set_option maxHeartbeats 4000000 in
theorem p_X6_unletAt {G : Gx} {ad : Nat → Nat} {lf : Nat → Int64} (hA : Inj ad) {p1 : Int32} {M : Mem} {Q : Nat → Mem → Prop} {X : String → Mem → Prop} {QF : Nat → va_W → Prop} {XF : String → va_W → Prop}  (h : P_X6_unletAt p1 M Q X) (hq : ∀ r M, r < 60 → Q r M → QF (ad (48 + r)) (wM ad (gc G) lf M)) (hx : ∀ E M, X E M → XF E (wM ad (gc G) lf M)) : F_X6_unletAt G (ad 0) p1 (wM ad (gc G) lf M) QF XF := by
  unfold P_X6_unletAt at h
  unfold F_X6_unletAt
  refine ⟨i_V (k := 0) fl_X6, p_X6_shareAt hA h (fun r2 M1 hb3 h => ?_) (fun E M h => hx _ _ h)⟩
  refine i_I (k := 0) fl_X6 rfl ?_
  refine ⟨i_V (k := (48 + r2)) (fl_S hb3), p_X4_isLetFrom hA hb3 h (fun r5 M4 h => ?_)⟩
  refine ⟨fun hc => ?_, fun hc => ?_⟩
  · replace h := h.1 hc
    exact hq _ _ hb3 h
  · replace h := h.2 hc
    exact hx _ _ h
def P_X6_sell (p1 : Int32) (p2 : Int32) (p3 : Int32) (p4 : Int32) (M : Mem) (Q : Mem → Prop) (X : String → Mem → Prop) : Prop := ∀ (J62 : Nat → Int32 → Mem → Prop), ∀ (J78 : Nat → Int32 → Int32 → Mem → Prop), ∀ (J94 : Nat → Int32 → Int32 → Int32 → Int32 → Mem → Prop), ∀ (J105 : Nat → Int32 → Int32 → Int32 → Int32 → Mem → Prop), ∀ (J146 : Nat → Int32 → Mem → Prop), ∀ (J171 : Nat → Mem → Prop), (∀ (x5 : Nat) (t0 : Int32) (M : Mem), (((M (48 + x5) 2) ≤ p3 → J78 x5 t0 (0 : Int32) M) ∧ (¬ (M (48 + x5) 2) ≤ p3 → J78 x5 t0 (1 : Int32) M)) → J62 x5 t0 M) → (∀ (x5 : Nat) (x6 : Int32) (t0 : Int32) (M : Mem), ((x6 = 0 → J94 x5 x6 t0 (0 : Int32) (M 0 11) M) ∧ (¬ x6 = 0 → J94 x5 x6 t0 (1 : Int32) (M 0 11) M)) → J78 x5 x6 t0 M) → (∀ (x5 : Nat) (x6 : Int32) (x7 : Int32) (t0 : Int32) (t1 : Int32) (M : Mem), ((x7 = 0 → J105 x5 x6 x7 (0 : Int32) (t1 + t0) M) ∧ (¬ x7 = 0 → J105 x5 x6 x7 (1 : Int32) (t1 + t0) M)) → J94 x5 x6 x7 t0 t1 M) → (∀ (x5 : Nat) (x6 : Int32) (x7 : Int32) (t0 : Int32) (t1 : Int32) (M : Mem), (((t1 + t0) ≤ (60 : Int32) → ((x6 = 0 → J146 x5 x7 M) ∧ (¬ x6 = 0 → (P_X6_addShare (M (48 + x5) 0) (M (48 + x5) 1) p2 (M (48 + x5) 3) M (fun M7 => J146 x5 x7 M7))))) ∧ (¬ (t1 + t0) ≤ (60 : Int32) → X "java/lang/UnsupportedOperationException" M)) → J105 x5 x6 x7 t0 t1 M) → (∀ (x5 : Nat) (x7 : Int32) (M : Mem), ((x7 = 0 → J171 x5 M) ∧ (¬ x7 = 0 → (P_X6_addShare (M (48 + x5) 0) p3 (M (48 + x5) 2) (M (48 + x5) 3) M (fun M10 => J171 x5 M10)))) → J146 x5 x7 M) → (∀ (x5 : Nat) (M : Mem), (P_X4_become x5 (M (48 + x5) 0) p2 p3 p4 M (fun M13 => Q M13)) → J171 x5 M) → (P_X6_unletAt p1 M (fun r2 M1 => (P_X6_isOwner p4 M1 (fun r5 M4 => ((r5 = 0 → X "java/lang/IllegalArgumentException" M4) ∧ (¬ r5 = 0 → ((p2 < (M4 (48 + r2) 1) → X "java/lang/IllegalArgumentException" M4) ∧ (¬ p2 < (M4 (48 + r2) 1) → ((p3 ≤ p2 → X "java/lang/IllegalArgumentException" M4) ∧ (¬ p3 ≤ p2 → ((p3 ≤ (M4 (48 + r2) 2) → ((p2 ≤ (M4 (48 + r2) 1) → J62 r2 (0 : Int32) M4) ∧ (¬ p2 ≤ (M4 (48 + r2) 1) → J62 r2 (1 : Int32) M4))) ∧ (¬ p3 ≤ (M4 (48 + r2) 2) → X "java/lang/IllegalArgumentException" M4))))))))))) X)
set_option maxRecDepth 20000 in
set_option maxHeartbeats 4000000 in
theorem p_X6_sell {G : Gx} {ad : Nat → Nat} {lf : Nat → Int64} (hA : Inj ad) {p1 : Int32} {p2 : Int32} {p3 : Int32} {p4 : Int32} {M : Mem} {Q : Mem → Prop} {X : String → Mem → Prop} {QF : va_W → Prop} {XF : String → va_W → Prop}  (h : P_X6_sell p1 p2 p3 p4 M Q X) (hq : ∀ M, Q M → QF (wM ad (gc G) lf M)) (hx : ∀ E M, X E M → XF E (wM ad (gc G) lf M)) : F_X6_sell G (ad 0) p1 p2 p3 p4 (wM ad (gc G) lf M) QF XF := by
  intro J62 J78 J94 J105 J146 J171 c62 c78 c94 c105 c146 c171
  replace h := h (fun x5 t0 M => x5 < 60 → J62 (ad (48 + x5)) t0 (wM ad (gc G) lf M)) (fun x5 x6 t0 M => x5 < 60 → J78 (ad (48 + x5)) x6 t0 (wM ad (gc G) lf M)) (fun x5 x6 x7 t0 t1 M => x5 < 60 → J94 (ad (48 + x5)) x6 x7 t0 t1 (wM ad (gc G) lf M)) (fun x5 x6 x7 t0 t1 M => x5 < 60 → J105 (ad (48 + x5)) x6 x7 t0 t1 (wM ad (gc G) lf M)) (fun x5 x7 M => x5 < 60 → J146 (ad (48 + x5)) x7 (wM ad (gc G) lf M)) (fun x5 M => x5 < 60 → J171 (ad (48 + x5)) (wM ad (gc G) lf M))
  replace h := h (by
    intro x5 t0 M h hx5
    refine c62 _ _ _ ?_
    refine i_I (k := (48 + x5)) (fl_S hx5) rfl ?_
    refine ⟨fun hc => ?_, fun hc => ?_⟩
    · replace h := h.1 hc
      exact h hx5
    · replace h := h.2 hc
      exact h hx5)
  replace h := h (by
    intro x5 x6 t0 M h hx5
    refine c78 _ _ _ _ ?_
    refine i_I (k := 0) fl_X6 rfl ?_
    refine ⟨fun hc => ?_, fun hc => ?_⟩
    · replace h := h.1 hc
      exact h hx5
    · replace h := h.2 hc
      exact h hx5)
  replace h := h (by
    intro x5 x6 x7 t0 t1 M h hx5
    refine c94 _ _ _ _ _ _ ?_
    refine ⟨fun hc => ?_, fun hc => ?_⟩
    · replace h := h.1 hc
      exact h hx5
    · replace h := h.2 hc
      exact h hx5)
  replace h := h (by
    intro x5 x6 x7 t0 t1 M h hx5
    refine c105 _ _ _ _ _ _ ?_
    refine ⟨fun hc => ?_, fun hc => ?_⟩
    · replace h := h.1 hc
      refine ⟨fun hc => ?_, fun hc => ?_⟩
      · replace h := h.1 hc
        exact h hx5
      · replace h := h.2 hc
        refine i_I (k := (48 + x5)) (fl_S hx5) rfl ?_
        refine i_I (k := (48 + x5)) (fl_S hx5) rfl ?_
        refine i_I (k := (48 + x5)) (fl_S hx5) rfl ?_
        refine ⟨i_V (k := 0) fl_X6, p_X6_addShare hA h (fun M7 h => ?_)⟩
        exact h hx5
    · replace h := h.2 hc
      exact hx _ _ h)
  replace h := h (by
    intro x5 x7 M h hx5
    refine c146 _ _ _ ?_
    refine ⟨fun hc => ?_, fun hc => ?_⟩
    · replace h := h.1 hc
      exact h hx5
    · replace h := h.2 hc
      refine i_I (k := (48 + x5)) (fl_S hx5) rfl ?_
      refine i_I (k := (48 + x5)) (fl_S hx5) rfl ?_
      refine i_I (k := (48 + x5)) (fl_S hx5) rfl ?_
      refine ⟨i_V (k := 0) fl_X6, p_X6_addShare hA h (fun M10 h => ?_)⟩
      exact h hx5)
  replace h := h (by
    intro x5 M h hx5
    refine c171 _ _ ?_
    refine i_I (k := (48 + x5)) (fl_S hx5) rfl ?_
    refine ⟨i_V (k := (48 + x5)) (fl_S hx5), p_X4_become hA hx5 h (fun M13 h => ?_)⟩
    exact hq _ h)
  refine ⟨i_V (k := 0) fl_X6, p_X6_unletAt hA h (fun r2 M1 hb3 h => ?_) (fun E M h => hx _ _ h)⟩
  refine p_X6_isOwner hA h (fun r5 M4 h => ?_)
  refine ⟨fun hc => ?_, fun hc => ?_⟩
  · replace h := h.1 hc
    exact hx _ _ h
  · replace h := h.2 hc
    refine i_I (k := (48 + r2)) (fl_S hb3) rfl ?_
    refine ⟨fun hc => ?_, fun hc => ?_⟩
    · replace h := h.1 hc
      exact hx _ _ h
    · replace h := h.2 hc
      refine ⟨fun hc => ?_, fun hc => ?_⟩
      · replace h := h.1 hc
        exact hx _ _ h
      · replace h := h.2 hc
        refine i_I (k := (48 + r2)) (fl_S hb3) rfl ?_
        refine ⟨fun hc => ?_, fun hc => ?_⟩
        · replace h := h.1 hc
          refine i_I (k := (48 + r2)) (fl_S hb3) rfl ?_
          refine ⟨fun hc => ?_, fun hc => ?_⟩
          · replace h := h.1 hc
            exact h hb3
          · replace h := h.2 hc
            exact h hb3
        · replace h := h.2 hc
          exact hx _ _ h
