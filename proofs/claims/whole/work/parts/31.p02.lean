def P_X6_weighOwners (p1 : Int32) (M : Mem) (Q : Mem → Prop) : Prop := ∀ (J2 : Int32 → Mem → Prop), ∀ (J36 : Int32 → Mem → Prop), ∀ (J39 : Int32 → Int32 → Mem → Prop), ∀ (J104 : Int32 → Int32 → Mem → Prop), ∀ (J103 : Int32 → Int32 → Int32 → Int32 → Mem → Prop), (∀ (x2 : Int32) (M : Mem), (((30 : Int32) < x2 → (vp_in (2 : Int32) 4 ∧ ((¬ (M 5 (2 : Int32).toNatClampNeg) = (1 : Int32) → J36 (0 : Int32) M) ∧ ((M 5 (2 : Int32).toNatClampNeg) = (1 : Int32) → J36 (1 : Int32) M)))) ∧ (¬ (30 : Int32) < x2 → (vp_in x2 31 ∧ pW 112 x2.toNatClampNeg (0 : Int32) M (fun M1 => J2 (x2 + (1 : Int32)) M1)))) → J2 x2 M) → (∀ (t0 : Int32) (M : Mem), J39 t0 (0 : Int32) M → J36 t0 M) → (∀ (x2 : Int32) (x3 : Int32) (M : Mem), (((M 0 11) ≤ x3 → Q M) ∧ (¬ (M 0 11) ≤ x3 → (vp_in x3 60 ∧ ((¬ (M (48 + (x3.toNatClampNeg)) 0) = p1 → J104 x2 x3 M) ∧ ((M (48 + (x3.toNatClampNeg)) 0) = p1 → ((x2 = 0 → (vp_in (M (48 + (x3.toNatClampNeg)) 3) 31 ∧ J103 x2 x3 (((M 112 (M (48 + (x3.toNatClampNeg)) 3).toNatClampNeg) + (M (48 + (x3.toNatClampNeg)) 2)) - (M (48 + (x3.toNatClampNeg)) 1)) (M (48 + (x3.toNatClampNeg)) 3) M)) ∧ (¬ x2 = 0 → J103 x2 x3 (1 : Int32) (M (48 + (x3.toNatClampNeg)) 3) M))))))) → J39 x2 x3 M) → (∀ (x2 : Int32) (x3 : Int32) (M : Mem), J39 x2 (x3 + (1 : Int32)) M → J104 x2 x3 M) → (∀ (x2 : Int32) (x3 : Int32) (t0 : Int32) (t1 : Int32) (M : Mem), (vp_in t1 31 ∧ pW 112 t1.toNatClampNeg t0 M (fun M3 => J104 x2 x3 M3)) → J103 x2 x3 t0 t1 M) → J2 (0 : Int32) M
set_option maxRecDepth 20000 in
set_option maxHeartbeats 4000000 in
theorem p_X6_weighOwners {G : Gx} {ad : Nat → Nat} {lf : Nat → Int64} (hA : Inj ad) {p1 : Int32} {M : Mem} {Q : Mem → Prop} {QF : va_W → Prop}  (h : P_X6_weighOwners p1 M Q) (hq : ∀ M, Q M → QF (wM ad (gc G) lf M)) : F_X6_weighOwners G (ad 0) p1 (wM ad (gc G) lf M) QF := by
  intro J2 J36 J39 J104 J103 c2 c36 c39 c104 c103
  replace h := h (fun x2 M => J2 x2 (wM ad (gc G) lf M)) (fun t0 M => J36 t0 (wM ad (gc G) lf M)) (fun x2 x3 M => J39 x2 x3 (wM ad (gc G) lf M)) (fun x2 x3 M => J104 x2 x3 (wM ad (gc G) lf M)) (fun x2 x3 t0 t1 M => J103 x2 x3 t0 t1 (ad 112) (wM ad (gc G) lf M))
  replace h := h (by
    intro x2 M h
    refine c2 _ _ ?_
    refine ⟨fun hc => ?_, fun hc => ?_⟩
    · replace h := h.1 hc
      refine i_R (k := 0) fl_X6 rfl ?_
      obtain ⟨hi, h⟩ := h
      refine i_A (k := 5) ar_5 hi ?_
      refine ⟨fun hc => ?_, fun hc => ?_⟩
      · replace h := h.1 hc
        exact h
      · replace h := h.2 hc
        exact h
    · replace h := h.2 hc
      refine i_R (k := 0) fl_X6 rfl ?_
      obtain ⟨hi, h⟩ := h
      refine i_S (k := 112) ar_112 hi ?_
      replace h := pW_at h
      generalize hM : mup M 112 x2.toNatClampNeg (0 : Int32) = M1 at h ⊢
      clear hM
      exact h)
  replace h := h (by
    intro t0 M h
    refine c36 _ _ ?_
    exact h)
  replace h := h (by
    intro x2 x3 M h
    refine c39 _ _ _ ?_
    refine i_I (k := 0) fl_X6 rfl ?_
    refine ⟨fun hc => ?_, fun hc => ?_⟩
    · replace h := h.1 hc
      exact hq _ h
    · replace h := h.2 hc
      refine i_R (k := 0) fl_X6 rfl ?_
      obtain ⟨hi2, h⟩ := h
      refine i_QS hi2 ?_
      refine i_I (k := (48 + (x3.toNatClampNeg))) (fl_S (vp_lt hi2)) rfl ?_
      refine ⟨fun hc => ?_, fun hc => ?_⟩
      · replace h := h.1 hc
        exact h
      · replace h := h.2 hc
        refine i_R (k := 0) fl_X6 rfl ?_
        refine i_I (k := (48 + (x3.toNatClampNeg))) (fl_S (vp_lt hi2)) rfl ?_
        refine ⟨fun hc => ?_, fun hc => ?_⟩
        · replace h := h.1 hc
          refine i_R (k := 0) fl_X6 rfl ?_
          refine i_I (k := (48 + (x3.toNatClampNeg))) (fl_S (vp_lt hi2)) rfl ?_
          obtain ⟨hi, h⟩ := h
          refine i_A (k := 112) ar_112 hi ?_
          refine i_I (k := (48 + (x3.toNatClampNeg))) (fl_S (vp_lt hi2)) rfl ?_
          refine i_I (k := (48 + (x3.toNatClampNeg))) (fl_S (vp_lt hi2)) rfl ?_
          exact h
        · replace h := h.2 hc
          exact h)
  replace h := h (by
    intro x2 x3 M h
    refine c104 _ _ _ ?_
    exact h)
  replace h := h (by
    intro x2 x3 t0 t1 M h
    refine c103 _ _ _ _ _ _ ?_
    obtain ⟨hi, h⟩ := h
    refine i_S (k := 112) ar_112 hi ?_
    replace h := pW_at h
    generalize hM : mup M 112 t1.toNatClampNeg t0 = M3 at h ⊢
    clear hM
    exact h)
  exact h
def P_X6_paidBy (p1 : Int32) (p2 : Int32) (M : Mem) (Q : Int32 → Mem → Prop) : Prop := ∀ (J5 : Int32 → Int32 → Mem → Prop), ∀ (J37 : Int32 → Int32 → Int32 → Int32 → Mem → Prop), ∀ (J120 : Int32 → Int32 → Mem → Prop), ∀ (J80 : Int32 → Int32 → Int32 → Int32 → Mem → Prop), (∀ (x3 : Int32) (x4 : Int32) (M : Mem), (((30 : Int32) < x4 → J37 x3 p2 (0 : Int32) (0 : Int32) M) ∧ (¬ (30 : Int32) < x4 → (vp_in x4 31 ∧ J5 (x3 + (M 112 x4.toNatClampNeg)) (x4 + (1 : Int32)) M))) → J5 x3 x4 M) → (∀ (x3 : Int32) (x4 : Int32) (x5 : Int32) (x6 : Int32) (M : Mem), (((30 : Int32) < x6 → (vp_in p1 31 ∧ ((¬ (M 112 p1.toNatClampNeg) = 0 → (vp_in p1 31 ∧ (P_X6_partOf p2 (M 112 p1.toNatClampNeg) x3 M (fun r2 M1 => ((x4 ≤ x5 → J120 (0 : Int32) r2 M1) ∧ (¬ x4 ≤ x5 → J120 (1 : Int32) r2 M1)))))) ∧ ((M 112 p1.toNatClampNeg) = 0 → Q (0 : Int32) M)))) ∧ (¬ (30 : Int32) < x6 → (vp_in x6 31 ∧ (P_X6_partOf p2 (M 112 x6.toNatClampNeg) x3 M (fun r5 M4 => ((p1 ≤ x6 → J80 x3 (x4 - r5) x5 x6 M4) ∧ (¬ p1 ≤ x6 → (vp_in x6 31 ∧ (((M4 112 x6.toNatClampNeg) ≤ 0 → J80 x3 (x4 - r5) x5 x6 M4) ∧ (¬ (M4 112 x6.toNatClampNeg) ≤ 0 → J80 x3 (x4 - r5) (x5 + (1 : Int32)) x6 M4)))))))))) → J37 x3 x4 x5 x6 M) → (∀ (t0 : Int32) (t1 : Int32) (M : Mem), Q (t1 + t0) M → J120 t0 t1 M) → (∀ (x3 : Int32) (x4 : Int32) (x5 : Int32) (x6 : Int32) (M : Mem), J37 x3 x4 x5 (x6 + (1 : Int32)) M → J80 x3 x4 x5 x6 M) → J5 (0 : Int32) (0 : Int32) M
set_option maxRecDepth 20000 in
set_option maxHeartbeats 4000000 in
theorem p_X6_paidBy {G : Gx} {ad : Nat → Nat} {lf : Nat → Int64} (hA : Inj ad) {p1 : Int32} {p2 : Int32} {M : Mem} {Q : Int32 → Mem → Prop} {QF : Int32 → va_W → Prop}  (h : P_X6_paidBy p1 p2 M Q) (hq : ∀ r M, Q r M → QF r (wM ad (gc G) lf M)) : F_X6_paidBy G (ad 0) p1 p2 (wM ad (gc G) lf M) QF := by
  intro J5 J37 J120 J80 c5 c37 c120 c80
  replace h := h (fun x3 x4 M => J5 x3 x4 (wM ad (gc G) lf M)) (fun x3 x4 x5 x6 M => J37 x3 x4 x5 x6 (wM ad (gc G) lf M)) (fun t0 t1 M => J120 t0 t1 (wM ad (gc G) lf M)) (fun x3 x4 x5 x6 M => J80 x3 x4 x5 x6 (wM ad (gc G) lf M))
  replace h := h (by
    intro x3 x4 M h
    refine c5 _ _ _ ?_
    refine ⟨fun hc => ?_, fun hc => ?_⟩
    · replace h := h.1 hc
      exact h
    · replace h := h.2 hc
      refine i_R (k := 0) fl_X6 rfl ?_
      obtain ⟨hi, h⟩ := h
      refine i_A (k := 112) ar_112 hi ?_
      exact h)
  replace h := h (by
    intro x3 x4 x5 x6 M h
    refine c37 _ _ _ _ _ ?_
    refine ⟨fun hc => ?_, fun hc => ?_⟩
    · replace h := h.1 hc
      refine i_R (k := 0) fl_X6 rfl ?_
      obtain ⟨hi, h⟩ := h
      refine i_A (k := 112) ar_112 hi ?_
      refine ⟨fun hc => ?_, fun hc => ?_⟩
      · replace h := h.1 hc
        refine i_R (k := 0) fl_X6 rfl ?_
        obtain ⟨hi, h⟩ := h
        refine i_A (k := 112) ar_112 hi ?_
        refine p_X6_partOf hA h (fun r2 M1 h => ?_)
        refine ⟨fun hc => ?_, fun hc => ?_⟩
        · replace h := h.1 hc
          exact h
        · replace h := h.2 hc
          exact h
      · replace h := h.2 hc
        exact hq _ _ h
    · replace h := h.2 hc
      refine i_R (k := 0) fl_X6 rfl ?_
      obtain ⟨hi, h⟩ := h
      refine i_A (k := 112) ar_112 hi ?_
      refine p_X6_partOf hA h (fun r5 M4 h => ?_)
      refine ⟨fun hc => ?_, fun hc => ?_⟩
      · replace h := h.1 hc
        exact h
      · replace h := h.2 hc
        refine i_R (k := 0) fl_X6 rfl ?_
        obtain ⟨hi, h⟩ := h
        refine i_A (k := 112) ar_112 hi ?_
        refine ⟨fun hc => ?_, fun hc => ?_⟩
        · replace h := h.1 hc
          exact h
        · replace h := h.2 hc
          exact h)
  replace h := h (by
    intro t0 t1 M h
    refine c120 _ _ _ ?_
    exact hq _ _ h)
  replace h := h (by
    intro x3 x4 x5 x6 M h
    refine c80 _ _ _ _ _ ?_
    exact h)
  exact h
def P_X6_pays (p1 : Int32) (p2 : Int32) (p3 : Int32) (M : Mem) (Q : Int32 → Mem → Prop) (X : String → Mem → Prop) : Prop := (P_X6_dugAt p1 M (fun r2 M1 => (P_X6_isOwner p2 M1 (fun r5 M4 => ((r5 = 0 → X "java/lang/IllegalArgumentException" M4) ∧ (¬ r5 = 0 → (P_X6_isWithin p3 (0 : Int32) (1000000 : Int32) M4 (fun r8 M7 => ((¬ r8 = 0 → (P_X6_weighOwners p1 M7 (fun M10 => (vp_in (3 : Int32) 4 ∧ (P_X6_partOf p3 (M10 5 (3 : Int32).toNatClampNeg) (100 : Int32) M10 (fun r14 M13 => (P_X6_paidBy p2 (p3 - r14) M13 (fun r17 M16 => Q r17 M16)))))))) ∧ (r8 = 0 → X "java/lang/IllegalArgumentException" M7))))))))) X)
set_option maxRecDepth 20000 in
set_option maxHeartbeats 4000000 in
theorem p_X6_pays {G : Gx} {ad : Nat → Nat} {lf : Nat → Int64} (hA : Inj ad) {p1 : Int32} {p2 : Int32} {p3 : Int32} {M : Mem} {Q : Int32 → Mem → Prop} {X : String → Mem → Prop} {QF : Int32 → va_W → Prop} {XF : String → va_W → Prop}  (h : P_X6_pays p1 p2 p3 M Q X) (hq : ∀ r M, Q r M → QF r (wM ad (gc G) lf M)) (hx : ∀ E M, X E M → XF E (wM ad (gc G) lf M)) : F_X6_pays G (ad 0) p1 p2 p3 (wM ad (gc G) lf M) QF XF := by
  unfold P_X6_pays at h
  unfold F_X6_pays
  refine ⟨i_V (k := 0) fl_X6, p_X6_dugAt hA h (fun r2 M1 hb3 h => ?_) (fun E M h => hx _ _ h)⟩
  refine p_X6_isOwner hA h (fun r5 M4 h => ?_)
  refine ⟨fun hc => ?_, fun hc => ?_⟩
  · replace h := h.1 hc
    exact hx _ _ h
  · replace h := h.2 hc
    refine p_X6_isWithin hA h (fun r8 M7 h => ?_)
    refine ⟨fun hc => ?_, fun hc => ?_⟩
    · replace h := h.1 hc
      refine ⟨i_V (k := 0) fl_X6, p_X6_weighOwners hA h (fun M10 h => ?_)⟩
      refine i_R (k := 0) fl_X6 rfl ?_
      obtain ⟨hi, h⟩ := h
      refine i_A (k := 5) ar_5 hi ?_
      refine p_X6_partOf hA h (fun r14 M13 h => ?_)
      refine ⟨i_V (k := 0) fl_X6, p_X6_paidBy hA h (fun r17 M16 h => ?_)⟩
      exact hq _ _ h
    · replace h := h.2 hc
      exact hx _ _ h
def P_X1_addField (p1 : Int32) (p2 : Int32) (p3 : Int32) (M : Mem) (Q : Mem → Prop) : Prop := (((9 : Int32) ≤ (M 113 4) → Q M) ∧ (¬ (9 : Int32) ≤ (M 113 4) → (vp_in (M 113 4) 9 ∧ pW 114 (M 113 4).toNatClampNeg p1 M (fun M1 => (vp_in (M1 113 4) 9 ∧ pW 115 (M1 113 4).toNatClampNeg p2 M1 (fun M2 => (vp_in (M2 113 4) 9 ∧ pW 116 (M2 113 4).toNatClampNeg p3 M2 (fun M3 => pW 113 4 ((M3 113 4) + (1 : Int32)) M3 (fun M4 => Q M4)))))))))
set_option maxRecDepth 20000 in
set_option maxHeartbeats 4000000 in
theorem p_X1_addField {G : Gx} {ad : Nat → Nat} {lf : Nat → Int64} (hA : Inj ad) {p1 : Int32} {p2 : Int32} {p3 : Int32} {M : Mem} {Q : Mem → Prop} {QF : va_W → Prop}  (h : P_X1_addField p1 p2 p3 M Q) (hq : ∀ M, Q M → QF (wM ad (gc G) lf M)) : F_X1_addField G (ad 113) p1 p2 p3 (wM ad (gc G) lf M) QF := by
  unfold P_X1_addField at h
  unfold F_X1_addField
  refine i_I (k := 113) fl_X1 rfl ?_
  refine ⟨fun hc => ?_, fun hc => ?_⟩
  · replace h := h.1 hc
    exact hq _ h
  · replace h := h.2 hc
    refine i_R (k := 113) fl_X1 rfl ?_
    refine i_I (k := 113) fl_X1 rfl ?_
    obtain ⟨hi, h⟩ := h
    refine i_S (k := 114) ar_114 hi ?_
    replace h := pW_at h
    generalize hM : mup M 114 (M 113 4).toNatClampNeg p1 = M1 at h ⊢
    clear hM
    refine i_R (k := 113) fl_X1 rfl ?_
    refine i_I (k := 113) fl_X1 rfl ?_
    obtain ⟨hi, h⟩ := h
    refine i_S (k := 115) ar_115 hi ?_
    replace h := pW_at h
    generalize hM : mup M1 115 (M1 113 4).toNatClampNeg p2 = M2 at h ⊢
    clear hM
    refine i_R (k := 113) fl_X1 rfl ?_
    refine i_I (k := 113) fl_X1 rfl ?_
    obtain ⟨hi, h⟩ := h
    refine i_S (k := 116) ar_116 hi ?_
    replace h := pW_at h
    generalize hM : mup M2 116 (M2 113 4).toNatClampNeg p3 = M3 at h ⊢
    clear hM
    refine i_I (k := 113) fl_X1 rfl ?_
    refine i_P (k := 113) fl_X1 rfl ?_
    replace h := pW_at h
    generalize hM : mup M3 113 4 ((M3 113 4) + (1 : Int32)) = M4 at h ⊢
    clear hM
    exact hq _ h
def P_X6_field (p1 : Int32) (p2 : Int32) (p3 : Int32) (M : Mem) (Q : Int32 → Mem → Prop) (X : String → Mem → Prop) : Prop := (P_X6_isWithin p1 (1 : Int32) (1000 : Int32) M (fun r2 M1 => ((r2 = 0 → X "java/lang/IllegalArgumentException" M1) ∧ (¬ r2 = 0 → (P_X6_isWithin p2 (0 : Int32) (10000 : Int32) M1 (fun r5 M4 => ((r5 = 0 → X "java/lang/IllegalArgumentException" M4) ∧ (¬ r5 = 0 → (P_X6_isWithin p3 (0 : Int32) (100 : Int32) M4 (fun r8 M7 => ((¬ r8 = 0 → (((M7 113 4) < (9 : Int32) → (P_X1_addField p1 p2 p3 M7 (fun M10 => Q (M10 113 4) M10))) ∧ (¬ (M7 113 4) < (9 : Int32) → Q (-1 : Int32) M7))) ∧ (r8 = 0 → X "java/lang/IllegalArgumentException" M7))))))))))))
set_option maxRecDepth 20000 in
set_option maxHeartbeats 4000000 in
theorem p_X6_field {G : Gx} {ad : Nat → Nat} {lf : Nat → Int64} (hA : Inj ad) {p1 : Int32} {p2 : Int32} {p3 : Int32} {M : Mem} {Q : Int32 → Mem → Prop} {X : String → Mem → Prop} {QF : Int32 → va_W → Prop} {XF : String → va_W → Prop}  (h : P_X6_field p1 p2 p3 M Q X) (hq : ∀ r M, Q r M → QF r (wM ad (gc G) lf M)) (hx : ∀ E M, X E M → XF E (wM ad (gc G) lf M)) : F_X6_field G (ad 0) p1 p2 p3 (wM ad (gc G) lf M) QF XF := by
  unfold P_X6_field at h
  unfold F_X6_field
  refine p_X6_isWithin hA h (fun r2 M1 h => ?_)
  refine ⟨fun hc => ?_, fun hc => ?_⟩
  · replace h := h.1 hc
    exact hx _ _ h
  · replace h := h.2 hc
    refine p_X6_isWithin hA h (fun r5 M4 h => ?_)
    refine ⟨fun hc => ?_, fun hc => ?_⟩
    · replace h := h.1 hc
      exact hx _ _ h
    · replace h := h.2 hc
      refine p_X6_isWithin hA h (fun r8 M7 h => ?_)
      refine ⟨fun hc => ?_, fun hc => ?_⟩
      · replace h := h.1 hc
        refine i_R (k := 0) fl_X6 rfl ?_
        refine i_I (k := 113) fl_X1 rfl ?_
        refine ⟨fun hc => ?_, fun hc => ?_⟩
        · replace h := h.1 hc
          refine i_R (k := 0) fl_X6 rfl ?_
          refine ⟨i_V (k := 113) fl_X1, p_X1_addField hA h (fun M10 h => ?_)⟩
          refine i_R (k := 0) fl_X6 rfl ?_
          refine i_I (k := 113) fl_X1 rfl ?_
          exact hq _ _ h
        · replace h := h.2 hc
          exact hq _ _ h
      · replace h := h.2 hc
        exact hx _ _ h
def P_X1_minutesOf (p1 : Int32) (M : Mem) (Q : Int32 → Mem → Prop) : Prop := ∀ (J4 : Int32 → Int32 → Mem → Prop), ∀ (J32 : Int32 → Int32 → Int32 → Mem → Prop), (∀ (x2 : Int32) (x3 : Int32) (M : Mem), (((M 113 4) ≤ x3 → Q x2 M) ∧ (¬ (M 113 4) ≤ x3 → ((¬ ((p1 >>> (x3 &&& 31)) &&& (1 : Int32)) = (1 : Int32) → J32 x3 (0 : Int32) x2 M) ∧ (((p1 >>> (x3 &&& 31)) &&& (1 : Int32)) = (1 : Int32) → (vp_in x3 9 ∧ J32 x3 (M 114 x3.toNatClampNeg) x2 M))))) → J4 x2 x3 M) → (∀ (x3 : Int32) (t0 : Int32) (t1 : Int32) (M : Mem), J4 (t1 + t0) (x3 + (1 : Int32)) M → J32 x3 t0 t1 M) → J4 (0 : Int32) (0 : Int32) M
set_option maxRecDepth 20000 in
set_option maxHeartbeats 4000000 in
theorem p_X1_minutesOf {G : Gx} {ad : Nat → Nat} {lf : Nat → Int64} (hA : Inj ad) {p1 : Int32} {M : Mem} {Q : Int32 → Mem → Prop} {QF : Int32 → va_W → Prop}  (h : P_X1_minutesOf p1 M Q) (hq : ∀ r M, Q r M → QF r (wM ad (gc G) lf M)) : F_X1_minutesOf G (ad 113) p1 (wM ad (gc G) lf M) QF := by
  intro J4 J32 c4 c32
  replace h := h (fun x2 x3 M => J4 x2 x3 (wM ad (gc G) lf M)) (fun x3 t0 t1 M => J32 x3 t0 t1 (wM ad (gc G) lf M))
  replace h := h (by
    intro x2 x3 M h
    refine c4 _ _ _ ?_
    refine i_I (k := 113) fl_X1 rfl ?_
    refine ⟨fun hc => ?_, fun hc => ?_⟩
    · replace h := h.1 hc
      exact hq _ _ h
    · replace h := h.2 hc
      refine ⟨fun hc => ?_, fun hc => ?_⟩
      · replace h := h.1 hc
        exact h
      · replace h := h.2 hc
        refine i_R (k := 113) fl_X1 rfl ?_
        obtain ⟨hi, h⟩ := h
        refine i_A (k := 114) ar_114 hi ?_
        exact h)
  replace h := h (by
    intro x3 t0 t1 M h
    refine c32 _ _ _ _ ?_
    exact h)
  exact h
def P_X1_leastLoss  (M : Mem) (Q : Int32 → Mem → Prop) : Prop := ∀ (J16 : Int32 → Int32 → Mem → Prop), ∀ (J38 : Int32 → Int32 → Int32 → Int32 → Mem → Prop), ∀ (J109 : Int32 → Int32 → Int32 → Int32 → Mem → Prop), (∀ (x1 : Int32) (x2 : Int32) (M : Mem), ((x1 ≤ x2 → (vp_in (x1 - (1 : Int32)) 512 ∧ Q (M 117 (x1 - (1 : Int32)).toNatClampNeg) M)) ∧ (¬ x1 ≤ x2 → (P_X1_minutesOf x2 M (fun r3 M2 => (vp_in x2 512 ∧ pW 117 x2.toNatClampNeg (1000000000 : Int32) M2 (fun M5 => J38 x1 x2 r3 (0 : Int32) M5)))))) → J16 x1 x2 M) → (∀ (x1 : Int32) (x2 : Int32) (x3 : Int32) (x4 : Int32) (M : Mem), (((M 113 4) ≤ x4 → J16 x1 (x2 + (1 : Int32)) M) ∧ (¬ (M 113 4) ≤ x4 → ((¬ ((x2 >>> (x4 &&& 31)) &&& (1 : Int32)) = (1 : Int32) → J109 x1 x2 x3 x4 M) ∧ (((x2 >>> (x4 &&& 31)) &&& (1 : Int32)) = (1 : Int32) → (vp_in x4 9 ∧ (vp_in x4 9 ∧ (vp_in x2 512 ∧ (vp_in (x2 ^^^ ((1 : Int32) <<< (x4 &&& 31))) 512 ∧ (vp_in x2 512 ∧ pW 117 x2.toNatClampNeg (if ((M 117 (x2 ^^^ ((1 : Int32) <<< (x4 &&& 31))).toNatClampNeg) + ((M 116 x4.toNatClampNeg) * (if (0 : Int32) < (x3 - (M 115 x4.toNatClampNeg)) then (x3 - (M 115 x4.toNatClampNeg)) else (0 : Int32)))) < (M 117 x2.toNatClampNeg) then ((M 117 (x2 ^^^ ((1 : Int32) <<< (x4 &&& 31))).toNatClampNeg) + ((M 116 x4.toNatClampNeg) * (if (0 : Int32) < (x3 - (M 115 x4.toNatClampNeg)) then (x3 - (M 115 x4.toNatClampNeg)) else (0 : Int32)))) else (M 117 x2.toNatClampNeg)) M (fun M6 => J109 x1 x2 x3 x4 M6)))))))))) → J38 x1 x2 x3 x4 M) → (∀ (x1 : Int32) (x2 : Int32) (x3 : Int32) (x4 : Int32) (M : Mem), J38 x1 x2 x3 (x4 + (1 : Int32)) M → J109 x1 x2 x3 x4 M) → (vp_in (0 : Int32) 512 ∧ pW 117 (0 : Int32).toNatClampNeg (0 : Int32) M (fun M1 => J16 ((1 : Int32) <<< ((M 113 4) &&& 31)) (1 : Int32) M1))
set_option maxRecDepth 20000 in
set_option maxHeartbeats 4000000 in
theorem p_X1_leastLoss {G : Gx} {ad : Nat → Nat} {lf : Nat → Int64} (hA : Inj ad)  {M : Mem} {Q : Int32 → Mem → Prop} {QF : Int32 → va_W → Prop}  (h : P_X1_leastLoss  M Q) (hq : ∀ r M, Q r M → QF r (wM ad (gc G) lf M)) : F_X1_leastLoss G (ad 113) (wM ad (gc G) lf M) QF := by
  intro J16 J38 J109 c16 c38 c109
  replace h := h (fun x1 x2 M => J16 x1 x2 (wM ad (gc G) lf M)) (fun x1 x2 x3 x4 M => J38 x1 x2 x3 x4 (wM ad (gc G) lf M)) (fun x1 x2 x3 x4 M => J109 x1 x2 x3 x4 (wM ad (gc G) lf M))
  replace h := h (by
    intro x1 x2 M h
    refine c16 _ _ _ ?_
    refine ⟨fun hc => ?_, fun hc => ?_⟩
    · replace h := h.1 hc
      refine i_R (k := 113) fl_X1 rfl ?_
      obtain ⟨hi, h⟩ := h
      refine i_A (k := 117) ar_117 hi ?_
      exact hq _ _ h
    · replace h := h.2 hc
      refine ⟨i_V (k := 113) fl_X1, p_X1_minutesOf hA h (fun r3 M2 h => ?_)⟩
      refine i_R (k := 113) fl_X1 rfl ?_
      obtain ⟨hi, h⟩ := h
      refine i_S (k := 117) ar_117 hi ?_
      replace h := pW_at h
      generalize hM : mup M2 117 x2.toNatClampNeg (1000000000 : Int32) = M5 at h ⊢
      clear hM
      exact h)
  replace h := h (by
    intro x1 x2 x3 x4 M h
    refine c38 _ _ _ _ _ ?_
    refine i_I (k := 113) fl_X1 rfl ?_
    refine ⟨fun hc => ?_, fun hc => ?_⟩
    · replace h := h.1 hc
      exact h
    · replace h := h.2 hc
      refine ⟨fun hc => ?_, fun hc => ?_⟩
      · replace h := h.1 hc
        exact h
      · replace h := h.2 hc
        refine i_R (k := 113) fl_X1 rfl ?_
        obtain ⟨hi, h⟩ := h
        refine i_A (k := 116) ar_116 hi ?_
        refine i_R (k := 113) fl_X1 rfl ?_
        obtain ⟨hi, h⟩ := h
        refine i_A (k := 115) ar_115 hi ?_
        refine i_R (k := 113) fl_X1 rfl ?_
        refine i_R (k := 113) fl_X1 rfl ?_
        obtain ⟨hi, h⟩ := h
        refine i_A (k := 117) ar_117 hi ?_
        refine i_R (k := 113) fl_X1 rfl ?_
        obtain ⟨hi, h⟩ := h
        refine i_A (k := 117) ar_117 hi ?_
        obtain ⟨hi, h⟩ := h
        refine i_S (k := 117) ar_117 hi ?_
        replace h := pW_at h
        generalize hM : mup M 117 x2.toNatClampNeg (if ((M 117 (x2 ^^^ ((1 : Int32) <<< (x4 &&& 31))).toNatClampNeg) + ((M 116 x4.toNatClampNeg) * (if (0 : Int32) < (x3 - (M 115 x4.toNatClampNeg)) then (x3 - (M 115 x4.toNatClampNeg)) else (0 : Int32)))) < (M 117 x2.toNatClampNeg) then ((M 117 (x2 ^^^ ((1 : Int32) <<< (x4 &&& 31))).toNatClampNeg) + ((M 116 x4.toNatClampNeg) * (if (0 : Int32) < (x3 - (M 115 x4.toNatClampNeg)) then (x3 - (M 115 x4.toNatClampNeg)) else (0 : Int32)))) else (M 117 x2.toNatClampNeg)) = M6 at h ⊢
        clear hM
        exact h)
  replace h := h (by
    intro x1 x2 x3 x4 M h
    refine c109 _ _ _ _ _ ?_
    exact h)
  refine i_I (k := 113) fl_X1 rfl ?_
  refine i_R (k := 113) fl_X1 rfl ?_
  obtain ⟨hi, h⟩ := h
  refine i_S (k := 117) ar_117 hi ?_
  replace h := pW_at h
  generalize hM : mup M 117 (0 : Int32).toNatClampNeg (0 : Int32) = M1 at h ⊢
  clear hM
  exact h
def P_X6_least  (M : Mem) (Q : Int32 → Mem → Prop) : Prop := (P_X1_leastLoss M (fun r2 M1 => pW 113 4 (0 : Int32) M1 (fun M4 => Q r2 M4)))
set_option maxRecDepth 20000 in
set_option maxHeartbeats 4000000 in
theorem p_X6_least {G : Gx} {ad : Nat → Nat} {lf : Nat → Int64} (hA : Inj ad)  {M : Mem} {Q : Int32 → Mem → Prop} {QF : Int32 → va_W → Prop}  (h : P_X6_least  M Q) (hq : ∀ r M, Q r M → QF r (wM ad (gc G) lf M)) : F_X6_least G (ad 0) (wM ad (gc G) lf M) QF := by
  unfold P_X6_least at h
  unfold F_X6_least
  refine i_R (k := 0) fl_X6 rfl ?_
  refine ⟨i_V (k := 113) fl_X1, p_X1_leastLoss hA h (fun r2 M1 h => ?_)⟩
  refine i_R (k := 0) fl_X6 rfl ?_
  refine i_P (k := 113) fl_X1 rfl ?_
  replace h := pW_at h
  generalize hM : mup M1 113 4 (0 : Int32) = M4 at h ⊢
  clear hM
  exact hq _ _ h
def P_X6_letShares  (M : Mem) (Q : Int32 → Mem → Prop) : Prop := ∀ (J4 : Int32 → Int32 → Mem → Prop), ∀ (J31 : Int32 → Int32 → Mem → Prop), (∀ (x1 : Int32) (x2 : Int32) (M : Mem), (((M 0 11) ≤ x2 → Q x1 M) ∧ (¬ (M 0 11) ≤ x2 → (vp_in x2 60 ∧ (P_X4_isLetFrom (x2.toNatClampNeg) (M 0 12) M (fun r3 M2 => ((r3 = 0 → J31 x1 x2 M2) ∧ (¬ r3 = 0 → J31 (x1 + (1 : Int32)) x2 M2))))))) → J4 x1 x2 M) → (∀ (x1 : Int32) (x2 : Int32) (M : Mem), J4 x1 (x2 + (1 : Int32)) M → J31 x1 x2 M) → J4 (0 : Int32) (0 : Int32) M
set_option maxRecDepth 20000 in
set_option maxHeartbeats 4000000 in
theorem p_X6_letShares {G : Gx} {ad : Nat → Nat} {lf : Nat → Int64} (hA : Inj ad)  {M : Mem} {Q : Int32 → Mem → Prop} {QF : Int32 → va_W → Prop}  (h : P_X6_letShares  M Q) (hq : ∀ r M, Q r M → QF r (wM ad (gc G) lf M)) : F_X6_letShares G (ad 0) (wM ad (gc G) lf M) QF := by
  intro J4 J31 c4 c31
  replace h := h (fun x1 x2 M => J4 x1 x2 (wM ad (gc G) lf M)) (fun x1 x2 M => J31 x1 x2 (wM ad (gc G) lf M))
  replace h := h (by
    intro x1 x2 M h
    refine c4 _ _ _ ?_
    refine i_I (k := 0) fl_X6 rfl ?_
    refine ⟨fun hc => ?_, fun hc => ?_⟩
    · replace h := h.1 hc
      exact hq _ _ h
    · replace h := h.2 hc
      refine i_R (k := 0) fl_X6 rfl ?_
      obtain ⟨hi1, h⟩ := h
      refine i_QS hi1 ?_
      refine i_I (k := 0) fl_X6 rfl ?_
      refine ⟨i_V (k := (48 + (x2.toNatClampNeg))) (fl_S (vp_lt hi1)), p_X4_isLetFrom hA (vp_lt hi1) h (fun r3 M2 h => ?_)⟩
      refine ⟨fun hc => ?_, fun hc => ?_⟩
      · replace h := h.1 hc
        exact h
      · replace h := h.2 hc
        exact h)
  replace h := h (by
    intro x1 x2 M h
    refine c31 _ _ _ ?_
    exact h)
  exact h
def P_X6_flowOfAll  (M : Mem) (Q : Int32 → Mem → Prop) : Prop := ∀ (J4 : Int32 → Int32 → Mem → Prop), ∀ (J41 : Int32 → Int32 → Mem → Prop), (∀ (x1 : Int32) (x2 : Int32) (M : Mem), (((M 0 5) ≤ x2 → Q x1 M) ∧ (¬ (M 0 5) ≤ x2 → (vp_in x2 8 ∧ (P_X0_isDug (x2.toNatClampNeg) M (fun r3 M2 => ((r3 = 0 → J41 x1 x2 M2) ∧ (¬ r3 = 0 → (vp_in x2 8 ∧ (P_X6_flowOf (x2.toNatClampNeg) (M2 0 6) M2 (fun r7 M6 => J41 (x1 + r7) x2 M6)))))))))) → J4 x1 x2 M) → (∀ (x1 : Int32) (x2 : Int32) (M : Mem), J4 x1 (x2 + (1 : Int32)) M → J41 x1 x2 M) → J4 (0 : Int32) (0 : Int32) M
set_option maxRecDepth 20000 in
set_option maxHeartbeats 4000000 in
theorem p_X6_flowOfAll {G : Gx} {ad : Nat → Nat} {lf : Nat → Int64} (hA : Inj ad)  {M : Mem} {Q : Int32 → Mem → Prop} {QF : Int32 → va_W → Prop}  (h : P_X6_flowOfAll  M Q) (hq : ∀ r M, Q r M → QF r (wM ad (gc G) lf M)) : F_X6_flowOfAll G (ad 0) (wM ad (gc G) lf M) QF := by
  intro J4 J41 c4 c41
  replace h := h (fun x1 x2 M => J4 x1 x2 (wM ad (gc G) lf M)) (fun x1 x2 M => J41 x1 x2 (wM ad (gc G) lf M))
  replace h := h (by
    intro x1 x2 M h
    refine c4 _ _ _ ?_
    refine i_I (k := 0) fl_X6 rfl ?_
    refine ⟨fun hc => ?_, fun hc => ?_⟩
    · replace h := h.1 hc
      exact hq _ _ h
    · replace h := h.2 hc
      refine i_R (k := 0) fl_X6 rfl ?_
      obtain ⟨hi1, h⟩ := h
      refine i_QC hi1 ?_
      refine ⟨i_V (k := (7 + 5 * (x2.toNatClampNeg))) (fl_C (vp_lt hi1)), p_X0_isDug hA (vp_lt hi1) h (fun r3 M2 h => ?_)⟩
      refine ⟨fun hc => ?_, fun hc => ?_⟩
      · replace h := h.1 hc
        exact h
      · replace h := h.2 hc
        refine i_R (k := 0) fl_X6 rfl ?_
        obtain ⟨hi5, h⟩ := h
        refine i_QC hi5 ?_
        refine i_I (k := 0) fl_X6 rfl ?_
        refine ⟨i_V (k := 0) fl_X6, p_X6_flowOf hA (vp_lt hi5) h (fun r7 M6 h => ?_)⟩
        exact h)
  replace h := h (by
    intro x1 x2 M h
    refine c41 _ _ _ ?_
    exact h)
  exact h
def P_X6_count (p1 : Int32) (M : Mem) (Q : Int32 → Mem → Prop) : Prop := ((p1 = (0 : Int32) → Q (M 0 5) M) ∧ (p1 = (1 : Int32) → Q (M 0 6) M) ∧ (p1 = (2 : Int32) → Q (M 0 9) M) ∧ (p1 = (3 : Int32) → Q (M 0 12) M) ∧ (p1 = (4 : Int32) → Q (M 0 11) M) ∧ (p1 = (5 : Int32) → (P_X6_letShares M (fun r2 M1 => Q r2 M1))) ∧ (p1 = (6 : Int32) → Q (M 113 4) M) ∧ (p1 = (7 : Int32) → (P_X6_flowOfAll M (fun r5 M4 => Q r5 M4))) ∧ ((p1.toInt < 0 ∨ (7 : Int) < p1.toInt) → Q (-1 : Int32) M))
set_option maxRecDepth 20000 in
set_option maxHeartbeats 4000000 in
theorem p_X6_count {G : Gx} {ad : Nat → Nat} {lf : Nat → Int64} (hA : Inj ad) {p1 : Int32} {M : Mem} {Q : Int32 → Mem → Prop} {QF : Int32 → va_W → Prop}  (h : P_X6_count p1 M Q) (hq : ∀ r M, Q r M → QF r (wM ad (gc G) lf M)) : F_X6_count G (ad 0) p1 (wM ad (gc G) lf M) QF := by
  unfold P_X6_count at h
  unfold F_X6_count
  refine ⟨fun hc => ?_, fun hc => ?_, fun hc => ?_, fun hc => ?_, fun hc => ?_, fun hc => ?_, fun hc => ?_, fun hc => ?_, fun hc => ?_⟩
  · replace h := h.1 hc
    refine i_I (k := 0) fl_X6 rfl ?_
    exact hq _ _ h
  · replace h := h.2.1 hc
    refine i_I (k := 0) fl_X6 rfl ?_
    exact hq _ _ h
  · replace h := h.2.2.1 hc
    refine i_I (k := 0) fl_X6 rfl ?_
    exact hq _ _ h
  · replace h := h.2.2.2.1 hc
    refine i_I (k := 0) fl_X6 rfl ?_
    exact hq _ _ h
  · replace h := h.2.2.2.2.1 hc
    refine i_I (k := 0) fl_X6 rfl ?_
    exact hq _ _ h
  · replace h := h.2.2.2.2.2.1 hc
    refine ⟨i_V (k := 0) fl_X6, p_X6_letShares hA h (fun r2 M1 h => ?_)⟩
    exact hq _ _ h
  · replace h := h.2.2.2.2.2.2.1 hc
    refine i_R (k := 0) fl_X6 rfl ?_
    refine i_I (k := 113) fl_X1 rfl ?_
    exact hq _ _ h
  · replace h := h.2.2.2.2.2.2.2.1 hc
    refine ⟨i_V (k := 0) fl_X6, p_X6_flowOfAll hA h (fun r5 M4 h => ?_)⟩
    exact hq _ _ h
  · replace h := h.2.2.2.2.2.2.2.2 hc
    exact hq _ _ h
def P_X7_thrown  (M : Mem) (Q : Int32 → Mem → Prop) : Prop := Q (M 118 0) M
set_option maxRecDepth 20000 in
set_option maxHeartbeats 4000000 in
theorem p_X7_thrown {G : Gx} {ad : Nat → Nat} {lf : Nat → Int64} (hA : Inj ad)  {M : Mem} {Q : Int32 → Mem → Prop} {QF : Int32 → va_W → Prop}  (h : P_X7_thrown  M Q) (hq : ∀ r M, Q r M → QF r (wM ad (gc G) lf M)) : F_X7_thrown G (ad 118) (wM ad (gc G) lf M) QF := by
  unfold P_X7_thrown at h
  unfold F_X7_thrown
  refine i_I (k := 118) fl_X7 rfl ?_
  exact hq _ _ h
def P_X7_throwsIf (p1 : Int32) (p2 : Int32) (M : Mem) (Q : Int32 → Mem → Prop) : Prop := ((p1 = 0 → ((p1 = 0 ∨ p1 = 1) ∧ Q p1 M)) ∧ (¬ p1 = 0 → pW 118 0 p2 M (fun M1 => ((p1 = 0 ∨ p1 = 1) ∧ Q p1 M1))))
set_option maxRecDepth 20000 in
set_option maxHeartbeats 4000000 in
theorem p_X7_throwsIf {G : Gx} {ad : Nat → Nat} {lf : Nat → Int64} (hA : Inj ad) {p1 : Int32} {p2 : Int32} {M : Mem} {Q : Int32 → Mem → Prop} {QF : Int32 → va_W → Prop}  (h : P_X7_throwsIf p1 p2 M Q) (hq : ∀ r M, Q r M → QF r (wM ad (gc G) lf M)) : F_X7_throwsIf G (ad 118) p1 p2 (wM ad (gc G) lf M) QF := by
  unfold P_X7_throwsIf at h
  unfold F_X7_throwsIf
  refine ⟨fun hc => ?_, fun hc => ?_⟩
  · replace h := h.1 hc
    exact ⟨h.1, hq _ _ h.2⟩
  · replace h := h.2 hc
    refine i_P (k := 118) fl_X7 rfl ?_
    replace h := pW_at h
    generalize hM : mup M 118 0 p2 = M1 at h ⊢
    clear hM
    exact ⟨h.1, hq _ _ h.2⟩
def P_X7_in (p0 : Int32) (p1 : Int32) (p2 : Int32) (M : Mem) (Q : Int32 → Mem → Prop) : Prop := ((p0 < p1 → Q (0 : Int32) M) ∧ (¬ p0 < p1 → ((p2 < p0 → Q (0 : Int32) M) ∧ (¬ p2 < p0 → Q (1 : Int32) M))))
set_option maxRecDepth 20000 in
set_option maxHeartbeats 4000000 in
theorem p_X7_in {G : Gx} {ad : Nat → Nat} {lf : Nat → Int64} (hA : Inj ad) {p0 : Int32} {p1 : Int32} {p2 : Int32} {M : Mem} {Q : Int32 → Mem → Prop} {QF : Int32 → va_W → Prop}  (h : P_X7_in p0 p1 p2 M Q) (hq : ∀ r M, Q r M → QF r (wM ad (gc G) lf M)) : F_X7_in G p0 p1 p2 (wM ad (gc G) lf M) QF := by
  unfold P_X7_in at h
  unfold F_X7_in
  refine ⟨fun hc => ?_, fun hc => ?_⟩
  · replace h := h.1 hc
    exact hq _ _ h
  · replace h := h.2 hc
    refine ⟨fun hc => ?_, fun hc => ?_⟩
    · replace h := h.1 hc
      exact hq _ _ h
    · replace h := h.2 hc
      exact hq _ _ h
def P_X7_noChannel (p1 : Int32) (M : Mem) (Q : Int32 → Mem → Prop) : Prop := (P_X7_in p1 (0 : Int32) ((M 118 10) - (1 : Int32)) M (fun r2 M1 => ((¬ r2 = 0 → Q (0 : Int32) M1) ∧ (r2 = 0 → Q (1 : Int32) M1))))
set_option maxRecDepth 20000 in
set_option maxHeartbeats 4000000 in
theorem p_X7_noChannel {G : Gx} {ad : Nat → Nat} {lf : Nat → Int64} (hA : Inj ad) {p1 : Int32} {M : Mem} {Q : Int32 → Mem → Prop} {QF : Int32 → va_W → Prop}  (h : P_X7_noChannel p1 M Q) (hq : ∀ r M, Q r M → QF r (wM ad (gc G) lf M)) : F_X7_noChannel G (ad 118) p1 (wM ad (gc G) lf M) QF := by
  unfold P_X7_noChannel at h
  unfold F_X7_noChannel
  refine i_I (k := 118) fl_X7 rfl ?_
  refine p_X7_in hA h (fun r2 M1 h => ?_)
  refine ⟨fun hc => ?_, fun hc => ?_⟩
  · replace h := h.1 hc
    exact hq _ _ h
  · replace h := h.2 hc
    exact hq _ _ h
def P_X7_noWell (p1 : Int32) (p2 : Int32) (M : Mem) (Q : Int32 → Mem → Prop) : Prop := (P_X7_noChannel p1 M (fun r2 M1 => ((¬ r2 = 0 → Q (1 : Int32) M1) ∧ (r2 = 0 → (vp_in p1 8 ∧ (P_X7_in p2 (0 : Int32) ((M1 119 p1.toNatClampNeg) - (1 : Int32)) M1 (fun r5 M4 => ((¬ r5 = 0 → Q (0 : Int32) M4) ∧ (r5 = 0 → Q (1 : Int32) M4)))))))))
set_option maxRecDepth 20000 in
set_option maxHeartbeats 4000000 in
theorem p_X7_noWell {G : Gx} {ad : Nat → Nat} {lf : Nat → Int64} (hA : Inj ad) {p1 : Int32} {p2 : Int32} {M : Mem} {Q : Int32 → Mem → Prop} {QF : Int32 → va_W → Prop}  (h : P_X7_noWell p1 p2 M Q) (hq : ∀ r M, Q r M → QF r (wM ad (gc G) lf M)) : F_X7_noWell G (ad 118) p1 p2 (wM ad (gc G) lf M) QF := by
  unfold P_X7_noWell at h
  unfold F_X7_noWell
  refine ⟨i_V (k := 118) fl_X7, p_X7_noChannel hA h (fun r2 M1 h => ?_)⟩
  refine ⟨fun hc => ?_, fun hc => ?_⟩
  · replace h := h.1 hc
    exact hq _ _ h
  · replace h := h.2 hc
    refine i_R (k := 118) fl_X7 rfl ?_
    obtain ⟨hi, h⟩ := h
    refine i_A (k := 119) ar_119 hi ?_
    refine p_X7_in hA h (fun r5 M4 h => ?_)
    refine ⟨fun hc => ?_, fun hc => ?_⟩
    · replace h := h.1 hc
      exact hq _ _ h
    · replace h := h.2 hc
      exact hq _ _ h
def P_X7_noShare (p1 : Int32) (M : Mem) (Q : Int32 → Mem → Prop) : Prop := (P_X7_in p1 (0 : Int32) ((M 118 17) - (1 : Int32)) M (fun r2 M1 => ((¬ r2 = 0 → Q (0 : Int32) M1) ∧ (r2 = 0 → Q (1 : Int32) M1))))
set_option maxRecDepth 20000 in
set_option maxHeartbeats 4000000 in
theorem p_X7_noShare {G : Gx} {ad : Nat → Nat} {lf : Nat → Int64} (hA : Inj ad) {p1 : Int32} {M : Mem} {Q : Int32 → Mem → Prop} {QF : Int32 → va_W → Prop}  (h : P_X7_noShare p1 M Q) (hq : ∀ r M, Q r M → QF r (wM ad (gc G) lf M)) : F_X7_noShare G (ad 118) p1 (wM ad (gc G) lf M) QF := by
  unfold P_X7_noShare at h
  unfold F_X7_noShare
  refine i_I (k := 118) fl_X7 rfl ?_
  refine p_X7_in hA h (fun r2 M1 h => ?_)
  refine ⟨fun hc => ?_, fun hc => ?_⟩
  · replace h := h.1 hc
    exact hq _ _ h
  · replace h := h.2 hc
    exact hq _ _ h
def P_X7_ground (p1 : Int32) (p2 : Int32) (M : Mem) (Q : Mem → Prop) : Prop := ∀ (J27 : Mem → Prop), ∀ (J32 : Int32 → Mem → Prop), (∀ (M : Mem), J32 (1 : Int32) M → J27 M) → (∀ (t0 : Int32) (M : Mem), (P_X7_throwsIf t0 (1 : Int32) M (fun r9 M8 => ((r9 = 0 → pW 118 1 p1 M8 (fun M11 => pW 118 2 p2 M11 (fun M12 => Q M12))) ∧ (¬ r9 = 0 → Q M8)))) → J32 t0 M) → pW 118 0 (0 : Int32) M (fun M1 => (P_X7_in p1 (0 : Int32) (2000 : Int32) M1 (fun r3 M2 => ((r3 = 0 → J27 M2) ∧ (¬ r3 = 0 → (P_X7_in p2 (0 : Int32) (20 : Int32) M2 (fun r6 M5 => ((¬ r6 = 0 → J32 (0 : Int32) M5) ∧ (r6 = 0 → J27 M5)))))))))
set_option maxRecDepth 20000 in
set_option maxHeartbeats 4000000 in
theorem p_X7_ground {G : Gx} {ad : Nat → Nat} {lf : Nat → Int64} (hA : Inj ad) {p1 : Int32} {p2 : Int32} {M : Mem} {Q : Mem → Prop} {QF : va_W → Prop}  (h : P_X7_ground p1 p2 M Q) (hq : ∀ M, Q M → QF (wM ad (gc G) lf M)) : F_X7_ground G (ad 118) p1 p2 (wM ad (gc G) lf M) QF := by
  intro J27 J32 c27 c32
  replace h := h (fun M => J27 (ad 118) (wM ad (gc G) lf M)) (fun t0 M => J32 t0 (ad 118) (wM ad (gc G) lf M))
  replace h := h (by
    intro M h
    refine c27 _ _ ?_
    exact h)
  replace h := h (by
    intro t0 M h
    refine c32 _ _ _ ?_
    refine ⟨i_V (k := 118) fl_X7, p_X7_throwsIf hA h (fun r9 M8 h => ?_)⟩
    refine ⟨fun hc => ?_, fun hc => ?_⟩
    · replace h := h.1 hc
      refine i_P (k := 118) fl_X7 rfl ?_
      replace h := pW_at h
      generalize hM : mup M8 118 1 p1 = M11 at h ⊢
      clear hM
      refine i_P (k := 118) fl_X7 rfl ?_
      replace h := pW_at h
      generalize hM : mup M11 118 2 p2 = M12 at h ⊢
      clear hM
      exact hq _ h
    · replace h := h.2 hc
      exact hq _ h)
  refine i_P (k := 118) fl_X7 rfl ?_
  replace h := pW_at h
  generalize hM : mup M 118 0 (0 : Int32) = M1 at h ⊢
  clear hM
  refine p_X7_in hA h (fun r3 M2 h => ?_)
  refine ⟨fun hc => ?_, fun hc => ?_⟩
  · replace h := h.1 hc
    exact h
  · replace h := h.2 hc
    refine p_X7_in hA h (fun r6 M5 h => ?_)
    refine ⟨fun hc => ?_, fun hc => ?_⟩
    · replace h := h.1 hc
      exact h
    · replace h := h.2 hc
      exact h
def P_X7_channel  (M : Mem) (Q : Int32 → Mem → Prop) : Prop := ∀ (J20 : Int32 → Mem → Prop), (∀ (t0 : Int32) (M : Mem), (P_X7_throwsIf t0 (1 : Int32) M (fun r3 M2 => ((r3 = 0 → pW 118 10 ((M2 118 10) + (1 : Int32)) M2 (fun M5 => Q ((M5 118 10) - (1 : Int32)) M5)) ∧ (¬ r3 = 0 → Q (0 : Int32) M2)))) → J20 t0 M) → pW 118 0 (0 : Int32) M (fun M1 => ((¬ (M1 118 10) = (8 : Int32) → J20 (0 : Int32) M1) ∧ ((M1 118 10) = (8 : Int32) → J20 (1 : Int32) M1)))
set_option maxRecDepth 20000 in
set_option maxHeartbeats 4000000 in
theorem p_X7_channel {G : Gx} {ad : Nat → Nat} {lf : Nat → Int64} (hA : Inj ad)  {M : Mem} {Q : Int32 → Mem → Prop} {QF : Int32 → va_W → Prop}  (h : P_X7_channel  M Q) (hq : ∀ r M, Q r M → QF r (wM ad (gc G) lf M)) : F_X7_channel G (ad 118) (wM ad (gc G) lf M) QF := by
  intro J20 c20
  replace h := h (fun t0 M => J20 t0 (ad 118) (wM ad (gc G) lf M))
  replace h := h (by
    intro t0 M h
    refine c20 _ _ _ ?_
    refine ⟨i_V (k := 118) fl_X7, p_X7_throwsIf hA h (fun r3 M2 h => ?_)⟩
    refine ⟨fun hc => ?_, fun hc => ?_⟩
    · replace h := h.1 hc
      refine i_I (k := 118) fl_X7 rfl ?_
      refine i_P (k := 118) fl_X7 rfl ?_
      replace h := pW_at h
      generalize hM : mup M2 118 10 ((M2 118 10) + (1 : Int32)) = M5 at h ⊢
      clear hM
      refine i_I (k := 118) fl_X7 rfl ?_
      exact hq _ _ h
    · replace h := h.2 hc
      exact hq _ _ h)
  refine i_P (k := 118) fl_X7 rfl ?_
  replace h := pW_at h
  generalize hM : mup M 118 0 (0 : Int32) = M1 at h ⊢
  clear hM
  refine i_I (k := 118) fl_X7 rfl ?_
  refine ⟨fun hc => ?_, fun hc => ?_⟩
  · replace h := h.1 hc
    exact h
  · replace h := h.2 hc
    exact h
def P_X7_well (p1 : Int32) (p2 : Int32) (p3 : Int32) (p4 : Int32) (M : Mem) (Q : Int32 → Mem → Prop) : Prop := ∀ (J106 : Int32 → Mem → Prop), ∀ (J102 : Int32 → Mem → Prop), ∀ (J107 : Int32 → Int32 → Mem → Prop), ∀ (J120 : Int32 → Int32 → Mem → Prop), ∀ (J144 : Int32 → Int32 → Mem → Prop), (∀ (x5 : Int32) (M : Mem), J107 x5 (0 : Int32) M → J106 x5 M) → (∀ (x5 : Int32) (M : Mem), J107 x5 (1 : Int32) M → J102 x5 M) → (∀ (x5 : Int32) (t0 : Int32) (M : Mem), ((¬ t0 = 0 → J120 x5 (0 : Int32) M) ∧ (t0 = 0 → J120 x5 (1 : Int32) M)) → J107 x5 t0 M) → (∀ (x5 : Int32) (t0 : Int32) (M : Mem), (P_X7_throwsIf t0 (3 : Int32) M (fun r21 M20 => ((¬ r21 = 0 → Q (0 : Int32) M20) ∧ (r21 = 0 → (vp_in p1 8 ∧ ((¬ (M20 119 p1.toNatClampNeg) = (20 : Int32) → J144 x5 (0 : Int32) M20) ∧ ((M20 119 p1.toNatClampNeg) = (20 : Int32) → J144 x5 (1 : Int32) M20))))))) → J120 x5 t0 M) → (∀ (x5 : Int32) (t0 : Int32) (M : Mem), (P_X7_throwsIf t0 (4 : Int32) M (fun r24 M23 => ((r24 = 0 → (vp_in x5 160 ∧ pW 124 x5.toNatClampNeg p2 M23 (fun M26 => (vp_in x5 160 ∧ pW 125 x5.toNatClampNeg p3 M26 (fun M27 => (vp_in x5 160 ∧ pW 126 x5.toNatClampNeg p4 M27 (fun M28 => (vp_in p1 8 ∧ (vp_in p1 8 ∧ pW 119 p1.toNatClampNeg ((M28 119 p1.toNatClampNeg) + (1 : Int32)) M28 (fun M29 => (vp_in p1 8 ∧ Q ((M29 119 p1.toNatClampNeg) - (1 : Int32)) M29))))))))))) ∧ (¬ r24 = 0 → Q (0 : Int32) M23)))) → J144 x5 t0 M) → pW 118 0 (0 : Int32) M (fun M1 => (P_X7_noChannel p1 M1 (fun r3 M2 => (P_X7_throwsIf r3 (1 : Int32) M2 (fun r6 M5 => ((¬ r6 = 0 → Q (0 : Int32) M5) ∧ (r6 = 0 → (vp_in p1 8 ∧ (P_X7_throwsIf (M5 120 p1.toNatClampNeg) (2 : Int32) M5 (fun r9 M8 => ((r9 = 0 → (vp_in p1 8 ∧ (P_X7_in p2 (0 : Int32) (100 : Int32) M8 (fun r12 M11 => ((r12 = 0 → J106 (((20 : Int32) * p1) + (M8 119 p1.toNatClampNeg)) M11) ∧ (¬ r12 = 0 → (P_X7_in p3 (0 : Int32) (100 : Int32) M11 (fun r15 M14 => ((r15 = 0 → J106 (((20 : Int32) * p1) + (M8 119 p1.toNatClampNeg)) M14) ∧ (¬ r15 = 0 → (P_X7_in p4 (0 : Int32) (1000 : Int32) M14 (fun r18 M17 => ((r18 = 0 → J106 (((20 : Int32) * p1) + (M8 119 p1.toNatClampNeg)) M17) ∧ (¬ r18 = 0 → (vp_in p1 8 ∧ (((M17 119 p1.toNatClampNeg) = 0 → J102 (((20 : Int32) * p1) + (M8 119 p1.toNatClampNeg)) M17) ∧ (¬ (M17 119 p1.toNatClampNeg) = 0 → (vp_in ((((20 : Int32) * p1) + (M8 119 p1.toNatClampNeg)) - (1 : Int32)) 160 ∧ ((p4 < (M17 126 ((((20 : Int32) * p1) + (M8 119 p1.toNatClampNeg)) - (1 : Int32)).toNatClampNeg) → J106 (((20 : Int32) * p1) + (M8 119 p1.toNatClampNeg)) M17) ∧ (¬ p4 < (M17 126 ((((20 : Int32) * p1) + (M8 119 p1.toNatClampNeg)) - (1 : Int32)).toNatClampNeg) → J102 (((20 : Int32) * p1) + (M8 119 p1.toNatClampNeg)) M17)))))))))))))))))))) ∧ (¬ r9 = 0 → Q (0 : Int32) M8))))))))))))
set_option maxRecDepth 20000 in
set_option maxHeartbeats 4000000 in
theorem p_X7_well {G : Gx} {ad : Nat → Nat} {lf : Nat → Int64} (hA : Inj ad) {p1 : Int32} {p2 : Int32} {p3 : Int32} {p4 : Int32} {M : Mem} {Q : Int32 → Mem → Prop} {QF : Int32 → va_W → Prop}  (h : P_X7_well p1 p2 p3 p4 M Q) (hq : ∀ r M, Q r M → QF r (wM ad (gc G) lf M)) : F_X7_well G (ad 118) p1 p2 p3 p4 (wM ad (gc G) lf M) QF := by
  intro J106 J102 J107 J120 J144 c106 c102 c107 c120 c144
  replace h := h (fun x5 M => J106 x5 (wM ad (gc G) lf M)) (fun x5 M => J102 x5 (wM ad (gc G) lf M)) (fun x5 t0 M => J107 x5 t0 (wM ad (gc G) lf M)) (fun x5 t0 M => J120 x5 t0 (ad 118) (wM ad (gc G) lf M)) (fun x5 t0 M => J144 x5 t0 (ad 118) (wM ad (gc G) lf M))
  replace h := h (by
    intro x5 M h
    refine c106 _ _ ?_
    exact h)
  replace h := h (by
    intro x5 M h
    refine c102 _ _ ?_
    exact h)
  replace h := h (by
    intro x5 t0 M h
    refine c107 _ _ _ ?_
    refine ⟨fun hc => ?_, fun hc => ?_⟩
    · replace h := h.1 hc
      exact h
    · replace h := h.2 hc
      exact h)
  replace h := h (by
    intro x5 t0 M h
    refine c120 _ _ _ _ ?_
    refine ⟨i_V (k := 118) fl_X7, p_X7_throwsIf hA h (fun r21 M20 h => ?_)⟩
    refine ⟨fun hc => ?_, fun hc => ?_⟩
    · replace h := h.1 hc
      exact hq _ _ h
    · replace h := h.2 hc
      refine i_R (k := 118) fl_X7 rfl ?_
      obtain ⟨hi, h⟩ := h
      refine i_A (k := 119) ar_119 hi ?_
      refine ⟨fun hc => ?_, fun hc => ?_⟩
      · replace h := h.1 hc
        exact h
      · replace h := h.2 hc
        exact h)
  replace h := h (by
    intro x5 t0 M h
    refine c144 _ _ _ _ ?_
    refine ⟨i_V (k := 118) fl_X7, p_X7_throwsIf hA h (fun r24 M23 h => ?_)⟩
    refine ⟨fun hc => ?_, fun hc => ?_⟩
    · replace h := h.1 hc
      refine i_R (k := 118) fl_X7 rfl ?_
      obtain ⟨hi, h⟩ := h
      refine i_S (k := 124) ar_124 hi ?_
      replace h := pW_at h
      generalize hM : mup M23 124 x5.toNatClampNeg p2 = M26 at h ⊢
      clear hM
      refine i_R (k := 118) fl_X7 rfl ?_
      obtain ⟨hi, h⟩ := h
      refine i_S (k := 125) ar_125 hi ?_
      replace h := pW_at h
      generalize hM : mup M26 125 x5.toNatClampNeg p3 = M27 at h ⊢
      clear hM
      refine i_R (k := 118) fl_X7 rfl ?_
      obtain ⟨hi, h⟩ := h
      refine i_S (k := 126) ar_126 hi ?_
      replace h := pW_at h
      generalize hM : mup M27 126 x5.toNatClampNeg p4 = M28 at h ⊢
      clear hM
      refine i_R (k := 118) fl_X7 rfl ?_
      obtain ⟨hi, h⟩ := h
      refine i_A (k := 119) ar_119 hi ?_
      obtain ⟨hi, h⟩ := h
      refine i_S (k := 119) ar_119 hi ?_
      replace h := pW_at h
      generalize hM : mup M28 119 p1.toNatClampNeg ((M28 119 p1.toNatClampNeg) + (1 : Int32)) = M29 at h ⊢
      clear hM
      refine i_R (k := 118) fl_X7 rfl ?_
      obtain ⟨hi, h⟩ := h
      refine i_A (k := 119) ar_119 hi ?_
      exact hq _ _ h
    · replace h := h.2 hc
      exact hq _ _ h)
  refine i_P (k := 118) fl_X7 rfl ?_
  replace h := pW_at h
  generalize hM : mup M 118 0 (0 : Int32) = M1 at h ⊢
  clear hM
  refine ⟨i_V (k := 118) fl_X7, p_X7_noChannel hA h (fun r3 M2 h => ?_)⟩
  refine ⟨i_V (k := 118) fl_X7, p_X7_throwsIf hA h (fun r6 M5 h => ?_)⟩
  refine ⟨fun hc => ?_, fun hc => ?_⟩
  · replace h := h.1 hc
    exact hq _ _ h
  · replace h := h.2 hc
    refine i_R (k := 118) fl_X7 rfl ?_
    obtain ⟨hi, h⟩ := h
    refine i_A (k := 120) ar_120 hi ?_
    refine ⟨i_V (k := 118) fl_X7, p_X7_throwsIf hA h (fun r9 M8 h => ?_)⟩
    refine ⟨fun hc => ?_, fun hc => ?_⟩
    · replace h := h.1 hc
      refine i_R (k := 118) fl_X7 rfl ?_
      obtain ⟨hi, h⟩ := h
      refine i_A (k := 119) ar_119 hi ?_
      refine p_X7_in hA h (fun r12 M11 h => ?_)
      refine ⟨fun hc => ?_, fun hc => ?_⟩
      · replace h := h.1 hc
        exact h
      · replace h := h.2 hc
        refine p_X7_in hA h (fun r15 M14 h => ?_)
        refine ⟨fun hc => ?_, fun hc => ?_⟩
        · replace h := h.1 hc
          exact h
        · replace h := h.2 hc
          refine p_X7_in hA h (fun r18 M17 h => ?_)
          refine ⟨fun hc => ?_, fun hc => ?_⟩
          · replace h := h.1 hc
            exact h
          · replace h := h.2 hc
            refine i_R (k := 118) fl_X7 rfl ?_
            obtain ⟨hi, h⟩ := h
            refine i_A (k := 119) ar_119 hi ?_
            refine ⟨fun hc => ?_, fun hc => ?_⟩
            · replace h := h.1 hc
              exact h
            · replace h := h.2 hc
              refine i_R (k := 118) fl_X7 rfl ?_
              obtain ⟨hi, h⟩ := h
              refine i_A (k := 126) ar_126 hi ?_
              refine ⟨fun hc => ?_, fun hc => ?_⟩
              · replace h := h.1 hc
                exact h
              · replace h := h.2 hc
                exact h
    · replace h := h.2 hc
      exact hq _ _ h
def P_X7_steps (p0 : Int32) (p1 : Int32) (p2 : Int32) (p3 : Int32) (M : Mem) (Q : Int32 → Mem → Prop) : Prop := Q (if (if 0 ≤ (p0 - p2) then (p0 - p2) else 0 - (p0 - p2)) < (if 0 ≤ (p1 - p3) then (p1 - p3) else 0 - (p1 - p3)) then (if 0 ≤ (p1 - p3) then (p1 - p3) else 0 - (p1 - p3)) else (if 0 ≤ (p0 - p2) then (p0 - p2) else 0 - (p0 - p2))) M
set_option maxRecDepth 20000 in
set_option maxHeartbeats 4000000 in
theorem p_X7_steps {G : Gx} {ad : Nat → Nat} {lf : Nat → Int64} (hA : Inj ad) {p0 : Int32} {p1 : Int32} {p2 : Int32} {p3 : Int32} {M : Mem} {Q : Int32 → Mem → Prop} {QF : Int32 → va_W → Prop}  (h : P_X7_steps p0 p1 p2 p3 M Q) (hq : ∀ r M, Q r M → QF r (wM ad (gc G) lf M)) : F_X7_steps G p0 p1 p2 p3 (wM ad (gc G) lf M) QF := by
  unfold P_X7_steps at h
  unfold F_X7_steps
  exact hq _ _ h
def P_X7_mayBe (p1 : Int32) (M : Mem) (Q : Int32 → Mem → Prop) : Prop := ∀ (J17 : Int32 → Mem → Prop), ∀ (J34 : Int32 → Int32 → Mem → Prop), ∀ (J60 : Int32 → Int32 → Int32 → Mem → Prop), ∀ (J145 : Int32 → Int32 → Mem → Prop), ∀ (J139 : Int32 → Int32 → Int32 → Mem → Prop), (∀ (x2 : Int32) (M : Mem), (vp_in p1 8 ∧ (((((20 : Int32) * p1) + (M 119 p1.toNatClampNeg)) ≤ x2 → Q (1 : Int32) M) ∧ (¬ (((20 : Int32) * p1) + (M 119 p1.toNatClampNeg)) ≤ x2 → J34 x2 (0 : Int32) M))) → J17 x2 M) → (∀ (x2 : Int32) (x3 : Int32) (M : Mem), (((M 118 10) ≤ x3 → J17 (x2 + (1 : Int32)) M) ∧ (¬ (M 118 10) ≤ x3 → (vp_in x3 8 ∧ ((¬ (M 120 x3.toNatClampNeg) = 0 → J60 x2 x3 ((20 : Int32) * x3) M) ∧ ((M 120 x3.toNatClampNeg) = 0 → J145 x2 x3 M))))) → J34 x2 x3 M) → (∀ (x2 : Int32) (x3 : Int32) (x4 : Int32) (M : Mem), (vp_in x3 8 ∧ (((((20 : Int32) * x3) + (M 119 x3.toNatClampNeg)) ≤ x4 → J145 x2 x3 M) ∧ (¬ (((20 : Int32) * x3) + (M 119 x3.toNatClampNeg)) ≤ x4 → (vp_in x2 160 ∧ (vp_in x2 160 ∧ (vp_in x4 160 ∧ (vp_in x4 160 ∧ (P_X7_steps (M 124 x2.toNatClampNeg) (M 125 x2.toNatClampNeg) (M 124 x4.toNatClampNeg) (M 125 x4.toNatClampNeg) M (fun r2 M1 => (vp_in (0 : Int32) 4 ∧ (((M1 132 (0 : Int32).toNatClampNeg) ≤ r2 → J139 x2 x3 x4 M1) ∧ (¬ (M1 132 (0 : Int32).toNatClampNeg) ≤ r2 → (vp_in x2 160 ∧ (vp_in x4 160 ∧ (vp_in (1 : Int32) 4 ∧ ((((M1 126 x4.toNatClampNeg) + (M1 132 (1 : Int32).toNatClampNeg)) ≤ (M1 126 x2.toNatClampNeg) → J139 x2 x3 x4 M1) ∧ (¬ ((M1 126 x4.toNatClampNeg) + (M1 132 (1 : Int32).toNatClampNeg)) ≤ (M1 126 x2.toNatClampNeg) → Q (0 : Int32) M1))))))))))))))))) → J60 x2 x3 x4 M) → (∀ (x2 : Int32) (x3 : Int32) (M : Mem), J34 x2 (x3 + (1 : Int32)) M → J145 x2 x3 M) → (∀ (x2 : Int32) (x3 : Int32) (x4 : Int32) (M : Mem), J60 x2 x3 (x4 + (1 : Int32)) M → J139 x2 x3 x4 M) → (vp_in p1 8 ∧ (((2 : Int32) ≤ (M 119 p1.toNatClampNeg) → J17 ((20 : Int32) * p1) M) ∧ (¬ (2 : Int32) ≤ (M 119 p1.toNatClampNeg) → Q (0 : Int32) M)))
set_option maxRecDepth 20000 in
set_option maxHeartbeats 4000000 in
theorem p_X7_mayBe {G : Gx} {ad : Nat → Nat} {lf : Nat → Int64} (hA : Inj ad) {p1 : Int32} {M : Mem} {Q : Int32 → Mem → Prop} {QF : Int32 → va_W → Prop}  (h : P_X7_mayBe p1 M Q) (hq : ∀ r M, Q r M → QF r (wM ad (gc G) lf M)) : F_X7_mayBe G (ad 118) p1 (wM ad (gc G) lf M) QF := by
  intro J17 J34 J60 J145 J139 c17 c34 c60 c145 c139
  replace h := h (fun x2 M => J17 x2 (wM ad (gc G) lf M)) (fun x2 x3 M => J34 x2 x3 (wM ad (gc G) lf M)) (fun x2 x3 x4 M => J60 x2 x3 x4 (wM ad (gc G) lf M)) (fun x2 x3 M => J145 x2 x3 (wM ad (gc G) lf M)) (fun x2 x3 x4 M => J139 x2 x3 x4 (wM ad (gc G) lf M))
  replace h := h (by
    intro x2 M h
    refine c17 _ _ ?_
    refine i_R (k := 118) fl_X7 rfl ?_
    obtain ⟨hi, h⟩ := h
    refine i_A (k := 119) ar_119 hi ?_
    refine ⟨fun hc => ?_, fun hc => ?_⟩
    · replace h := h.1 hc
      exact hq _ _ h
    · replace h := h.2 hc
      exact h)
  replace h := h (by
    intro x2 x3 M h
    refine c34 _ _ _ ?_
    refine i_I (k := 118) fl_X7 rfl ?_
    refine ⟨fun hc => ?_, fun hc => ?_⟩
    · replace h := h.1 hc
      exact h
    · replace h := h.2 hc
      refine i_R (k := 118) fl_X7 rfl ?_
      obtain ⟨hi, h⟩ := h
      refine i_A (k := 120) ar_120 hi ?_
      refine ⟨fun hc => ?_, fun hc => ?_⟩
      · replace h := h.1 hc
        exact h
      · replace h := h.2 hc
        exact h)
  replace h := h (by
    intro x2 x3 x4 M h
    refine c60 _ _ _ _ ?_
    refine i_R (k := 118) fl_X7 rfl ?_
    obtain ⟨hi, h⟩ := h
    refine i_A (k := 119) ar_119 hi ?_
    refine ⟨fun hc => ?_, fun hc => ?_⟩
    · replace h := h.1 hc
      exact h
    · replace h := h.2 hc
      refine i_R (k := 118) fl_X7 rfl ?_
      obtain ⟨hi, h⟩ := h
      refine i_A (k := 124) ar_124 hi ?_
      refine i_R (k := 118) fl_X7 rfl ?_
      obtain ⟨hi, h⟩ := h
      refine i_A (k := 125) ar_125 hi ?_
      refine i_R (k := 118) fl_X7 rfl ?_
      obtain ⟨hi, h⟩ := h
      refine i_A (k := 124) ar_124 hi ?_
      refine i_R (k := 118) fl_X7 rfl ?_
      obtain ⟨hi, h⟩ := h
      refine i_A (k := 125) ar_125 hi ?_
      refine p_X7_steps hA h (fun r2 M1 h => ?_)
      refine i_R (k := 118) fl_X7 rfl ?_
      obtain ⟨hi, h⟩ := h
      refine i_A (k := 132) ar_132 hi ?_
      refine ⟨fun hc => ?_, fun hc => ?_⟩
      · replace h := h.1 hc
        exact h
      · replace h := h.2 hc
        refine i_R (k := 118) fl_X7 rfl ?_
        obtain ⟨hi, h⟩ := h
        refine i_A (k := 126) ar_126 hi ?_
        refine i_R (k := 118) fl_X7 rfl ?_
        obtain ⟨hi, h⟩ := h
        refine i_A (k := 126) ar_126 hi ?_
        refine i_R (k := 118) fl_X7 rfl ?_
        obtain ⟨hi, h⟩ := h
        refine i_A (k := 132) ar_132 hi ?_
        refine ⟨fun hc => ?_, fun hc => ?_⟩
        · replace h := h.1 hc
          exact h
        · replace h := h.2 hc
          exact hq _ _ h)
  replace h := h (by
    intro x2 x3 M h
    refine c145 _ _ _ ?_
    exact h)
  replace h := h (by
    intro x2 x3 x4 M h
    refine c139 _ _ _ _ ?_
    exact h)
  refine i_R (k := 118) fl_X7 rfl ?_
  obtain ⟨hi, h⟩ := h
  refine i_A (k := 119) ar_119 hi ?_
  refine ⟨fun hc => ?_, fun hc => ?_⟩
  · replace h := h.1 hc
    exact h
  · replace h := h.2 hc
    exact hq _ _ h
def P_X7_may (p1 : Int32) (M : Mem) (Q : Int32 → Mem → Prop) : Prop := pW 118 0 (0 : Int32) M (fun M1 => (P_X7_noChannel p1 M1 (fun r3 M2 => (P_X7_throwsIf r3 (1 : Int32) M2 (fun r6 M5 => ((¬ r6 = 0 → Q (0 : Int32) M5) ∧ (r6 = 0 → (vp_in p1 8 ∧ (P_X7_throwsIf (M5 120 p1.toNatClampNeg) (2 : Int32) M5 (fun r9 M8 => ((¬ r9 = 0 → Q (0 : Int32) M8) ∧ (r9 = 0 → (P_X7_mayBe p1 M8 (fun r12 M11 => ((r12 = 0 → Q (0 : Int32) M11) ∧ (¬ r12 = 0 → Q (1 : Int32) M11))))))))))))))))
set_option maxRecDepth 20000 in
set_option maxHeartbeats 4000000 in
theorem p_X7_may {G : Gx} {ad : Nat → Nat} {lf : Nat → Int64} (hA : Inj ad) {p1 : Int32} {M : Mem} {Q : Int32 → Mem → Prop} {QF : Int32 → va_W → Prop}  (h : P_X7_may p1 M Q) (hq : ∀ r M, Q r M → QF r (wM ad (gc G) lf M)) : F_X7_may G (ad 118) p1 (wM ad (gc G) lf M) QF := by
  unfold P_X7_may at h
  unfold F_X7_may
  refine i_P (k := 118) fl_X7 rfl ?_
  replace h := pW_at h
  generalize hM : mup M 118 0 (0 : Int32) = M1 at h ⊢
  clear hM
  refine ⟨i_V (k := 118) fl_X7, p_X7_noChannel hA h (fun r3 M2 h => ?_)⟩
  refine ⟨i_V (k := 118) fl_X7, p_X7_throwsIf hA h (fun r6 M5 h => ?_)⟩
  refine ⟨fun hc => ?_, fun hc => ?_⟩
  · replace h := h.1 hc
    exact hq _ _ h
  · replace h := h.2 hc
    refine i_R (k := 118) fl_X7 rfl ?_
    obtain ⟨hi, h⟩ := h
    refine i_A (k := 120) ar_120 hi ?_
    refine ⟨i_V (k := 118) fl_X7, p_X7_throwsIf hA h (fun r9 M8 h => ?_)⟩
    refine ⟨fun hc => ?_, fun hc => ?_⟩
    · replace h := h.1 hc
      exact hq _ _ h
    · replace h := h.2 hc
      refine ⟨i_V (k := 118) fl_X7, p_X7_mayBe hA h (fun r12 M11 h => ?_)⟩
      refine ⟨fun hc => ?_, fun hc => ?_⟩
      · replace h := h.1 hc
        exact hq _ _ h
      · replace h := h.2 hc
        exact hq _ _ h
