def P_X7_field (p1 : Int32) (p2 : Int32) (p3 : Int32) (M : Mem) (Q : Int32 → Mem → Prop) : Prop := ∀ (J38 : Mem → Prop), ∀ (J43 : Int32 → Mem → Prop), (∀ (M : Mem), J43 (1 : Int32) M → J38 M) → (∀ (t0 : Int32) (M : Mem), (P_X7_throwsIf t0 (1 : Int32) M (fun r12 M11 => ((r12 = 0 → ((¬ (M11 118 34) = (9 : Int32) → (vp_in (M11 118 34) 9 ∧ pW 137 (M11 118 34).toNatClampNeg p1 M11 (fun M14 => (vp_in (M14 118 34) 9 ∧ pW 138 (M14 118 34).toNatClampNeg p2 M14 (fun M15 => (vp_in (M15 118 34) 9 ∧ pW 139 (M15 118 34).toNatClampNeg p3 M15 (fun M16 => pW 118 34 ((M16 118 34) + (1 : Int32)) M16 (fun M17 => Q (M17 118 34) M17)))))))) ∧ ((M11 118 34) = (9 : Int32) → Q (-1 : Int32) M11))) ∧ (¬ r12 = 0 → Q (0 : Int32) M11)))) → J43 t0 M) → pW 118 0 (0 : Int32) M (fun M1 => (P_X7_in p1 (1 : Int32) (1000 : Int32) M1 (fun r3 M2 => ((r3 = 0 → J38 M2) ∧ (¬ r3 = 0 → (P_X7_in p2 (0 : Int32) (10000 : Int32) M2 (fun r6 M5 => ((r6 = 0 → J38 M5) ∧ (¬ r6 = 0 → (P_X7_in p3 (0 : Int32) (100 : Int32) M5 (fun r9 M8 => ((¬ r9 = 0 → J43 (0 : Int32) M8) ∧ (r9 = 0 → J38 M8)))))))))))))
set_option maxRecDepth 20000 in
set_option maxHeartbeats 4000000 in
theorem p_X7_field {G : Gx} {ad : Nat → Nat} {lf : Nat → Int64} (hA : Inj ad) {p1 : Int32} {p2 : Int32} {p3 : Int32} {M : Mem} {Q : Int32 → Mem → Prop} {QF : Int32 → va_W → Prop}  (h : P_X7_field p1 p2 p3 M Q) (hq : ∀ r M, Q r M → QF r (wM ad (gc G) lf M)) : F_X7_field G (ad 118) p1 p2 p3 (wM ad (gc G) lf M) QF := by
  intro J38 J43 c38 c43
  replace h := h (fun M => J38 (ad 118) (wM ad (gc G) lf M)) (fun t0 M => J43 t0 (ad 118) (wM ad (gc G) lf M))
  replace h := h (by
    intro M h
    refine c38 _ _ ?_
    exact h)
  replace h := h (by
    intro t0 M h
    refine c43 _ _ _ ?_
    refine ⟨i_V (k := 118) fl_X7, p_X7_throwsIf hA h (fun r12 M11 h => ?_)⟩
    refine ⟨fun hc => ?_, fun hc => ?_⟩
    · replace h := h.1 hc
      refine i_I (k := 118) fl_X7 rfl ?_
      refine ⟨fun hc => ?_, fun hc => ?_⟩
      · replace h := h.1 hc
        refine i_R (k := 118) fl_X7 rfl ?_
        refine i_I (k := 118) fl_X7 rfl ?_
        obtain ⟨hi, h⟩ := h
        refine i_S (k := 137) ar_137 hi ?_
        replace h := pW_at h
        generalize hM : mup M11 137 (M11 118 34).toNatClampNeg p1 = M14 at h ⊢
        clear hM
        refine i_R (k := 118) fl_X7 rfl ?_
        refine i_I (k := 118) fl_X7 rfl ?_
        obtain ⟨hi, h⟩ := h
        refine i_S (k := 138) ar_138 hi ?_
        replace h := pW_at h
        generalize hM : mup M14 138 (M14 118 34).toNatClampNeg p2 = M15 at h ⊢
        clear hM
        refine i_R (k := 118) fl_X7 rfl ?_
        refine i_I (k := 118) fl_X7 rfl ?_
        obtain ⟨hi, h⟩ := h
        refine i_S (k := 139) ar_139 hi ?_
        replace h := pW_at h
        generalize hM : mup M15 139 (M15 118 34).toNatClampNeg p3 = M16 at h ⊢
        clear hM
        refine i_I (k := 118) fl_X7 rfl ?_
        refine i_P (k := 118) fl_X7 rfl ?_
        replace h := pW_at h
        generalize hM : mup M16 118 34 ((M16 118 34) + (1 : Int32)) = M17 at h ⊢
        clear hM
        refine i_I (k := 118) fl_X7 rfl ?_
        exact hq _ _ h
      · replace h := h.2 hc
        exact hq _ _ h
    · replace h := h.2 hc
      exact hq _ _ h)
  refine i_P (k := 118) fl_X7 rfl ?_
  replace h := pW_at h
  generalize hM : mup M 118 0 (0 : Int32) = M1 at h ⊢
  clear hM
  refine p_X7_in hA h (fun r3 M2 h => ?_)
  refine ⟨fun hc => ?_, fun hc => ?_⟩
  · replace h := h.1 hc
    exact h
  · replace h := h.2 hc
    refine p_X7_in hA h (fun r6 M5 h => ?_)
    refine ⟨fun hc => ?_, fun hc => ?_⟩
    · replace h := h.1 hc
      exact h
    · replace h := h.2 hc
      refine p_X7_in hA h (fun r9 M8 h => ?_)
      refine ⟨fun hc => ?_, fun hc => ?_⟩
      · replace h := h.1 hc
        exact h
      · replace h := h.2 hc
        exact h
def P_X7_least  (M : Mem) (Q : Int32 → Mem → Prop) : Prop := ∀ (J14 : Int32 → Mem → Prop), ∀ (J28 : Int32 → Int32 → Int32 → Mem → Prop), ∀ (J70 : Int32 → Int32 → Int32 → Int32 → Mem → Prop), ∀ (J56 : Int32 → Int32 → Int32 → Int32 → Mem → Prop), ∀ (J129 : Int32 → Int32 → Int32 → Int32 → Mem → Prop), (∀ (x1 : Int32) (M : Mem), ((((1 : Int32) <<< ((M 118 34) &&& 31)) ≤ x1 → (vp_in (((1 : Int32) <<< ((M 118 34) &&& 31)) - (1 : Int32)) 512 ∧ pW 118 34 (0 : Int32) M (fun M3 => Q (M 140 (((1 : Int32) <<< ((M 118 34) &&& 31)) - (1 : Int32)).toNatClampNeg) M3))) ∧ (¬ ((1 : Int32) <<< ((M 118 34) &&& 31)) ≤ x1 → J28 x1 (0 : Int32) (0 : Int32) M)) → J14 x1 M) → (∀ (x1 : Int32) (x2 : Int32) (x3 : Int32) (M : Mem), (((M 118 34) ≤ x3 → J70 x1 x2 (2147483647 : Int32) (0 : Int32) M) ∧ (¬ (M 118 34) ≤ x3 → ((¬ ((x1 >>> (x3 &&& 31)) &&& (1 : Int32)) = (1 : Int32) → J56 x1 x3 (0 : Int32) x2 M) ∧ (((x1 >>> (x3 &&& 31)) &&& (1 : Int32)) = (1 : Int32) → (vp_in x3 9 ∧ J56 x1 x3 (M 137 x3.toNatClampNeg) x2 M))))) → J28 x1 x2 x3 M) → (∀ (x1 : Int32) (x2 : Int32) (x3 : Int32) (x4 : Int32) (M : Mem), (((M 118 34) ≤ x4 → (vp_in x1 512 ∧ pW 140 x1.toNatClampNeg x3 M (fun M4 => J14 (x1 + (1 : Int32)) M4))) ∧ (¬ (M 118 34) ≤ x4 → ((¬ ((x1 >>> (x4 &&& 31)) &&& (1 : Int32)) = (1 : Int32) → J129 x1 x2 x3 x4 M) ∧ (((x1 >>> (x4 &&& 31)) &&& (1 : Int32)) = (1 : Int32) → (vp_in (x1 &&& (((1 : Int32) <<< (x4 &&& 31)) ^^^ (-1 : Int32))) 512 ∧ (vp_in x4 9 ∧ (vp_in x4 9 ∧ J129 x1 x2 (if ((M 140 (x1 &&& (((1 : Int32) <<< (x4 &&& 31)) ^^^ (-1 : Int32))).toNatClampNeg) + ((M 139 x4.toNatClampNeg) * (if (0 : Int32) < (x2 - (M 138 x4.toNatClampNeg)) then (x2 - (M 138 x4.toNatClampNeg)) else (0 : Int32)))) < x3 then ((M 140 (x1 &&& (((1 : Int32) <<< (x4 &&& 31)) ^^^ (-1 : Int32))).toNatClampNeg) + ((M 139 x4.toNatClampNeg) * (if (0 : Int32) < (x2 - (M 138 x4.toNatClampNeg)) then (x2 - (M 138 x4.toNatClampNeg)) else (0 : Int32)))) else x3) x4 M))))))) → J70 x1 x2 x3 x4 M) → (∀ (x1 : Int32) (x3 : Int32) (t0 : Int32) (t1 : Int32) (M : Mem), J28 x1 (t1 + t0) (x3 + (1 : Int32)) M → J56 x1 x3 t0 t1 M) → (∀ (x1 : Int32) (x2 : Int32) (x3 : Int32) (x4 : Int32) (M : Mem), J70 x1 x2 x3 (x4 + (1 : Int32)) M → J129 x1 x2 x3 x4 M) → pW 118 0 (0 : Int32) M (fun M1 => (vp_in (0 : Int32) 512 ∧ pW 140 (0 : Int32).toNatClampNeg (0 : Int32) M1 (fun M2 => J14 (1 : Int32) M2)))
set_option maxRecDepth 20000 in
set_option maxHeartbeats 4000000 in
theorem p_X7_least {G : Gx} {ad : Nat → Nat} {lf : Nat → Int64} (hA : Inj ad)  {M : Mem} {Q : Int32 → Mem → Prop} {QF : Int32 → va_W → Prop}  (h : P_X7_least  M Q) (hq : ∀ r M, Q r M → QF r (wM ad (gc G) lf M)) : F_X7_least G (ad 118) (wM ad (gc G) lf M) QF := by
  intro J14 J28 J70 J56 J129 c14 c28 c70 c56 c129
  replace h := h (fun x1 M => J14 x1 (wM ad (gc G) lf M)) (fun x1 x2 x3 M => J28 x1 x2 x3 (wM ad (gc G) lf M)) (fun x1 x2 x3 x4 M => J70 x1 x2 x3 x4 (wM ad (gc G) lf M)) (fun x1 x3 t0 t1 M => J56 x1 x3 t0 t1 (wM ad (gc G) lf M)) (fun x1 x2 x3 x4 M => J129 x1 x2 x3 x4 (wM ad (gc G) lf M))
  replace h := h (by
    intro x1 M h
    refine c14 _ _ ?_
    refine i_I (k := 118) fl_X7 rfl ?_
    refine ⟨fun hc => ?_, fun hc => ?_⟩
    · replace h := h.1 hc
      refine i_R (k := 118) fl_X7 rfl ?_
      refine i_I (k := 118) fl_X7 rfl ?_
      obtain ⟨hi, h⟩ := h
      refine i_A (k := 140) ar_140 hi ?_
      refine i_P (k := 118) fl_X7 rfl ?_
      replace h := pW_at h
      generalize hM : mup M 118 34 (0 : Int32) = M3 at h ⊢
      clear hM
      exact hq _ _ h
    · replace h := h.2 hc
      exact h)
  replace h := h (by
    intro x1 x2 x3 M h
    refine c28 _ _ _ _ ?_
    refine i_I (k := 118) fl_X7 rfl ?_
    refine ⟨fun hc => ?_, fun hc => ?_⟩
    · replace h := h.1 hc
      exact h
    · replace h := h.2 hc
      refine ⟨fun hc => ?_, fun hc => ?_⟩
      · replace h := h.1 hc
        exact h
      · replace h := h.2 hc
        refine i_R (k := 118) fl_X7 rfl ?_
        obtain ⟨hi, h⟩ := h
        refine i_A (k := 137) ar_137 hi ?_
        exact h)
  replace h := h (by
    intro x1 x2 x3 x4 M h
    refine c70 _ _ _ _ _ ?_
    refine i_I (k := 118) fl_X7 rfl ?_
    refine ⟨fun hc => ?_, fun hc => ?_⟩
    · replace h := h.1 hc
      refine i_R (k := 118) fl_X7 rfl ?_
      obtain ⟨hi, h⟩ := h
      refine i_S (k := 140) ar_140 hi ?_
      replace h := pW_at h
      generalize hM : mup M 140 x1.toNatClampNeg x3 = M4 at h ⊢
      clear hM
      exact h
    · replace h := h.2 hc
      refine ⟨fun hc => ?_, fun hc => ?_⟩
      · replace h := h.1 hc
        exact h
      · replace h := h.2 hc
        refine i_R (k := 118) fl_X7 rfl ?_
        obtain ⟨hi, h⟩ := h
        refine i_A (k := 140) ar_140 hi ?_
        refine i_R (k := 118) fl_X7 rfl ?_
        obtain ⟨hi, h⟩ := h
        refine i_A (k := 139) ar_139 hi ?_
        refine i_R (k := 118) fl_X7 rfl ?_
        obtain ⟨hi, h⟩ := h
        refine i_A (k := 138) ar_138 hi ?_
        exact h)
  replace h := h (by
    intro x1 x3 t0 t1 M h
    refine c56 _ _ _ _ _ ?_
    exact h)
  replace h := h (by
    intro x1 x2 x3 x4 M h
    refine c129 _ _ _ _ _ ?_
    exact h)
  refine i_P (k := 118) fl_X7 rfl ?_
  replace h := pW_at h
  generalize hM : mup M 118 0 (0 : Int32) = M1 at h ⊢
  clear hM
  refine i_R (k := 118) fl_X7 rfl ?_
  obtain ⟨hi, h⟩ := h
  refine i_S (k := 140) ar_140 hi ?_
  replace h := pW_at h
  generalize hM : mup M1 140 (0 : Int32).toNatClampNeg (0 : Int32) = M2 at h ⊢
  clear hM
  exact h
def P_X7_count (p1 : Int32) (M : Mem) (Q : Int32 → Mem → Prop) : Prop := ∀ (J83 : Int32 → Int32 → Mem → Prop), ∀ (J122 : Int32 → Int32 → Mem → Prop), ∀ (J105 : Int32 → Int32 → Int32 → Mem → Prop), ∀ (J151 : Int32 → Int32 → Int32 → Mem → Prop), (∀ (x2 : Int32) (x3 : Int32) (M : Mem), (((M 118 17) ≤ x3 → Q x2 M) ∧ (¬ (M 118 17) ≤ x3 → (P_X7_isLet x3 M (fun r3 M2 => ((r3 = 0 → J105 x3 (0 : Int32) x2 M2) ∧ (¬ r3 = 0 → J105 x3 (1 : Int32) x2 M2)))))) → J83 x2 x3 M) → (∀ (x2 : Int32) (x3 : Int32) (M : Mem), (((M 118 10) ≤ x3 → Q x2 M) ∧ (¬ (M 118 10) ≤ x3 → (vp_in x3 8 ∧ (((M 120 x3.toNatClampNeg) = 0 → J151 x3 (0 : Int32) x2 M) ∧ (¬ (M 120 x3.toNatClampNeg) = 0 → (P_X7_flows x3 (8 : Int32) M (fun r6 M5 => J151 x3 r6 x2 M5))))))) → J122 x2 x3 M) → (∀ (x3 : Int32) (t0 : Int32) (t1 : Int32) (M : Mem), J83 (t1 + t0) (x3 + (1 : Int32)) M → J105 x3 t0 t1 M) → (∀ (x3 : Int32) (t0 : Int32) (t1 : Int32) (M : Mem), J122 (t1 + t0) (x3 + (1 : Int32)) M → J151 x3 t0 t1 M) → pW 118 0 (0 : Int32) M (fun M1 => ((p1 = (0 : Int32) → Q (M1 118 10) M1) ∧ (p1 = (1 : Int32) → Q (M1 118 11) M1) ∧ (p1 = (2 : Int32) → Q (M1 118 3) M1) ∧ (p1 = (3 : Int32) → Q (M1 118 4) M1) ∧ (p1 = (4 : Int32) → Q (M1 118 17) M1) ∧ (p1 = (5 : Int32) → J83 (0 : Int32) (0 : Int32) M1) ∧ (p1 = (6 : Int32) → Q (M1 118 34) M1) ∧ (p1 = (7 : Int32) → J122 (0 : Int32) (0 : Int32) M1) ∧ ((p1.toInt < 0 ∨ (7 : Int) < p1.toInt) → Q (-1 : Int32) M1)))
set_option maxRecDepth 20000 in
set_option maxHeartbeats 4000000 in
theorem p_X7_count {G : Gx} {ad : Nat → Nat} {lf : Nat → Int64} (hA : Inj ad) {p1 : Int32} {M : Mem} {Q : Int32 → Mem → Prop} {QF : Int32 → va_W → Prop}  (h : P_X7_count p1 M Q) (hq : ∀ r M, Q r M → QF r (wM ad (gc G) lf M)) : F_X7_count G (ad 118) p1 (wM ad (gc G) lf M) QF := by
  intro J83 J122 J105 J151 c83 c122 c105 c151
  replace h := h (fun x2 x3 M => J83 x2 x3 (wM ad (gc G) lf M)) (fun x2 x3 M => J122 x2 x3 (wM ad (gc G) lf M)) (fun x3 t0 t1 M => J105 x3 t0 t1 (wM ad (gc G) lf M)) (fun x3 t0 t1 M => J151 x3 t0 t1 (wM ad (gc G) lf M))
  replace h := h (by
    intro x2 x3 M h
    refine c83 _ _ _ ?_
    refine i_I (k := 118) fl_X7 rfl ?_
    refine ⟨fun hc => ?_, fun hc => ?_⟩
    · replace h := h.1 hc
      exact hq _ _ h
    · replace h := h.2 hc
      refine ⟨i_V (k := 118) fl_X7, p_X7_isLet hA h (fun r3 M2 h => ?_)⟩
      refine ⟨fun hc => ?_, fun hc => ?_⟩
      · replace h := h.1 hc
        exact h
      · replace h := h.2 hc
        exact h)
  replace h := h (by
    intro x2 x3 M h
    refine c122 _ _ _ ?_
    refine i_I (k := 118) fl_X7 rfl ?_
    refine ⟨fun hc => ?_, fun hc => ?_⟩
    · replace h := h.1 hc
      exact hq _ _ h
    · replace h := h.2 hc
      refine i_R (k := 118) fl_X7 rfl ?_
      obtain ⟨hi, h⟩ := h
      refine i_A (k := 120) ar_120 hi ?_
      refine ⟨fun hc => ?_, fun hc => ?_⟩
      · replace h := h.1 hc
        exact h
      · replace h := h.2 hc
        refine ⟨i_V (k := 118) fl_X7, p_X7_flows hA h (fun r6 M5 h => ?_)⟩
        exact h)
  replace h := h (by
    intro x3 t0 t1 M h
    refine c105 _ _ _ _ ?_
    exact h)
  replace h := h (by
    intro x3 t0 t1 M h
    refine c151 _ _ _ _ ?_
    exact h)
  refine i_P (k := 118) fl_X7 rfl ?_
  replace h := pW_at h
  generalize hM : mup M 118 0 (0 : Int32) = M1 at h ⊢
  clear hM
  refine ⟨fun hc => ?_, fun hc => ?_, fun hc => ?_, fun hc => ?_, fun hc => ?_, fun hc => ?_, fun hc => ?_, fun hc => ?_, fun hc => ?_⟩
  · replace h := h.1 hc
    refine i_I (k := 118) fl_X7 rfl ?_
    exact hq _ _ h
  · replace h := h.2.1 hc
    refine i_I (k := 118) fl_X7 rfl ?_
    exact hq _ _ h
  · replace h := h.2.2.1 hc
    refine i_I (k := 118) fl_X7 rfl ?_
    exact hq _ _ h
  · replace h := h.2.2.2.1 hc
    refine i_I (k := 118) fl_X7 rfl ?_
    exact hq _ _ h
  · replace h := h.2.2.2.2.1 hc
    refine i_I (k := 118) fl_X7 rfl ?_
    exact hq _ _ h
  · replace h := h.2.2.2.2.2.1 hc
    exact h
  · replace h := h.2.2.2.2.2.2.1 hc
    refine i_I (k := 118) fl_X7 rfl ?_
    exact hq _ _ h
  · replace h := h.2.2.2.2.2.2.2.1 hc
    exact h
  · replace h := h.2.2.2.2.2.2.2.2 hc
    exact hq _ _ h
