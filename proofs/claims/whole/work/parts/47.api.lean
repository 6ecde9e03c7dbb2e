/-! ===== the calls, one by one ===== -/
theorem fl1 {q : Nat} {M M1 : Mem} {n : Int32} {Q : Int32 → Mem → Prop} (h : Ok q M) (hq : q < 512) (f1 : Lo M M1) (v1 : VR M1 = VR M) (a1 : AuR M1 = AuR M) (k : ∀ M2, M2 118 0 = n ∧ Ok (q + 1) M2 → Q 1 M2) : P_X7_throwsIf 1 n M1 Q :=
  thr1 (wr_thr (fun M2 f2 v2 a2 t2 => k M2 ⟨t2, h.same hq (f1.tr f2) (v2.trans v1) (a2.trans a1)⟩))
theorem Dg.to {M M1 : Mem} (h : Dg M) (v : VR M1 = VR M) (a : AuR M1 = AuR M) : Dg M1 := fun c hc => by rw [a, v]; exact h c hc
theorem Ok.dg {q : Nat} {M : Mem} (h : Ok q M) : Dg M := h.2.1.2.1
theorem Ok.ic {q : Nat} {M : Mem} (h : Ok q M) : Inv q (VC M) := by rw [h.2.1.1]; exact h.2.2
theorem Ok.ir {q : Nat} {M M1 : Mem} (h : Ok q M) (v : VR M1 = VR M) : Inv q (VR M1) := by rw [v]; exact h.2.2
theorem pos_ne {x : Int32} (h : ¬ 0 < x) (h2 : 0 ≤ x.toInt) : x = 0 := by
  rw [i32_eq]
  rw [i32_lt, t0] at h
  rw [t0]
  omega
/-- isDug is 0 or 1 -/
theorem dg_y {M M1 : Mem} {c : Nat} (h : Dg M) (v : VR M1 = VR M) (a : AuR M1 = AuR M) (hc : c < 8) (hd : 0 < VR M 12 c 0) : M1 120 c = 1 := by
  rw [rar_d M1 hc, a, h c hc, if_pos hd]
theorem dg_n {M M1 : Mem} {c : Nat} (h : Dg M) (v : VR M1 = VR M) (a : AuR M1 = AuR M) (hc : c < 8) (hd : ¬ 0 < VR M 12 c 0) : M1 120 c = 0 := by
  rw [rar_d M1 hc, a, h c hc, if_neg hd]
theorem T_channel {q : Nat} {M : Mem} (h : Ok q M) (hq : q < 512) : P_X6_channel M (fun r M1 => P_X7_channel M1 (fun r' M2 => M2 118 0 = 0 ∧ r = r' ∧ Ok (q + 1) M2)) (fun E M1 => E = "java/lang/UnsupportedOperationException" ∧ P_X7_channel M1 (fun _ M2 => M2 118 0 = 1 ∧ Ok (q + 1) M2)) := by
  obtain ⟨n, hn, en⟩ := h.2.2.1
  have enC : VC M 0 0 0 = nI n := by rw [h.2.1.1]; exact en
  unfold P_X6_channel
  rw [rc_0 M, enC]
  by_cases hlt : n < 8
  · refine br_t (nI_lt (b := 8) hlt (by omega)) (wc_0 (fun M1 f1 v1 a1 => ?_))
    rw [rc_0 M1, v1]
    intro J hJ
    refine wr_thr (fun M2 f2 v2 a2 t2 => ?_)
    have e2 : VR M2 = VR M := by rw [v2, hi_VR f1]
    rw [rr_0 M2, e2, en]
    have hne : ¬ nI n = 8 := fun h => absurd ((nI_eq (a := n) (b := 8) (by omega) (by omega)).mp h) (by omega)
    refine ⟨fun _ => ?_, fun h => absurd h hne⟩
    apply hJ
    refine thr0 (br_t rfl ?_)
    rw [rr_0 M2, e2, en, nI_1]
    refine wr_0 (fun M3 f3 v3 a3 t3 => ?_)
    rw [rr_0 M3, v3]
    rw [nI_1] at v1
    refine ⟨by rw [t3, t2], rfl, h.mk1 (V := vu (VR M) 0 0 0 (nI (n + 1))) hq ?_ ?_ ?_ ?_ (fun _ => rfl) (fun _ h => h) ?_⟩
    · rw [lo_VC f3, lo_VC f2, v1, h.2.1.1]
    · rw [v3, e2]
    · rw [lo_AC f3, lo_AC f2, a1]
    · rw [a3, a2, hi_AR f1]
    · obtain ⟨h0, hr⟩ := h.2.2.next
      exact ⟨⟨n + 1, by omega, rfl⟩, hr⟩
  · have h8 : n = 8 := by omega
    subst h8
    refine br_f (by decide) ⟨rfl, ?_⟩
    intro J hJ
    refine wr_thr (fun M2 f2 v2 a2 t2 => ?_)
    rw [rr_0 M2, v2, en]
    refine ⟨fun h => absurd rfl h, fun _ => ?_⟩
    apply hJ
    exact fl1 h hq f2 v2 a2 (fun M3 h3 => br_f (by decide) h3)
theorem T_years {q : Nat} {M : Mem} {p : Int32} (h : Ok q M) (hq : q < 512) : P_X6_years p M (fun r M1 => P_X7_years p M1 (fun r' M2 => M2 118 0 = 0 ∧ r = r' ∧ Ok (q + 1) M2)) (fun E M1 => E = "java/lang/IllegalArgumentException" ∧ P_X7_years p M1 (fun _ M2 => M2 118 0 = 1 ∧ Ok (q + 1) M2)) := by
  by_cases g : p < 0 ∨ 100 < p
  · refine wi0 g ⟨fun h => absurd rfl h, fun _ => ⟨rfl, ?_⟩⟩
    intro J hJ
    refine wr_thr (fun M1 f1 v1 a1 t1 => in0 g ⟨fun h => absurd rfl h, fun _ => ?_⟩)
    apply hJ
    exact fl1 h hq f1 v1 a1 (fun M3 h3 => br_f (by decide) h3)
  · have g1 : ¬ p < 0 := fun h => g (Or.inl h)
    have g2 : ¬ 100 < p := fun h => g (Or.inr h)
    refine wi1 g1 g2 ⟨fun _ => wc_4 (fun M1 f1 v1 a1 => ?_), fun h => absurd h (by decide)⟩
    intro J hJ
    refine wr_thr (fun M2 f2 v2 a2 t2 => in1 g1 g2 ⟨fun _ => ?_, fun h => absurd h (by decide)⟩)
    apply hJ
    have e2 : VR M2 = VR M := by rw [v2, hi_VR f1]
    refine thr0 (br_t rfl (wr_4 (fun M3 f3 v3 a3 t3 => ?_)))
    rw [rc_4 M1, v1, rr_4 M3, v3, rc_4 M, rr_4 M2, e2, h.2.1.1]
    refine ⟨by rw [t3, t2], rfl, ?_⟩
    rw [rc_4 M, h.2.1.1] at v1
    rw [rr_4 M2, e2] at v3
    refine h.mk1 (V := vu (VR M) 4 0 0 (VR M 4 0 0 + p)) hq ?_ ?_ ?_ ?_ (fun _ => rfl) (fun _ h => h) ?_
    · rw [lo_VC f3, lo_VC f2, v1]
    · exact v3
    · rw [lo_AC f3, lo_AC f2, a1]
    · rw [a3, a2, hi_AR f1]
    · obtain ⟨h0, h11, h15, ⟨⟨h4a, h4b, h4c, h4d⟩, h4q⟩, hr⟩ := h.2.2
      have e100 : (100 : Int32).toInt = 100 := rfl
      rw [i32_lt, t0] at g1
      rw [i32_lt, e100] at g2
      have hy := h4d 0
      unfold rg at hy
      have e : (VR M 4 0 0 + p).toInt = (VR M 4 0 0).toInt + p.toInt := add_toInt (by omega)
      refine ⟨h0, h11, h15, ⟨⟨h4a, h4b, ?_, fun c => ?_⟩, ?_⟩, hr⟩
      · show (VR M 4 0 0 + p).toInt ≤ 1000000
        omega
      · have := h4d c
        show rg (VR M 13 c 0) 0 (VR M 4 0 0 + p).toInt
        unfold rg at this ⊢
        omega
      · show (VR M 4 0 0 + p).toInt ≤ 100 * ((q + 1 : Nat) : Int)
        omega
theorem T_minutes {q : Nat} {M : Mem} {p : Int32} (h : Ok q M) (hq : q < 512) : P_X6_minutes p M (fun r M1 => P_X7_minutes p M1 (fun r' M2 => M2 118 0 = 0 ∧ r = r' ∧ Ok (q + 1) M2)) (fun E M1 => E = "java/lang/IllegalArgumentException" ∧ P_X7_minutes p M1 (fun _ M2 => M2 118 0 = 1 ∧ Ok (q + 1) M2)) := by
  by_cases g : p < 0 ∨ 100000 < p
  · refine wi0 g ⟨fun h => absurd rfl h, fun _ => ⟨rfl, ?_⟩⟩
    intro J hJ
    refine wr_thr (fun M1 f1 v1 a1 t1 => in0 g ⟨fun h => absurd rfl h, fun _ => ?_⟩)
    apply hJ
    exact fl1 h hq f1 v1 a1 (fun M3 h3 => br_f (by decide) h3)
  · have g1 : ¬ p < 0 := fun h => g (Or.inl h)
    have g2 : ¬ 100000 < p := fun h => g (Or.inr h)
    refine wi1 g1 g2 ⟨fun _ => wc_5 (fun M1 f1 v1 a1 => ?_), fun h => absurd h (by decide)⟩
    intro J hJ
    refine wr_thr (fun M2 f2 v2 a2 t2 => in1 g1 g2 ⟨fun _ => ?_, fun h => absurd h (by decide)⟩)
    apply hJ
    have e2 : VR M2 = VR M := by rw [v2, hi_VR f1]
    refine thr0 (br_t rfl (wr_5 (fun M3 f3 v3 a3 t3 => ?_)))
    rw [rc_5 M1, v1, rr_5 M3, v3, rc_5 M, rr_5 M2, e2, h.2.1.1]
    refine ⟨by rw [t3, t2], rfl, ?_⟩
    rw [rc_5 M, h.2.1.1] at v1
    rw [rr_5 M2, e2] at v3
    refine h.mk1 (V := vu (VR M) 5 0 0 (VR M 5 0 0 + p)) hq ?_ ?_ ?_ ?_ (fun _ => rfl) (fun _ h => h) ?_
    · rw [lo_VC f3, lo_VC f2, v1]
    · exact v3
    · rw [lo_AC f3, lo_AC f2, a1]
    · rw [a3, a2, hi_AR f1]
    · exact h.2.2.next
theorem T_end {q : Nat} {M : Mem} {p : Int32} (h : Ok q M) (hq : q < 512) : P_X6_end p M (fun r M1 => P_X7_end p M1 (fun r' M2 => r = r' ∧ Ok (q + 1) M2)) := by
  obtain ⟨n, hn, en⟩ := h.2.2.2.2.2.2.2.2.2.2.2.2.2
  have enC : VC M 8 0 0 = nI n := by rw [h.2.1.1]; exact en
  unfold P_X6_end
  rw [rc_8 M, enC]
  have no : (p < 0 ∨ ¬ p ≤ nI n) → P_X7_end p M (fun r' M2 => 0 = r' ∧ Ok (q + 1) M2) := fun g => by
    refine wr_thr (fun M1 f1 v1 a1 t1 => ?_)
    have fin : Ok (q + 1) M1 := h.same hq f1 v1 a1
    rw [rr_8 M1, v1, en]
    exact br_c (fun _ => ⟨rfl, fin⟩) (fun g1 => br_f (g.resolve_left g1) ⟨rfl, fin⟩)
  refine br_c (fun g => no (Or.inl g)) (fun g => br_c (fun g2 => ?_) (fun g2 => no (Or.inr g2)))
  refine wc_8 (fun M1 f1 v1 a1 => ?_)
  refine wr_thr (fun M2 f2 v2 a2 t2 => ?_)
  have e2 : VR M2 = VR M := by rw [v2, hi_VR f1]
  rw [rr_8 M2, e2, en]
  refine br_f g (br_t g2 (wr_8 (fun M3 f3 v3 a3 t3 => ⟨rfl, ?_⟩)))
  refine h.mk1 (V := vu (VR M) 8 0 0 p) hq ?_ ?_ ?_ ?_ (fun _ => rfl) (fun _ h => h) ?_
  · rw [lo_VC f3, lo_VC f2, v1, h.2.1.1]
  · rw [v3, e2]
  · rw [lo_AC f3, lo_AC f2, a1]
  · rw [a3, a2, hi_AR f1]
  · obtain ⟨h0, h11, h15, h4, h14, h10, h12, h6, hsh, hsum, hf, -⟩ := h.2.2.next
    obtain ⟨j, hj, ej⟩ := nI_of2 (nI_toInt (by omega)) g g2
    exact ⟨h0, h11, h15, h4, h14, h10, h12, h6, hsh, hsum, hf, ⟨j, by omega, ej⟩⟩
theorem T_fault {q : Nat} {M : Mem} (h : Ok q M) (hq : q < 512) : P_X6_fault M (fun r M1 => P_X7_fault M1 (fun r' M2 => r = r' ∧ Ok (q + 1) M2)) := by
  unfold P_X6_fault
  refine wr_thr (fun M1 f1 v1 a1 t1 => ⟨?_, h.same hq f1 v1 a1⟩)
  rw [rc_7 M, rr_7 M1, v1, h.2.1.1]
theorem T_says {q : Nat} {M : Mem} {p : Int32} (h : Ok q M) (hq : q < 512) : P_X6_says p M (fun r M1 => P_X7_says p M1 (fun r' M2 => M2 118 0 = 0 ∧ r = r' ∧ Ok (q + 1) M2)) (fun E M1 => E = "java/util/NoSuchElementException" ∧ P_X7_says p M1 (fun _ M2 => M2 118 0 = 1 ∧ Ok (q + 1) M2)) := by
  refine ix_cases p (n := 4) (by omega) (fun g => ?_) (fun c hc e => ?_)
  · have bad : P_X7_says p M (fun _ M2 => M2 118 0 = 1 ∧ Ok (q + 1) M2) := by
      intro J hJ
      refine wr_thr (fun M1 f1 v1 a1 t1 => in0 (rng_bad (n := 4) (by omega) g) ⟨fun h => absurd rfl h, fun _ => ?_⟩)
      apply hJ
      exact fl1 h hq f1 v1 a1 (fun M3 h3 => br_f (by decide) h3)
    refine br_c (fun _ => ⟨rfl, bad⟩) (fun g1 => br_f ?_ ⟨rfl, bad⟩)
    have := g.resolve_left g1
    rw [i32_le] at this
    rw [i32_lt]
    have e4 : (nI 4).toInt = (4 : Int32).toInt := rfl
    omega
  · subst e
    refine br_f (nI_pos (by omega)) (br_t (nI_lt (b := 4) hc (by omega)) ⟨vp_in_nI hc (by omega), ?_⟩)
    intro J hJ
    refine wr_thr (fun M1 f1 v1 a1 t1 => in1 (nI_pos (by omega)) (rng_ok (n := 4) (by omega) hc) ⟨fun _ => ?_, fun h => absurd h (by decide)⟩)
    apply hJ
    refine thr0 (br_t rfl ⟨vp_in_nI hc (by omega), t1, ?_, h.same hq f1 v1 a1⟩)
    rw [nI_clamp (by omega), rc_10 M hc, rr_10 M1 hc, v1, h.2.1.1]
