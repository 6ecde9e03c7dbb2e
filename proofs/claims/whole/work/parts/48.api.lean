theorem T_may {q : Nat} {M : Mem} {p : Int32} (h : Ok q M) (hq : q < 512) : P_X6_may p M (fun r M1 => P_X7_may p M1 (fun r' M2 => M2 118 0 = 0 ∧ r = r' ∧ Ok (q + 1) M2)) (fun E M1 => (E = "java/lang/IndexOutOfBoundsException" ∧ P_X7_may p M1 (fun _ M2 => M2 118 0 = 1 ∧ Ok (q + 1) M2)) ∨ (E = "java/lang/IllegalStateException" ∧ P_X7_may p M1 (fun _ M2 => M2 118 0 = 2 ∧ Ok (q + 1) M2))) := by
  have hV := h.2.1.1
  obtain ⟨c0, c11, c15, c4, c14, c10, -⟩ := h.ic
  obtain ⟨h0, h11, h15, h4, h14, h10, -⟩ := h.2.2
  have hn := (nc_eq h0).1
  refine ix_cases p (n := nc (VR M)) (by omega) (fun g => ?_) (fun c hc e => ?_)
  · refine c_un0 c0 (by rw [hV]; exact g) (Or.inl ⟨rfl, ?_⟩)
    exact wr_thr (fun M1 f1 v1 a1 t1 => r_noCh0 (by rw [v1]; exact h0) (by rw [v1]; exact g) (fl1 h hq f1 v1 a1 (fun M3 h3 => ⟨fun _ => h3, fun h => absurd h (by decide)⟩)))
  · subst e
    by_cases hd : 0 < VR M 12 c 0
    · refine c_un1 c0 (by rw [hV]; exact hc) (by rw [hV]; exact hd) (Or.inr ⟨rfl, ?_⟩)
      refine wr_thr (fun M1 f1 v1 a1 t1 => r_noCh1 (by rw [v1]; exact h0) (by rw [v1]; exact hc) (thr0 ⟨fun h => absurd rfl h, fun _ => ⟨vp_in_nI (by omega) (by omega), ?_⟩⟩))
      rw [nI_clamp (by omega), dg_y h.dg v1 a1 (by omega) hd]
      exact fl1 h hq f1 v1 a1 (fun M3 h3 => ⟨fun _ => h3, fun h => absurd h (by decide)⟩)
    · refine c_un2 c0 (by rw [hV]; exact hc) (by rw [hV]; exact hd) ?_
      have ref : ∀ r : Int32, (MayV (VR M) c → r = 1) → (¬ MayV (VR M) c → r = 0) → P_X7_may (nI c) M (fun r' M2 => M2 118 0 = 0 ∧ r = r' ∧ Ok (q + 1) M2) := fun r hy hno => by
        refine wr_thr (fun M1 f1 v1 a1 t1 => r_noCh1 (by rw [v1]; exact h0) (by rw [v1]; exact hc) (thr0 ⟨fun h => absurd rfl h, fun _ => ⟨vp_in_nI (by omega) (by omega), ?_⟩⟩))
        rw [nI_clamp (by omega), dg_n h.dg v1 a1 (by omega) hd]
        refine thr0 ⟨fun h => absurd rfl h, fun _ => ?_⟩
        have fin := h.same hq f1 v1 a1
        refine r_mayBe (by rw [v1]; exact h0) (by rw [v1]; exact h11) (h.dg.to v1 a1) (by omega) (fun hm => ?_) (fun hm => ?_)
        · rw [v1] at hm
          exact br_f (by decide) ⟨t1, hy hm, fin⟩
        · rw [v1] at hm
          exact br_t rfl ⟨t1, hno hm, fin⟩
      refine c_allowed c0 c11 c15 c10 (by omega) (fun hm => ⟨Or.inr rfl, ref 1 (fun _ => rfl) (fun hn => absurd (by rw [← hV]; exact hm) hn)⟩) (fun hm => ⟨Or.inl rfl, ref 0 (fun hn => absurd (by rw [hV]; exact hn) hm) (fun _ => rfl)⟩)
theorem c_flow' {q : Nat} {M : Mem} {c : Nat} {u : Int32} {Q : Int32 → Mem → Prop} (h : Inv q (VC M)) (hc : c < 8) (k : Q (flV (VC M) c u) M) : P_X6_flowOf c u M Q :=
  c_flow h.2.1 h.1 (fun w _ => seC_eq h.2.2.1 h.2.2.2.1.1 h.1 c w u) hc k
theorem T_flow {q : Nat} {M : Mem} {p : Int32} (h : Ok q M) (hq : q < 512) : P_X6_flow p M (fun r M1 => P_X7_flow p M1 (fun r' M2 => M2 118 0 = 0 ∧ r = r' ∧ Ok (q + 1) M2)) (fun E M1 => (E = "java/lang/IndexOutOfBoundsException" ∧ P_X7_flow p M1 (fun _ M2 => M2 118 0 = 1 ∧ Ok (q + 1) M2)) ∨ (E = "java/lang/IllegalStateException" ∧ P_X7_flow p M1 (fun _ M2 => M2 118 0 = 2 ∧ Ok (q + 1) M2))) := by
  have hV := h.2.1.1
  have hic := h.ic
  obtain ⟨c0, c11, c15, c4, c14, c10, -⟩ := h.ic
  obtain ⟨h0, h11, h15, h4, h14, h10, -⟩ := h.2.2
  have hn := (nc_eq h0).1
  refine ix_cases p (n := nc (VR M)) (by omega) (fun g => ?_) (fun c hc e => ?_)
  · refine c_dg0 c0 (by rw [hV]; exact g) (Or.inl ⟨rfl, ?_⟩)
    intro J hJ
    exact wr_thr (fun M1 f1 v1 a1 t1 => r_noCh0 (by rw [v1]; exact h0) (by rw [v1]; exact g) (fl1 h hq f1 v1 a1 (fun M3 h3 => ⟨fun _ => h3, fun h => absurd h (by decide)⟩)))
  · subst e
    by_cases hd : 0 < VR M 12 c 0
    · refine c_dg2 c0 (by rw [hV]; exact hc) (by rw [hV]; exact hd) (c_flow' hic (by omega) ?_)
      intro J hJ
      refine wr_thr (fun M1 f1 v1 a1 t1 => r_noCh1 (by rw [v1]; exact h0) (by rw [v1]; exact hc) (thr0 ⟨fun h => absurd rfl h, fun _ => ⟨vp_in_nI (by omega) (by omega), ?_⟩⟩))
      rw [nI_clamp (by omega), dg_y h.dg v1 a1 (by omega) hd]
      refine ⟨fun _ => ?_, fun h => absurd h (by decide)⟩
      apply hJ
      refine thr0 (br_t rfl (r_flow (by rw [v1]; exact h11) (by rw [v1]; exact h0) (h.dg.to v1 a1) (by omega) ⟨t1, ?_, h.same hq f1 v1 a1⟩))
      rw [rc_1 M, v1, hV]
      exact flV_u (ord8 h14) c
    · refine c_dg1 c0 (by rw [hV]; exact hc) (by rw [hV]; exact hd) (Or.inr ⟨rfl, ?_⟩)
      intro J hJ
      refine wr_thr (fun M1 f1 v1 a1 t1 => r_noCh1 (by rw [v1]; exact h0) (by rw [v1]; exact hc) (thr0 ⟨fun h => absurd rfl h, fun _ => ⟨vp_in_nI (by omega) (by omega), ?_⟩⟩))
      rw [nI_clamp (by omega), dg_n h.dg v1 a1 (by omega) hd]
      refine ⟨fun h => absurd rfl h, fun _ => ?_⟩
      apply hJ
      exact fl1 h hq f1 v1 a1 (fun M3 h3 => br_f (by decide) h3)
theorem T_harm {q : Nat} {M : Mem} {p : Int32} (h : Ok q M) (hq : q < 512) : P_X6_harm p M (fun r M1 => P_X7_harm p M1 (fun r' M2 => M2 118 0 = 0 ∧ r = r' ∧ Ok (q + 1) M2)) (fun E M1 => (E = "java/lang/IndexOutOfBoundsException" ∧ P_X7_harm p M1 (fun _ M2 => M2 118 0 = 1 ∧ Ok (q + 1) M2)) ∨ (E = "java/lang/IllegalStateException" ∧ P_X7_harm p M1 (fun _ M2 => M2 118 0 = 2 ∧ Ok (q + 1) M2))) := by
  have hV := h.2.1.1
  have hic := h.ic
  obtain ⟨c0, c11, c15, c4, c14, c10, -⟩ := h.ic
  obtain ⟨h0, h11, h15, h4, h14, h10, -⟩ := h.2.2
  have hn := (nc_eq h0).1
  refine ix_cases p (n := nc (VR M)) (by omega) (fun g => ?_) (fun c hc e => ?_)
  · refine c_dg0 c0 (by rw [hV]; exact g) (Or.inl ⟨rfl, ?_⟩)
    intro J hJ
    exact wr_thr (fun M1 f1 v1 a1 t1 => r_noCh0 (by rw [v1]; exact h0) (by rw [v1]; exact g) (fl1 h hq f1 v1 a1 (fun M3 h3 => ⟨fun _ => h3, fun h => absurd h (by decide)⟩)))
  · subst e
    by_cases hd : 0 < VR M 12 c 0
    · refine c_dg2 c0 (by rw [hV]; exact hc) (by rw [hV]; exact hd) (c_flow' hic (by omega) (c_flow' hic (by omega) ?_))
      intro J hJ
      refine wr_thr (fun M1 f1 v1 a1 t1 => r_noCh1 (by rw [v1]; exact h0) (by rw [v1]; exact hc) (thr0 ⟨fun h => absurd rfl h, fun _ => ⟨vp_in_nI (by omega) (by omega), ?_⟩⟩))
      rw [nI_clamp (by omega), dg_y h.dg v1 a1 (by omega) hd]
      refine ⟨fun _ => ?_, fun h => absurd h (by decide)⟩
      apply hJ
      refine thr0 (br_t rfl ⟨vp_in_nI (by omega) (by omega), r_flow (by rw [v1]; exact h11) (by rw [v1]; exact h0) (h.dg.to v1 a1) (by omega) (r_flow (by rw [v1]; exact h11) (by rw [v1]; exact h0) (h.dg.to v1 a1) (by omega) ⟨t1, ?_, h.same hq f1 v1 a1⟩)⟩)
      rw [nI_clamp (by omega), rc_1 M, rc_14 M (by omega), rr_14 M1 (by omega), v1, hV, flV_u (ord8 h14) c]
    · refine c_dg1 c0 (by rw [hV]; exact hc) (by rw [hV]; exact hd) (Or.inr ⟨rfl, ?_⟩)
      intro J hJ
      refine wr_thr (fun M1 f1 v1 a1 t1 => r_noCh1 (by rw [v1]; exact h0) (by rw [v1]; exact hc) (thr0 ⟨fun h => absurd rfl h, fun _ => ⟨vp_in_nI (by omega) (by omega), ?_⟩⟩))
      rw [nI_clamp (by omega), dg_n h.dg v1 a1 (by omega) hd]
      refine ⟨fun h => absurd rfl h, fun _ => ?_⟩
      apply hJ
      exact fl1 h hq f1 v1 a1 (fun M3 h3 => br_f (by decide) h3)
/-- what seep and collapse have in common: the reference says why not -/
theorem T_seep {q : Nat} {M : Mem} {p w : Int32} (h : Ok q M) (hq : q < 512) : P_X6_seep p w M (fun r M1 => P_X7_seep p w M1 (fun r' M2 => M2 118 0 = 0 ∧ r = r' ∧ Ok (q + 1) M2)) (fun E M1 => (E = "java/lang/IndexOutOfBoundsException" ∧ P_X7_seep p w M1 (fun _ M2 => M2 118 0 = 1 ∧ Ok (q + 1) M2)) ∨ (E = "java/lang/IllegalStateException" ∧ P_X7_seep p w M1 (fun _ M2 => M2 118 0 = 2 ∧ Ok (q + 1) M2))) := by
  have hV := h.2.1.1
  obtain ⟨c0, c11, c15, c4, c14, c10, -⟩ := h.ic
  obtain ⟨h0, h11, h15, h4, h14, h10, -⟩ := h.2.2
  have hn := (nc_eq h0).1
  refine ix_cases p (n := nc (VR M)) (by omega) (fun g => ?_) (fun c hc e => ?_)
  · refine c_dw0 c0 (by rw [hV]; exact g) (Or.inl ⟨rfl, ?_⟩)
    intro J hJ
    exact wr_thr (fun M1 f1 v1 a1 t1 => r_noW0 (by rw [v1]; exact h0) (by rw [v1]; exact g) (fl1 h hq f1 v1 a1 (fun M3 h3 => ⟨fun _ => h3, fun h => absurd h (by decide)⟩)))
  · subst e
    have hm := (nw_eq h11 c).1
    refine ix_cases w (n := nw (VR M) c) (by omega) (fun g => ?_) (fun s hs e => ?_)
    · refine c_dw1 c0 c11 (by rw [hV]; exact hc) (by rw [hV]; exact g) (Or.inl ⟨rfl, ?_⟩)
      intro J hJ
      exact wr_thr (fun M1 f1 v1 a1 t1 => r_noW1 (by rw [v1]; exact h0) (by rw [v1]; exact h11) (by rw [v1]; exact hc) (by rw [v1]; exact g) (fl1 h hq f1 v1 a1 (fun M3 h3 => ⟨fun _ => h3, fun h => absurd h (by decide)⟩)))
    · subst e
      by_cases hd : 0 < VR M 12 c 0
      · refine c_dw3 c0 c11 (by rw [hV]; exact hc) (by rw [hV]; exact hs) (by rw [hV]; exact hd) (c_runs c11 (by omega) ?_)
        have ref : ∀ r : Int32, (rV (VR M) c ≤ s → r = 0) → (s < rV (VR M) c → r = seV (VR M) c s 8) → P_X7_seep (nI c) (nI s) M (fun r' M2 => M2 118 0 = 0 ∧ r = r' ∧ Ok (q + 1) M2) := fun r hy hno => by
          intro J hJ
          refine wr_thr (fun M1 f1 v1 a1 t1 => r_noW2 (by rw [v1]; exact h0) (by rw [v1]; exact h11) (by rw [v1]; exact hc) (by rw [v1]; exact hs) (thr0 ⟨fun h => absurd rfl h, fun _ => ⟨vp_in_nI (by omega) (by omega), ?_⟩⟩))
          rw [nI_clamp (by omega), dg_y h.dg v1 a1 (by omega) hd]
          refine ⟨fun _ => ?_, fun h => absurd h (by decide)⟩
          apply hJ
          have fin := h.same hq f1 v1 a1
          refine thr0 (br_t rfl (r_runs (by rw [v1]; exact h11) (by omega) ?_))
          have hle := rV_le (V := VR M) (c := c) hm (nw_eq h11 c).2
          rw [v1]
          by_cases hlt : s < rV (VR M) c
          · refine br_f (nI_ge hlt (by omega)) (r_seep (by rw [v1]; exact h11) (by rw [v1]; exact h0) (h.dg.to v1 a1) (by omega) (by omega) ⟨t1, ?_, fin⟩)
            rw [v1]
            exact hno hlt
          · exact br_t (nI_le (by omega) (by omega)) ⟨t1, hy (by omega), fin⟩
        have hle := rV_le (V := VC M) (c := c) (nw_eq c11 c).1 (nw_eq c11 c).2
        have hmC := (nw_eq c11 c).1
        by_cases hlt : s < rV (VC M) c
        · refine br_f (nI_ge hlt (by omega)) (c_seep c11 c0 (by omega) (by omega) (ref _ (fun h => ?_) (fun _ => ?_)))
          · rw [← hV] at h; omega
          · rw [seC_eq c15 c4.1 c0, rc_1 M, hV]
            exact seV_u (ord8 h14) c s
        · refine br_t (nI_le (by omega) (by omega)) (ref _ (fun _ => rfl) (fun h => ?_))
          rw [← hV] at h; omega
      · refine c_dw2 c0 c11 (by rw [hV]; exact hc) (by rw [hV]; exact hs) (by rw [hV]; exact hd) (Or.inr ⟨rfl, ?_⟩)
        intro J hJ
        refine wr_thr (fun M1 f1 v1 a1 t1 => r_noW2 (by rw [v1]; exact h0) (by rw [v1]; exact h11) (by rw [v1]; exact hc) (by rw [v1]; exact hs) (thr0 ⟨fun h => absurd rfl h, fun _ => ⟨vp_in_nI (by omega) (by omega), ?_⟩⟩))
        rw [nI_clamp (by omega), dg_n h.dg v1 a1 (by omega) hd]
        refine ⟨fun h => absurd rfl h, fun _ => ?_⟩
        apply hJ
        exact fl1 h hq f1 v1 a1 (fun M3 h3 => br_f (by decide) h3)
theorem T_collapse {q : Nat} {M : Mem} {p w x : Int32} (h : Ok q M) (hq : q < 512) : P_X6_collapse p w x M (fun r M1 => P_X7_collapse p w x M1 (fun r' M2 => M2 118 0 = 0 ∧ r = r' ∧ Ok (q + 1) M2)) (fun E M1 => (E = "java/lang/IndexOutOfBoundsException" ∧ P_X7_collapse p w x M1 (fun _ M2 => M2 118 0 = 1 ∧ Ok (q + 1) M2)) ∨ (E = "java/lang/IllegalStateException" ∧ P_X7_collapse p w x M1 (fun _ M2 => M2 118 0 = 2 ∧ Ok (q + 1) M2))) := by
  have hV := h.2.1.1
  obtain ⟨c0, c11, c15, c4, c14, c10, -⟩ := h.ic
  obtain ⟨h0, h11, h15, h4, h14, h10, -⟩ := h.2.2
  have hn := (nc_eq h0).1
  refine ix_cases p (n := nc (VR M)) (by omega) (fun g => ?_) (fun c hc e => ?_)
  · refine c_dw0 c0 (by rw [hV]; exact g) (Or.inl ⟨rfl, ?_⟩)
    intro J hJ
    exact wr_thr (fun M1 f1 v1 a1 t1 => r_noW0 (by rw [v1]; exact h0) (by rw [v1]; exact g) (fl1 h hq f1 v1 a1 (fun M3 h3 => ⟨fun _ => h3, fun h => absurd h (by decide)⟩)))
  · subst e
    have hm := (nw_eq h11 c).1
    refine ix_cases w (n := nw (VR M) c) (by omega) (fun g => ?_) (fun s hs e => ?_)
    · refine c_dw1 c0 c11 (by rw [hV]; exact hc) (by rw [hV]; exact g) (Or.inl ⟨rfl, ?_⟩)
      intro J hJ
      exact wr_thr (fun M1 f1 v1 a1 t1 => r_noW1 (by rw [v1]; exact h0) (by rw [v1]; exact h11) (by rw [v1]; exact hc) (by rw [v1]; exact g) (fl1 h hq f1 v1 a1 (fun M3 h3 => ⟨fun _ => h3, fun h => absurd h (by decide)⟩)))
    · subst e
      by_cases hd : 0 < VR M 12 c 0
      · refine c_dw3 c0 c11 (by rw [hV]; exact hc) (by rw [hV]; exact hs) (by rw [hV]; exact hd) ⟨vp_in_nI (by omega) (by omega), vp_in_nI (by omega) (by omega), ?_⟩
        rw [nI_clamp (by omega), rc_18 M (by omega) (by omega), hV]
        refine wc_18 (by omega) (by omega) (fun M1 f1 v1 a1 => ?_)
        have ref : ∀ r : Int32, (VR M 18 c s = x → r = 0) → (¬ VR M 18 c s = x → r = 1) → P_X7_collapse (nI c) (nI s) x M1 (fun r' M2 => M2 118 0 = 0 ∧ r = r' ∧ Ok (q + 1) M2) := fun r hy hno => by
          intro J hJ
          refine wr_thr (fun M2 f2 v2 a2 t2 => ?_)
          have e2 : VR M2 = VR M := by rw [v2, hi_VR f1]
          have b2 : AuR M2 = AuR M := by rw [a2, hi_AR f1]
          refine r_noW2 (by rw [e2]; exact h0) (by rw [e2]; exact h11) (by rw [e2]; exact hc) (by rw [e2]; exact hs) (thr0 ⟨fun h => absurd rfl h, fun _ => ⟨vp_in_nI (by omega) (by omega), ?_⟩⟩)
          rw [nI_clamp (by omega), dg_y h.dg e2 b2 (by omega) hd]
          refine ⟨fun _ => ?_, fun h => absurd h (by decide)⟩
          apply hJ
          rw [ix20, nI_clamp (by omega)]
          refine thr0 (br_t rfl ⟨vp_in_nI (by omega) (by omega), vp_in_nI (by omega) (by omega), ?_⟩)
          rw [rr_18 M2 (by omega) (by omega), e2]
          refine wr_18 (by omega) (by omega) (fun M3 f3 v3 a3 t3 => ?_)
          have fin : Ok (q + 1) M3 := by
            refine h.mk1 (V := vu (VR M) 18 c s (vp_nar .boolean x)) hq ?_ ?_ ?_ ?_ (fun _ => rfl) (fun _ h => h) h.2.2.next
            · rw [lo_VC f3, lo_VC f2, v1, hV]
            · rw [v3, e2]
            · rw [lo_AC f3, lo_AC f2, a1]
            · rw [a3, b2]
          exact br_c (fun hx => ⟨by rw [t3, t2], hy hx, fin⟩) (fun hx => ⟨by rw [t3, t2], hno hx, fin⟩)
        exact br_c (fun hx => ref 0 (fun _ => rfl) (fun hn => absurd hx hn)) (fun hx => ref 1 (fun hn => absurd hn hx) (fun _ => rfl))
      · refine c_dw2 c0 c11 (by rw [hV]; exact hc) (by rw [hV]; exact hs) (by rw [hV]; exact hd) (Or.inr ⟨rfl, ?_⟩)
        intro J hJ
        refine wr_thr (fun M1 f1 v1 a1 t1 => r_noW2 (by rw [v1]; exact h0) (by rw [v1]; exact h11) (by rw [v1]; exact hc) (by rw [v1]; exact hs) (thr0 ⟨fun h => absurd rfl h, fun _ => ⟨vp_in_nI (by omega) (by omega), ?_⟩⟩))
        rw [nI_clamp (by omega), dg_n h.dg v1 a1 (by omega) hd]
        refine ⟨fun h => absurd rfl h, fun _ => ?_⟩
        apply hJ
        exact fl1 h hq f1 v1 a1 (fun M3 h3 => br_f (by decide) h3)
