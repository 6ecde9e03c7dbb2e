theorem T_share {q : Nat} {M : Mem} {p w : Int32} (h : Ok q M) (hq : q < 512) : P_X6_share p w M (fun r M1 => P_X7_share p w M1 (fun r' M2 => M2 118 0 = 0 ∧ r = r' ∧ Ok (q + 1) M2)) (fun E M1 => (E = "java/lang/IndexOutOfBoundsException" ∧ P_X7_share p w M1 (fun _ M2 => M2 118 0 = 1 ∧ Ok (q + 1) M2)) ∨ (E = "java/util/NoSuchElementException" ∧ P_X7_share p w M1 (fun _ M2 => M2 118 0 = 2 ∧ Ok (q + 1) M2))) := by
  have hV := h.2.1.1
  have h6 : I6 (VR M) := h.2.2.2.2.2.2.2.2.2.1
  have c6 : I6 (VC M) := by rw [hV]; exact h6
  have hn := (ns_eq h6).1
  refine ix_cases p (n := ns (VR M)) (by omega) (fun g => ?_) (fun s hs e => ?_)
  · refine c_sh0 c6 (by rw [hV]; exact g) (Or.inl ⟨rfl, ?_⟩)
    exact wr_thr (fun M1 f1 v1 a1 t1 => r_noSh0 (by rw [v1]; exact h6) (by rw [v1]; exact g) (fl1 h hq f1 v1 a1 (fun M3 h3 => br_f (by decide) h3)))
  · subst e
    have hs60 : s < 60 := by omega
    refine c_sh1 c6 (by rw [hV]; exact hs) ?_
    have ref : ∀ (w : Int32) (Q : Int32 → Mem → Prop), (∀ M1, Lo M M1 → VR M1 = VR M → AuR M1 = AuR M → M1 118 0 = 0 → ((w = (0:Int32) → Q (VR M 19 s 0) M1) ∧ (w = (1:Int32) → Q (VR M 20 s 0) M1) ∧ (w = (2:Int32) → Q (VR M 21 s 0) M1) ∧ (w = (3:Int32) → Q (VR M 22 s 0) M1) ∧ (w = (4:Int32) → P_X7_isLet (nI s) M1 (fun r9 M8 => ((r9 = 0 → Q (0:Int32) M8) ∧ (¬ r9 = 0 → Q (1:Int32) M8)))) ∧ ((w.toInt < 0 ∨ (4 : Int) < w.toInt) → pW 118 0 (2:Int32) M1 (fun M11 => Q (0:Int32) M11)))) → P_X7_share (nI s) w M Q := fun w Q hk => by
      refine wr_thr (fun M1 f1 v1 a1 t1 => r_noSh1 (by rw [v1]; exact h6) (by rw [v1]; exact hs) (thr0 (br_t rfl ?_)))
      obtain ⟨k0, k1, k2, k3, k4, k5⟩ := hk M1 f1 v1 a1 t1
      refine ⟨fun e => ?_, fun e => ?_, fun e => ?_, fun e => ?_, k4, k5⟩
      · have := k0 e
        rw [e, show (0 : Int32) = nI 0 from rfl, ix7, nI_clamp (by omega), Nat.add_zero, rr_19 M1 hs60, v1]
        exact ⟨vp_in_nI (by omega) (by omega), this⟩
      · have := k1 e
        rw [e, show (1 : Int32) = nI 1 from rfl, ix7, nI_clamp (by omega), rr_20 M1 hs60, v1]
        exact ⟨vp_in_nI (by omega) (by omega), this⟩
      · have := k2 e
        rw [e, show (2 : Int32) = nI 2 from rfl, ix7, nI_clamp (by omega), rr_21 M1 hs60, v1]
        exact ⟨vp_in_nI (by omega) (by omega), this⟩
      · have := k3 e
        rw [e, show (3 : Int32) = nI 3 from rfl, ix7, nI_clamp (by omega), rr_22 M1 hs60, v1]
        exact ⟨vp_in_nI (by omega) (by omega), this⟩
    rw [rc_19 M hs60, rc_20 M hs60, rc_21 M hs60, rc_22 M hs60, hV]
    have big : ∀ k : Nat, k ≤ 4 → ∀ w : Int32, w = nI k → ¬ (w.toInt < 0 ∨ (4 : Int) < w.toInt) := fun k hk w e => by
      rw [e, nI_toInt (by omega)]; omega
    have dif : ∀ (a b : Nat), a ≤ 4 → b ≤ 4 → a ≠ b → ∀ w : Int32, w = nI a → ¬ w = nI b := fun a b ha hb hab w e e2 => hab ((nI_eq (by omega) (by omega)).mp (e.symm.trans e2))
    refine ⟨fun e => ?_, fun e => ?_, fun e => ?_, fun e => ?_, fun e => ?_, fun e => Or.inr ⟨rfl, ?_⟩⟩
    · refine ref w _ (fun M1 f1 v1 a1 t1 => ⟨fun _ => ⟨t1, rfl, h.same hq f1 v1 a1⟩, fun e2 => absurd e2 (dif 0 1 (by omega) (by omega) (by omega) w e), fun e2 => absurd e2 (dif 0 2 (by omega) (by omega) (by omega) w e), fun e2 => absurd e2 (dif 0 3 (by omega) (by omega) (by omega) w e), fun e2 => absurd e2 (dif 0 4 (by omega) (by omega) (by omega) w e), fun e2 => absurd e2 (big 0 (by omega) w e)⟩)
    · refine ref w _ (fun M1 f1 v1 a1 t1 => ⟨fun e2 => absurd e2 (dif 1 0 (by omega) (by omega) (by omega) w e), fun _ => ⟨t1, rfl, h.same hq f1 v1 a1⟩, fun e2 => absurd e2 (dif 1 2 (by omega) (by omega) (by omega) w e), fun e2 => absurd e2 (dif 1 3 (by omega) (by omega) (by omega) w e), fun e2 => absurd e2 (dif 1 4 (by omega) (by omega) (by omega) w e), fun e2 => absurd e2 (big 1 (by omega) w e)⟩)
    · refine ref w _ (fun M1 f1 v1 a1 t1 => ⟨fun e2 => absurd e2 (dif 2 0 (by omega) (by omega) (by omega) w e), fun e2 => absurd e2 (dif 2 1 (by omega) (by omega) (by omega) w e), fun _ => ⟨t1, rfl, h.same hq f1 v1 a1⟩, fun e2 => absurd e2 (dif 2 3 (by omega) (by omega) (by omega) w e), fun e2 => absurd e2 (dif 2 4 (by omega) (by omega) (by omega) w e), fun e2 => absurd e2 (big 2 (by omega) w e)⟩)
    · refine ref w _ (fun M1 f1 v1 a1 t1 => ⟨fun e2 => absurd e2 (dif 3 0 (by omega) (by omega) (by omega) w e), fun e2 => absurd e2 (dif 3 1 (by omega) (by omega) (by omega) w e), fun e2 => absurd e2 (dif 3 2 (by omega) (by omega) (by omega) w e), fun _ => ⟨t1, rfl, h.same hq f1 v1 a1⟩, fun e2 => absurd e2 (dif 3 4 (by omega) (by omega) (by omega) w e), fun e2 => absurd e2 (big 3 (by omega) w e)⟩)
    · have rl : ∀ r : Int32, (ltV (VR M) s → r = 1) → (¬ ltV (VR M) s → r = 0) → P_X7_share (nI s) w M (fun r' M2 => M2 118 0 = 0 ∧ r = r' ∧ Ok (q + 1) M2) := fun r hy hno => by
        refine ref w _ (fun M1 f1 v1 a1 t1 => ⟨fun e2 => absurd e2 (dif 4 0 (by omega) (by omega) (by omega) w e), fun e2 => absurd e2 (dif 4 1 (by omega) (by omega) (by omega) w e), fun e2 => absurd e2 (dif 4 2 (by omega) (by omega) (by omega) w e), fun e2 => absurd e2 (dif 4 3 (by omega) (by omega) (by omega) w e), fun _ => ?_, fun e2 => absurd e2 (big 4 (by omega) w e)⟩)
        have fin := h.same hq f1 v1 a1
        refine r_let hs60 (fun hl => br_f (by decide) ⟨t1, hy (by rw [v1] at hl; exact hl), fin⟩) (fun hl => br_t rfl ⟨t1, hno (by rw [v1] at hl; exact hl), fin⟩)
      exact c_let hs60 (fun hl => br_f (by decide) (rl 1 (fun _ => rfl) (fun h2 => absurd (by rw [← hV]; exact hl) h2))) (fun hl => br_t rfl (rl 0 (fun h2 => absurd (by rw [hV]; exact h2) hl) (fun _ => rfl)))
    · have nk : ∀ k : Nat, k ≤ 4 → ¬ w = nI k := fun k hk e2 => big k hk w e2 e
      refine ref w _ (fun M1 f1 v1 a1 t1 => ⟨fun e2 => absurd e2 (nk 0 (by omega)), fun e2 => absurd e2 (nk 1 (by omega)), fun e2 => absurd e2 (nk 2 (by omega)), fun e2 => absurd e2 (nk 3 (by omega)), fun e2 => absurd e2 (nk 4 (by omega)), fun _ => ?_⟩)
      exact wr_thr (fun M2 f2 v2 a2 t2 => ⟨t2, h.same hq (f1.tr f2) (v2.trans v1) (a2.trans a1)⟩)
theorem T_holder {q : Nat} {M : Mem} {p w : Int32} (h : Ok q M) (hq : q < 512) : P_X6_holder p w M (fun r M1 => P_X7_holder p w M1 (fun r' M2 => M2 118 0 = 0 ∧ r = r' ∧ Ok (q + 1) M2)) (fun E M1 => (E = "java/lang/IndexOutOfBoundsException" ∧ P_X7_holder p w M1 (fun _ M2 => M2 118 0 = 1 ∧ Ok (q + 1) M2)) ∨ (E = "java/lang/IllegalArgumentException" ∧ P_X7_holder p w M1 (fun _ M2 => M2 118 0 = 2 ∧ Ok (q + 1) M2))) := by
  have hV := h.2.1.1
  have h6 : I6 (VR M) := h.2.2.2.2.2.2.2.2.2.1
  have c6 : I6 (VC M) := by rw [hV]; exact h6
  have c0 := h.ic.1
  have h0 := h.2.2.1
  have hk := (nc_eq h0).1
  obtain ⟨hn, en⟩ := ns_eq h6
  intro J40 J94 hJ40 hJ94
  refine ix_cases p (n := nc (VR M)) (by omega) (fun g => ?_) (fun c hc e => ?_)
  · refine c_ch0 c0 (by rw [hV]; exact g) (Or.inl ⟨rfl, ?_⟩)
    intro J28 J60 J165 J155 hJ28 hJ60 hJ165 hJ155
    exact wr_thr (fun M1 f1 v1 a1 t1 => r_noCh0 (by rw [v1]; exact h0) (by rw [v1]; exact g) (fl1 h hq f1 v1 a1 (fun M3 h3 => ⟨fun _ => h3, fun h => absurd h (by decide)⟩)))
  · subst e
    have hc8 : c < 8 := by omega
    refine c_ch1 c0 (by rw [hV]; exact hc) (br_c (fun hw => ?_) (fun hw => Or.inr ⟨rfl, ?_⟩))
    · -- the one who holds it, on the reference's side
      have ref : ∀ (r : Int32), (¬ 0 < VR M 12 c 0 → r = -1) → (0 < VR M 12 c 0 → (∀ i, i < ns (VR M) → ¬ (VR M 19 i 0 = nI c ∧ ¬ w - w / VR M 12 c 0 * VR M 12 c 0 < VR M 20 i 0 ∧ w - w / VR M 12 c 0 * VR M 12 c 0 < VR M 21 i 0)) → r = -1) → (∀ i, 0 < VR M 12 c 0 → i < ns (VR M) → (∀ j, j < i → ¬ (VR M 19 j 0 = nI c ∧ ¬ w - w / VR M 12 c 0 * VR M 12 c 0 < VR M 20 j 0 ∧ w - w / VR M 12 c 0 * VR M 12 c 0 < VR M 21 j 0)) → (VR M 19 i 0 = nI c ∧ ¬ w - w / VR M 12 c 0 * VR M 12 c 0 < VR M 20 i 0 ∧ w - w / VR M 12 c 0 * VR M 12 c 0 < VR M 21 i 0) → r = if ¬ w < VR M 24 i 0 ∧ ¬ VR M 25 i 0 ≤ w then AuR M 1 i else VR M 22 i 0) → P_X7_holder (nI c) w M (fun r' M2 => M2 118 0 = 0 ∧ r = r' ∧ Ok (q + 1) M2) := fun r r1 r2 r3 => by
        intro J28 J60 J165 J155 hJ28 hJ60 hJ165 hJ155
        refine wr_thr (fun M1 f1 v1 a1 t1 => r_noCh1 (by rw [v1]; exact h0) (by rw [v1]; exact hc) (thr0 ⟨fun h => absurd rfl h, fun _ => br_t hw ?_⟩))
        have fin := h.same hq f1 v1 a1
        apply hJ28
        refine thr0 (br_t rfl ⟨vp_in_nI hc8 (by omega), ?_⟩)
        rw [nI_clamp (by omega)]
        by_cases hd : 0 < VR M 12 c 0
        · rw [dg_y h.dg v1 a1 hc8 hd, rr_12 M1 hc8, v1]
          refine ⟨fun _ => ⟨vp_in_nI hc8 (by omega), fun h0 => ?_, ?_⟩, fun h => absurd h (by decide)⟩
          · rw [h0] at hd; exact absurd hd (by decide)
          · generalize w - w / VR M 12 c 0 * VR M 12 c 0 = m at *
            have := dn (P := fun i => (∀ j, j < i → ¬ (VR M 19 j 0 = nI c ∧ ¬ m < VR M 20 j 0 ∧ m < VR M 21 j 0)) → J60 m (nI i) M1) (ns (VR M)) (fun i hi hs hpre => by
              have hi60 : i < 60 := by omega
              apply hJ60
              rw [rr_6 M1, v1, en]
              refine br_f (nI_ge hi (by omega)) ?_
              have nxt : ¬ (VR M 19 i 0 = nI c ∧ ¬ m < VR M 20 i 0 ∧ m < VR M 21 i 0) → J165 m (nI i) M1 := fun hno => by
                apply hJ165
                rw [nI_1]
                refine hs (fun j hj => ?_)
                by_cases e : j = i
                · rw [e]; exact hno
                · exact hpre j (by omega)
              rw [show (1 : Int32) = nI 1 from rfl, show (2 : Int32) = nI 2 from rfl, show (4 : Int32) = nI 4 from rfl, show (5 : Int32) = nI 5 from rfl, show (6 : Int32) = nI 6 from rfl, ix7, ix7, ix7, ix7, ix7, ix7a, nI_clamp (by omega), nI_clamp (by omega), nI_clamp (by omega), nI_clamp (by omega), nI_clamp (by omega), nI_clamp (by omega), rr_19 M1 hi60, rr_20 M1 hi60, rr_21 M1 hi60, rr_24 M1 hi60, rr_25 M1 hi60, v1]
              refine ⟨vp_in_nI (by omega) (by omega), ⟨fun h1 => nxt (fun h2 => h1 h2.1), fun h1 => ⟨vp_in_nI (by omega) (by omega), br_c (fun h2 => nxt (fun h3 => h3.2.1 h2)) (fun h2 => ⟨vp_in_nI (by omega) (by omega), br_c (fun h3 => ⟨vp_in_nI (by omega) (by omega), ?_⟩) (fun h3 => nxt (fun h4 => h3 h4.2.2))⟩)⟩⟩⟩
              have hr := r3 i hd hi hpre ⟨h1, h2, h3⟩
              have own : (¬ (¬ w < VR M 24 i 0 ∧ ¬ VR M 25 i 0 ≤ w)) → J155 (nI (7 * i)) M1 := fun hno => by
                apply hJ155
                rw [show (3 : Int32) = nI 3 from rfl, nI_add, nI_clamp (by omega), rr_22 M1 hi60, v1]
                rw [if_neg hno] at hr
                exact ⟨vp_in_nI (by omega) (by omega), t1, hr, fin⟩
              refine br_c (fun h4 => own (fun h5 => h5.1 h4)) (fun h4 => ⟨vp_in_nI (by omega) (by omega), br_c (fun h5 => own (fun h6 => h6.2 h5)) (fun h5 => ⟨vp_in_nI (by omega) (by omega), ?_⟩)⟩)
              rw [if_pos ⟨h4, h5⟩] at hr
              rw [rar_n M1 hi60, a1]
              exact ⟨t1, hr, fin⟩) (fun hpre => by
              apply hJ60
              rw [rr_6 M1, v1, en]
              exact br_t (nI_le (Nat.le_refl _) (by omega)) ⟨t1, r2 hd hpre, fin⟩)
            exact this (fun j hj => absurd hj (Nat.not_lt_zero _))
        · rw [dg_n h.dg v1 a1 hc8 hd]
          exact ⟨fun h => absurd rfl h, fun _ => ⟨t1, r1 hd, fin⟩⟩
      rw [rc_12 M hc8, hV]
      refine br_c (fun hd => ⟨fun h0 => ?_, ?_⟩) (fun hd => ref (-1) (fun _ => rfl) (fun h => absurd h hd) (fun i h => absurd h hd))
      · rw [h0] at hd; exact absurd hd (by decide)
      · generalize hm : w - w / VR M 12 c 0 * VR M 12 c 0 = m at *
        have := dn (P := fun i => (∀ j, j < i → ¬ (VR M 19 j 0 = nI c ∧ ¬ m < VR M 20 j 0 ∧ m < VR M 21 j 0)) → J40 m (nI i) M) (ns (VR M)) (fun i hi hs hpre => by
          have hi60 : i < 60 := by omega
          apply hJ40
          rw [rc_6 M, hV, en]
          refine br_f (nI_ge hi (by omega)) ⟨vp_in_nI hi60 (by omega), ?_⟩
          have nxt : ¬ (VR M 19 i 0 = nI c ∧ ¬ m < VR M 20 i 0 ∧ m < VR M 21 i 0) → J94 m (nI i) M := fun hno => by
            apply hJ94
            rw [nI_1]
            refine hs (fun j hj => ?_)
            by_cases e : j = i
            · rw [e]; exact hno
            · exact hpre j (by omega)
          rw [nI_clamp (by omega), rc_19 M hi60, rc_20 M hi60, rc_21 M hi60, hV]
          refine ⟨fun h1 => nxt (fun h2 => h1 h2.1), fun h1 => br_c (fun h2 => nxt (fun h3 => h3.2.1 h2)) (fun h2 => br_c (fun h3 => nxt (fun h4 => ?_)) (fun h3 => ?_))⟩
          · have := h4.2.2
            rw [i32_lt] at this
            rw [i32_le] at h3
            omega
          · have hit : VR M 19 i 0 = nI c ∧ ¬ m < VR M 20 i 0 ∧ m < VR M 21 i 0 := ⟨h1, h2, by rw [i32_lt]; rw [i32_le] at h3; omega⟩
            have uniq : ∀ k, k < ns (VR M) → (∀ j, j < k → ¬ (VR M 19 j 0 = nI c ∧ ¬ m < VR M 20 j 0 ∧ m < VR M 21 j 0)) → (VR M 19 k 0 = nI c ∧ ¬ m < VR M 20 k 0 ∧ m < VR M 21 k 0) → k = i := fun k hk hpk hk2 => by
              rcases Nat.lt_trichotomy k i with hlt | heq | hgt
              · exact absurd hk2 (hpre k hlt)
              · exact heq
              · exact absurd hit (hpk i hgt)
            have fin2 : ∀ r : Int32, (r = if ¬ w < VR M 24 i 0 ∧ ¬ VR M 25 i 0 ≤ w then AuR M 1 i else VR M 22 i 0) → P_X7_holder (nI c) w M (fun r' M2 => M2 118 0 = 0 ∧ r = r' ∧ Ok (q + 1) M2) := fun r hr => ref r (fun h => absurd hd h) (fun _ hall => absurd hit (hall i hi)) (fun k _ hk hpk hk2 => by
              have := uniq k hk hpk hk2
              rw [this]
              exact hr)
            intro J23 hJ23
            rw [rc_24 M hi60, rc_25 M hi60, hV]
            have own : (¬ (¬ w < VR M 24 i 0 ∧ ¬ VR M 25 i 0 ≤ w)) → J23 M := fun hno => by
              apply hJ23
              refine fin2 _ ?_
              rw [if_neg hno, rc_22 M hi60, hV]
            refine br_c (fun h4 => own (fun h5 => h5.1 h4)) (fun h4 => br_c (fun h5 => own (fun h6 => h6.2 h5)) (fun h5 => ?_))
            refine fin2 _ ?_
            rw [if_pos ⟨h4, h5⟩, rac_n M hi60]
            refine h.2.1.2.2.2 i hi60 ?_
            rw [i32_lt, t0]
            rw [i32_le] at h5
            rw [i32_le, t0] at hw
            omega) (fun hpre => by
          apply hJ40
          rw [rc_6 M, hV, en]
          exact br_t (nI_le (Nat.le_refl _) (by omega)) (ref (-1) (fun _ => rfl) (fun _ _ => rfl) (fun i _ hi _ h4 => absurd h4 (hpre i hi))))
        exact this (fun j hj => absurd hj (Nat.not_lt_zero _))
    · intro J28 J60 J165 J155 hJ28 hJ60 hJ165 hJ155
      refine wr_thr (fun M1 f1 v1 a1 t1 => r_noCh1 (by rw [v1]; exact h0) (by rw [v1]; exact hc) (thr0 ⟨fun h => absurd rfl h, fun _ => br_f hw ?_⟩))
      apply hJ28
      exact fl1 h hq f1 v1 a1 (fun M3 h3 => br_f (by decide) h3)
