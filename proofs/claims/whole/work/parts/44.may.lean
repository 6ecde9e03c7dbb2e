/-! ===== whether a channel may be dug ===== -/
def nw (V : Vw) (c : Nat) : Nat := (V 11 c 0).toNatClampNeg
def nc (V : Vw) : Nat := (V 0 0 0).toNatClampNeg
def clV (V : Vw) (c w d v : Nat) : Prop := stV (V 15 c w) (V 16 c w) (V 15 d v) (V 16 d v) < V 10 0 0 ∧ ¬ (V 17 d v + V 10 1 0 ≤ V 17 c w)
def ClV (V : Vw) (c d : Nat) : Prop := ∀ w, w < nw V c → ∀ v, v < nw V d → ¬ clV V c w d v
def MayV (V : Vw) (c : Nat) : Prop := 2 ≤ nw V c ∧ ∀ d, d < nc V → 0 < V 12 d 0 → ClV V c d
def I10 (V : Vw) : Prop := rg (V 10 0 0) 0 100 ∧ rg (V 10 1 0) 0 1000 ∧ (V 10 2 0 = 0 ∨ V 10 2 0 = 1) ∧ rg (V 10 3 0) 0 100
theorem nw_eq {V : Vw} (h : I11 V) (c : Nat) : nw V c ≤ 20 ∧ V 11 c 0 = nI (nw V c) := by
  obtain ⟨n, hn, e⟩ := h c
  unfold nw
  rw [e, nI_clamp (by omega)]
  exact ⟨hn, rfl⟩
theorem nc_eq {V : Vw} (h : I0 V) : nc V ≤ 8 ∧ V 0 0 0 = nI (nc V) := by
  obtain ⟨n, hn, e⟩ := h
  unfold nc
  rw [e, nI_clamp (by omega)]
  exact ⟨hn, rfl⟩
theorem dep_eq {V : Vw} (h : I15 V) (h10 : I10 V) (c w d v : Nat) : V 10 1 0 ≤ V 17 c w - V 17 d v ↔ V 17 d v + V 10 1 0 ≤ V 17 c w := by
  have h1 := (h c w).2.2
  have h2 := (h d v).2.2
  have h3 := h10.2.1
  have e1 : (V 17 c w - V 17 d v).toInt = (V 17 c w).toInt - (V 17 d v).toInt := sub_toInt (by unfold rg at *; omega)
  have e2 : (V 17 d v + V 10 1 0).toInt = (V 17 d v).toInt + (V 10 1 0).toInt := add_toInt (by unfold rg at *; omega)
  rw [i32_le, i32_le, e1, e2]
  omega
theorem c_clear {M : Mem} {c d : Nat} {Q : Int32 → Mem → Prop} (h11 : I11 (VC M)) (h15 : I15 (VC M)) (h10 : I10 (VC M)) (hc : c < 8) (hd : d < 8) (hY : ClV (VC M) c d → Q 1 M) (hN : ¬ ClV (VC M) c d → Q 0 M) : P_X6_isClearOf c d M Q := by
  intro J2 J13 J89 hJ2 hJ13 hJ89
  obtain ⟨hn, en⟩ := nw_eq h11 c
  obtain ⟨hm, em⟩ := nw_eq h11 d
  have := dn (P := fun i => (∀ w, w < i → ∀ v, v < nw (VC M) d → ¬ clV (VC M) c w d v) → J2 (nI i) M) (nw (VC M) c) (fun i hi hs hpre => by
    apply hJ2
    rw [rc_11 M hc, en]
    refine br_f (nI_ge hi (by omega)) ?_
    have := dn (P := fun j => (∀ v, v < j → ¬ clV (VC M) c i d v) → J13 (nI i) (nI j) M) (nw (VC M) d) (fun j hj hs2 hpre2 => by
      apply hJ13
      rw [rc_11 M hd, em]
      refine br_f (nI_ge hj (by omega)) ⟨vp_in_nI (by omega) (by omega), vp_in_nI (by omega) (by omega), vp_in_nI (by omega) (by omega), vp_in_nI (by omega) (by omega), ?_⟩
      rw [nI_clamp (by omega), nI_clamp (by omega), rc_15 M hc (by omega), rc_16 M hc (by omega), rc_15 M hd (by omega), rc_16 M hd (by omega)]
      show vp_in (0 : Int32) 4 ∧ _
      refine ⟨vp_in_nI (n := 0) (by omega) (by omega), ?_⟩
      have nxt : ¬ clV (VC M) c i d j → J89 (nI i) (nI j) M := fun hno => by
        apply hJ89
        rw [nI_1]
        refine hs2 (fun v hv => ?_)
        by_cases e : v = j
        · rw [e]; exact hno
        · exact hpre2 v (by omega)
      rw [show (0 : Int32).toNatClampNeg = 0 from rfl, rc_10 M (by decide)]
      refine br_c (fun h1 => nxt (fun hcl => ?_)) (fun h1 => ⟨vp_in_nI (by omega) (by omega), vp_in_nI (by omega) (by omega), vp_in_nI (n := 1) (by omega) (by omega), ?_⟩)
      · have := hcl.1
        rw [i32_lt] at this
        rw [i32_le] at h1
        exact absurd h1 (by unfold stV at this; omega)
      · rw [show (1 : Int32).toNatClampNeg = 1 from rfl, rc_10 M (by decide), rc_17 M hc (by omega), rc_17 M hd (by omega)]
        refine br_c (fun h2 => nxt (fun hcl => ?_)) (fun h2 => hN (fun hall => ?_))
        · exact hcl.2 ((dep_eq h15 h10 c i d j).mp h2)
        · refine hall i hi j hj ⟨?_, fun h3 => h2 ((dep_eq h15 h10 c i d j).mpr h3)⟩
          rw [i32_lt]
          rw [i32_le] at h1
          unfold stV
          omega) (fun hpre2 => by
      apply hJ13
      rw [rc_11 M hd, em]
      refine br_t (nI_le (Nat.le_refl _) (by omega)) ?_
      rw [nI_1]
      refine hs (fun w hw => ?_)
      by_cases e : w = i
      · rw [e]; exact hpre2
      · exact hpre w (by omega))
    exact this (fun v hv => absurd hv (Nat.not_lt_zero _))) (fun hpre => by
    apply hJ2
    rw [rc_11 M hc, en]
    exact br_t (nI_le (Nat.le_refl _) (by omega)) (hY hpre))
  exact this (fun v hv => absurd hv (Nat.not_lt_zero _))
theorem c_allowed {M : Mem} {c : Nat} {Q : Int32 → Mem → Prop} (h0 : I0 (VC M)) (h11 : I11 (VC M)) (h15 : I15 (VC M)) (h10 : I10 (VC M)) (hc : c < 8) (hY : MayV (VC M) c → Q 1 M) (hN : ¬ MayV (VC M) c → Q 0 M) : P_X6_isAllowed c M Q := by
  intro J12 J45 hJ12 hJ45
  obtain ⟨hn, en⟩ := nw_eq h11 c
  obtain ⟨hk, ek⟩ := nc_eq h0
  rw [rc_11 M hc, en]
  refine br_c (fun h2 => ?_) (fun h2 => hN (fun hm => h2 (nI_le hm.1 (by omega))))
  have hw2 : 2 ≤ nw (VC M) c := (nI_leI (a := 2) (by omega) (by omega)).mp h2
  have := dn (P := fun i => (∀ d, d < i → 0 < VC M 12 d 0 → ClV (VC M) c d) → J12 (nI i) M) (nc (VC M)) (fun i hi hs hpre => by
    apply hJ12
    rw [rc_0 M, ek]
    refine br_f (nI_ge hi (by omega)) ⟨vp_in_nI (by omega) (by omega), ?_⟩
    rw [nI_clamp (by omega)]
    have nxt : (0 < VC M 12 i 0 → ClV (VC M) c i) → J45 (nI i) M := fun hno => by
      apply hJ45
      rw [nI_1]
      refine hs (fun d hd => ?_)
      by_cases e : d = i
      · rw [e]; exact hno
      · exact hpre d (by omega)
    refine c_isDug (by omega) ?_
    by_cases hd : 0 < VC M 12 i 0
    · rw [if_pos hd]
      refine br_f (by decide) ?_
      refine c_clear h11 h15 h10 hc (by omega) (fun hcl => ?_) (fun hcl => ?_)
      · exact ⟨fun _ => nxt (fun _ => hcl), fun h => absurd h (by decide)⟩
      · exact ⟨fun h => absurd rfl h, fun _ => hN (fun hm => hcl (hm.2 i hi hd))⟩
    · rw [if_neg hd]
      exact br_t rfl (nxt (fun h => absurd h hd))) (fun hpre => by
    apply hJ12
    rw [rc_0 M, ek]
    exact br_t (nI_le (Nat.le_refl _) (by omega)) (hY ⟨hw2, hpre⟩))
  exact this (fun d hd => absurd hd (Nat.not_lt_zero _))
theorem r_mayBe {M : Mem} {c : Nat} {Q : Int32 → Mem → Prop} (h0 : I0 (VR M)) (h11 : I11 (VR M)) (hD : Dg M) (hc : c < 8) (hY : MayV (VR M) c → Q 1 M) (hN : ¬ MayV (VR M) c → Q 0 M) : P_X7_mayBe (nI c) M Q := by
  intro J17 J34 J60 J145 J139 hJ17 hJ34 hJ60 hJ145 hJ139
  obtain ⟨hn, en⟩ := nw_eq h11 c
  obtain ⟨hk, ek⟩ := nc_eq h0
  rw [nI_clamp (by omega), rr_11 M hc, en]
  refine ⟨vp_in_nI hc (by omega), br_c (fun h2 => ?_) (fun h2 => hN (fun hm => h2 (nI_le hm.1 (by omega))))⟩
  have hw2 : 2 ≤ nw (VR M) c := (nI_leI (a := 2) (by omega) (by omega)).mp h2
  have := dn (P := fun i => (∀ w, w < i → ∀ d, d < nc (VR M) → 0 < VR M 12 d 0 → ∀ v, v < nw (VR M) d → ¬ clV (VR M) c w d v) → J17 (nI (20 * c + i)) M) (nw (VR M) c) (fun i hi hs hpre => by
    apply hJ17
    rw [nI_clamp (by omega), rr_11 M hc, en, ix20]
    refine ⟨vp_in_nI hc (by omega), br_f (nI_ge (by omega) (by omega)) ?_⟩
    have := dn (P := fun d => (∀ d', d' < d → 0 < VR M 12 d' 0 → ∀ v, v < nw (VR M) d' → ¬ clV (VR M) c i d' v) → J34 (nI (20 * c + i)) (nI d) M) (nc (VR M)) (fun d hd hs2 hpre2 => by
      obtain ⟨hm, em⟩ := nw_eq h11 d
      apply hJ34
      rw [rr_0 M, ek]
      refine br_f (nI_ge (by omega) (by omega)) ⟨vp_in_nI (by omega) (by omega), ?_⟩
      rw [nI_clamp (by omega)]
      have nxt : (0 < VR M 12 d 0 → ∀ v, v < nw (VR M) d → ¬ clV (VR M) c i d v) → J145 (nI (20 * c + i)) (nI d) M := fun hno => by
        apply hJ145
        rw [nI_1]
        refine hs2 (fun d' hd' => ?_)
        by_cases e : d' = d
        · rw [e]; exact hno
        · exact hpre2 d' (by omega)
      refine ⟨fun h3 => ?_, fun h3 => nxt (fun h => absurd h ((hD.nz (by omega)).mp h3))⟩
      have hdug : 0 < VR M 12 d 0 := Classical.byContradiction (fun hh => h3 ((hD.nz (by omega)).mpr hh))
      rw [ix20a]
      have := dn (P := fun j => (∀ v, v < j → ¬ clV (VR M) c i d v) → J60 (nI (20 * c + i)) (nI d) (nI (20 * d + j)) M) (nw (VR M) d) (fun j hj hs3 hpre3 => by
        apply hJ60
        rw [nI_clamp (by omega), nI_clamp (by omega), nI_clamp (by omega), rr_11 M (by omega), em, ix20]
        refine ⟨vp_in_nI (by omega) (by omega), br_f (nI_ge (by omega) (by omega)) ⟨vp_in_nI (by omega) (by omega), vp_in_nI (by omega) (by omega), vp_in_nI (by omega) (by omega), vp_in_nI (by omega) (by omega), ?_⟩⟩
        rw [rr_15 M hc (by omega), rr_16 M hc (by omega), rr_15 M (by omega) (by omega), rr_16 M (by omega) (by omega)]
        show vp_in (0 : Int32) 4 ∧ _
        refine ⟨vp_in_nI (n := 0) (by omega) (by omega), ?_⟩
        have nxt3 : ¬ clV (VR M) c i d j → J139 (nI (20 * c + i)) (nI d) (nI (20 * d + j)) M := fun hno => by
          apply hJ139
          rw [nI_1]
          refine hs3 (fun v hv => ?_)
          by_cases e : v = j
          · rw [e]; exact hno
          · exact hpre3 v (by omega)
        rw [show (0 : Int32).toNatClampNeg = 0 from rfl, rr_10 M (by decide)]
        refine br_c (fun h1 => nxt3 (fun hcl => ?_)) (fun h1 => ⟨vp_in_nI (by omega) (by omega), vp_in_nI (by omega) (by omega), vp_in_nI (n := 1) (by omega) (by omega), ?_⟩)
        · have := hcl.1
          rw [i32_lt] at this
          rw [i32_le] at h1
          exact absurd h1 (by unfold stV at this; omega)
        · rw [show (1 : Int32).toNatClampNeg = 1 from rfl, rr_10 M (by decide), rr_17 M hc (by omega), rr_17 M (by omega) (by omega)]
          refine br_c (fun h2 => nxt3 (fun hcl => hcl.2 h2)) (fun h2 => hN (fun hall => ?_))
          refine hall.2 d hd hdug i hi j hj ⟨?_, h2⟩
          rw [i32_lt]
          rw [i32_le] at h1
          unfold stV
          omega) (fun hpre3 => by
        apply hJ60
        rw [nI_clamp (by omega), rr_11 M (by omega), em, ix20]
        exact ⟨vp_in_nI (by omega) (by omega), br_t (nI_le (Nat.le_refl _) (by omega)) (nxt (fun _ => hpre3))⟩)
      exact this (fun v hv => absurd hv (Nat.not_lt_zero _))) (fun hpre2 => by
      apply hJ34
      rw [rr_0 M, ek]
      refine br_t (nI_le (Nat.le_refl _) (by omega)) ?_
      rw [nI_1]
      refine hs (fun w hw => ?_)
      by_cases e : w = i
      · rw [e]; exact hpre2
      · exact hpre w (by omega))
    exact this (fun v hv => absurd hv (Nat.not_lt_zero _))) (fun hpre => by
    apply hJ17
    rw [nI_clamp (by omega), rr_11 M hc, en, ix20]
    exact ⟨vp_in_nI hc (by omega), br_t (nI_le (Nat.le_refl _) (by omega)) (hY ⟨hw2, fun d hd hdug w hw => hpre w hw d hd hdug⟩)⟩)
  rw [ix20a]
  exact this (fun d hd => absurd hd (Nat.not_lt_zero _))
