/-! ===== count, well ===== -/
noncomputable def ltA (V : Vw) : Nat → Nat
  | 0 => 0
  | n + 1 => @ite _ (ltV V n) (Classical.propDecidable _) (ltA V n + 1) (ltA V n)
theorem ltA_y {V : Vw} {n : Nat} (h : ltV V n) : ltA V (n + 1) = ltA V n + 1 := by simp only [ltA]; exact if_pos h
theorem ltA_n {V : Vw} {n : Nat} (h : ¬ ltV V n) : ltA V (n + 1) = ltA V n := by simp only [ltA]; exact if_neg h
noncomputable def faA (V : Vw) (u : Int32) : Nat → Int32
  | 0 => 0
  | c + 1 => if 0 < V 12 c 0 then faA V u c + flV V c u else faA V u c
theorem faA_y {V : Vw} {u : Int32} {n : Nat} (h : 0 < V 12 n 0) : faA V u (n + 1) = faA V u n + flV V n u := by simp only [faA]; exact if_pos h
theorem faA_n {V : Vw} {u : Int32} {n : Nat} (h : ¬ 0 < V 12 n 0) : faA V u (n + 1) = faA V u n := by simp only [faA]; exact if_neg h
theorem faA_u {V : Vw} {u u' : Int32} (hu : ∀ k, 0 < V 12 k 0 → (u < V 14 k 0 ↔ u' < V 14 k 0)) : ∀ n, faA V u n = faA V u' n := by
  intro n
  induction n with
  | zero => rfl
  | succ n ih =>
    by_cases h : 0 < V 12 n 0
    · rw [faA_y h, faA_y h, ih, flV_u hu]
    · rw [faA_n h, faA_n h, ih]
theorem c_letShares {M : Mem} {Q : Int32 → Mem → Prop} (h6 : I6 (VC M)) (k : Q (nI (ltA (VC M) (ns (VC M)))) M) : P_X6_letShares M Q := by
  obtain ⟨hn, en⟩ := ns_eq h6
  intro J4 J31 hJ4 hJ31
  have := dn (P := fun i => J4 (nI (ltA (VC M) i)) (nI i) M) (ns (VC M)) (fun i hi hs => by
    have hi60 : i < 60 := by omega
    apply hJ4
    rw [rc_6 M, en]
    refine br_f (nI_ge hi (by omega)) ⟨vp_in_nI hi60 (by omega), ?_⟩
    rw [nI_clamp (by omega)]
    refine c_let hi60 (fun hy => br_f (by decide) ?_) (fun hno => br_t rfl ?_)
    · apply hJ31
      rw [nI_1, nI_1]
      rw [ltA_y hy] at hs
      exact hs
    · apply hJ31
      rw [nI_1]
      rw [ltA_n hno] at hs
      exact hs) (by
    apply hJ4
    rw [rc_6 M, en]
    exact br_t (nI_le (Nat.le_refl _) (by omega)) k)
  exact this
theorem c_flowAll {q : Nat} {M : Mem} {Q : Int32 → Mem → Prop} (h : Inv q (VC M)) (k : Q (faA (VC M) (VC M 1 0 0) (nc (VC M))) M) : P_X6_flowOfAll M Q := by
  obtain ⟨hn, en⟩ := nc_eq h.1
  intro J4 J41 hJ4 hJ41
  have := dn (P := fun i => J4 (faA (VC M) (VC M 1 0 0) i) (nI i) M) (nc (VC M)) (fun i hi hs => by
    have hi8 : i < 8 := by omega
    apply hJ4
    rw [rc_0 M, en]
    refine br_f (nI_ge hi (by omega)) ⟨vp_in_nI hi8 (by omega), ?_⟩
    rw [nI_clamp (by omega)]
    refine c_isDug hi8 ?_
    by_cases hd : 0 < VC M 12 i 0
    · rw [if_pos hd]
      refine br_f (by decide) ⟨vp_in_nI hi8 (by omega), ?_⟩
      rw [rc_1 M]
      refine c_flow' h hi8 ?_
      apply hJ41
      rw [nI_1]
      rw [faA_y hd] at hs
      exact hs
    · rw [if_neg hd]
      refine br_t rfl ?_
      apply hJ41
      rw [nI_1]
      rw [faA_n hd] at hs
      exact hs) (by
    apply hJ4
    rw [rc_0 M, en]
    exact br_t (nI_le (Nat.le_refl _) (by omega)) k)
  exact this

noncomputable def cnV (V : Vw) (p : Int32) : Int32 := if p = 0 then V 0 0 0 else if p = 1 then V 1 0 0 else if p = 2 then V 4 0 0 else if p = 3 then V 5 0 0 else if p = 4 then V 6 0 0 else if p = 5 then nI (ltA V (ns V)) else if p = 6 then V 26 0 0 else if p = 7 then faA V 8 (nc V) else -1
theorem cnV_0 {V : Vw} : cnV V 0 = V 0 0 0 := by
  unfold cnV
  rw [if_pos rfl]
theorem cnV_1 {V : Vw} : cnV V 1 = V 1 0 0 := by
  unfold cnV
  rw [if_neg (by decide), if_pos rfl]
theorem cnV_2 {V : Vw} : cnV V 2 = V 4 0 0 := by
  unfold cnV
  rw [if_neg (by decide), if_neg (by decide), if_pos rfl]
theorem cnV_3 {V : Vw} : cnV V 3 = V 5 0 0 := by
  unfold cnV
  rw [if_neg (by decide), if_neg (by decide), if_neg (by decide), if_pos rfl]
theorem cnV_4 {V : Vw} : cnV V 4 = V 6 0 0 := by
  unfold cnV
  rw [if_neg (by decide), if_neg (by decide), if_neg (by decide), if_neg (by decide), if_pos rfl]
theorem cnV_5 {V : Vw} : cnV V 5 = nI (ltA V (ns V)) := by
  unfold cnV
  rw [if_neg (by decide), if_neg (by decide), if_neg (by decide), if_neg (by decide), if_neg (by decide), if_pos rfl]
theorem cnV_6 {V : Vw} : cnV V 6 = V 26 0 0 := by
  unfold cnV
  rw [if_neg (by decide), if_neg (by decide), if_neg (by decide), if_neg (by decide), if_neg (by decide), if_neg (by decide), if_pos rfl]
theorem cnV_7 {V : Vw} : cnV V 7 = faA V 8 (nc V) := by
  unfold cnV
  rw [if_neg (by decide), if_neg (by decide), if_neg (by decide), if_neg (by decide), if_neg (by decide), if_neg (by decide), if_neg (by decide), if_pos rfl]
theorem cnV_x {V : Vw} {p : Int32} (h : p.toInt < 0 ∨ (7 : Int) < p.toInt) : cnV V p = -1 := by
  unfold cnV
  rw [if_neg (fun e => by rw [e] at h; revert h; decide), if_neg (fun e => by rw [e] at h; revert h; decide), if_neg (fun e => by rw [e] at h; revert h; decide), if_neg (fun e => by rw [e] at h; revert h; decide), if_neg (fun e => by rw [e] at h; revert h; decide), if_neg (fun e => by rw [e] at h; revert h; decide), if_neg (fun e => by rw [e] at h; revert h; decide), if_neg (fun e => by rw [e] at h; revert h; decide)]
theorem c_count {q : Nat} {M : Mem} {p : Int32} {Q : Int32 → Mem → Prop} (h : Inv q (VC M)) (k : Q (cnV (VC M) p) M) : P_X6_count p M Q := by
  refine ⟨fun e => ?_, fun e => ?_, fun e => ?_, fun e => ?_, fun e => ?_, fun e => ?_, fun e => ?_, fun e => ?_, fun e => ?_⟩
  · subst e
    rw [cnV_0] at k
    rw [rc_0 M]
    exact k
  · subst e
    rw [cnV_1] at k
    rw [rc_1 M]
    exact k
  · subst e
    rw [cnV_2] at k
    rw [rc_4 M]
    exact k
  · subst e
    rw [cnV_3] at k
    rw [rc_5 M]
    exact k
  · subst e
    rw [cnV_4] at k
    rw [rc_6 M]
    exact k
  · subst e
    rw [cnV_5] at k
    exact c_letShares h.2.2.2.2.2.2.2.1 k
  · subst e
    rw [cnV_6] at k
    rw [rc_26 M]
    exact k
  · subst e
    rw [cnV_7, ← faA_u (ord8 h.2.2.2.2.1)] at k
    exact c_flowAll h k
  · rw [cnV_x e] at k
    exact k
theorem r_count {q : Nat} {M : Mem} {p : Int32} {Q : Int32 → Mem → Prop} (h : Ok q M) (k : ∀ M1, Lo M M1 → VR M1 = VR M → AuR M1 = AuR M → Q (cnV (VR M) p) M1) : P_X7_count p M Q := by
  intro J83 J122 J105 J151 hJ83 hJ122 hJ105 hJ151
  refine wr_thr (fun M1 f1 v1 a1 t1 => ?_)
  have k := k M1 f1 v1 a1
  have hI := h.ir v1
  refine ⟨fun e => ?_, fun e => ?_, fun e => ?_, fun e => ?_, fun e => ?_, fun e => ?_, fun e => ?_, fun e => ?_, fun e => ?_⟩
  · subst e
    rw [cnV_0] at k
    rw [rr_0 M1, v1]
    exact k
  · subst e
    rw [cnV_1] at k
    rw [rr_1 M1, v1]
    exact k
  · subst e
    rw [cnV_2] at k
    rw [rr_4 M1, v1]
    exact k
  · subst e
    rw [cnV_3] at k
    rw [rr_5 M1, v1]
    exact k
  · subst e
    rw [cnV_4] at k
    rw [rr_6 M1, v1]
    exact k
  · subst e
    rw [cnV_5] at k
    obtain ⟨hn, en⟩ := ns_eq h.2.2.2.2.2.2.2.2.2.1
    have := dn (P := fun i => J83 (nI (ltA (VR M) i)) (nI i) M1) (ns (VR M)) (fun i hi hs => by
      have hi60 : i < 60 := by omega
      apply hJ83
      rw [rr_6 M1, v1, en]
      refine br_f (nI_ge hi (by omega)) (r_let hi60 (fun hy => br_f (by decide) ?_) (fun hno => br_t rfl ?_))
      · rw [v1] at hy
        apply hJ105
        rw [nI_1, nI_1]
        rw [ltA_y hy] at hs
        exact hs
      · rw [v1] at hno
        apply hJ105
        rw [nI_1, Int32.add_zero]
        rw [ltA_n hno] at hs
        exact hs) (by
      apply hJ83
      rw [rr_6 M1, v1, en]
      exact br_t (nI_le (Nat.le_refl _) (by omega)) k)
    exact this
  · subst e
    rw [cnV_6] at k
    rw [rr_26 M1, v1]
    exact k
  · subst e
    rw [cnV_7] at k
    obtain ⟨hn, en⟩ := nc_eq h.2.2.1
    have := dn (P := fun i => J122 (faA (VR M) 8 i) (nI i) M1) (nc (VR M)) (fun i hi hs => by
      have hi8 : i < 8 := by omega
      apply hJ122
      rw [rr_0 M1, v1, en]
      refine br_f (nI_ge hi (by omega)) ⟨vp_in_nI hi8 (by omega), ?_⟩
      rw [nI_clamp (by omega)]
      by_cases hd : 0 < VR M 12 i 0
      · rw [dg_y h.dg v1 a1 hi8 hd]
        refine br_f (by decide) (r_flow hI.2.1 hI.1 (h.dg.to v1 a1) hi8 ?_)
        rw [v1]
        apply hJ151
        rw [nI_1]
        rw [faA_y hd] at hs
        exact hs
      · rw [dg_n h.dg v1 a1 hi8 hd]
        refine br_t rfl ?_
        apply hJ151
        rw [nI_1, Int32.add_zero]
        rw [faA_n hd] at hs
        exact hs) (by
      apply hJ122
      rw [rr_0 M1, v1, en]
      exact br_t (nI_le (Nat.le_refl _) (by omega)) k)
    exact this
  · rw [cnV_x e] at k
    exact k
theorem T_count {q : Nat} {M : Mem} {p : Int32} (h : Ok q M) (hq : q < 512) : P_X6_count p M (fun r M1 => P_X7_count p M1 (fun r' M2 => r = r' ∧ Ok (q + 1) M2)) := by
  refine c_count h.ic (r_count h (fun M1 f1 v1 a1 => ⟨?_, h.same hq f1 v1 a1⟩))
  rw [h.2.1.1]
def bdW (V : Vw) (c : Nat) (x y f : Int32) : Prop := (x < 0 ∨ 100 < x) ∨ (y < 0 ∨ 100 < y) ∨ (f < 0 ∨ 1000 < f) ∨ (nw V c ≠ 0 ∧ f < V 17 c (nw V c - 1))
def weU (V : Vw) (c n : Nat) (x y f : Int32) : Vw := vu (vu (vu (vu V 15 c n x) 16 c n y) 17 c n f) 11 c 0 (nI (n + 1))
theorem c_well {M : Mem} {c : Nat} {x y f : Int32} {Q : Int32 → Mem → Prop} {X : String → Mem → Prop} (h0 : I0 (VC M)) (h11 : I11 (VC M)) (h15 : I15 (VC M)) (hc : c < nc (VC M)) (hd : ¬ 0 < VC M 12 c 0) (kb : bdW (VC M) c x y f → X "java/lang/IllegalArgumentException" M) (k20 : ¬ bdW (VC M) c x y f → nw (VC M) c = 20 → X "java/lang/UnsupportedOperationException" M) (kg : ¬ bdW (VC M) c x y f → nw (VC M) c < 20 → ∀ M1, Hi M M1 → VC M1 = weU (VC M) c (nw (VC M) c) x y f → AuC M1 = AuC M → Q (nI (nw (VC M) c)) M1) : P_X6_well (nI c) x y f M Q X := by
  have hk := (nc_eq h0).1
  obtain ⟨hm, em⟩ := nw_eq h11 c
  have hc8 : c < 8 := by omega
  refine c_un2 h0 hc hd ?_
  by_cases g1 : x < 0 ∨ 100 < x
  · exact wi0 g1 (br_t rfl (kb (Or.inl g1)))
  refine wi1 (fun h => g1 (Or.inl h)) (fun h => g1 (Or.inr h)) (br_f (by decide) ?_)
  by_cases g2 : y < 0 ∨ 100 < y
  · exact wi0 g2 (br_t rfl (kb (Or.inr (Or.inl g2))))
  refine wi1 (fun h => g2 (Or.inl h)) (fun h => g2 (Or.inr h)) (br_f (by decide) ?_)
  have fin : ¬ bdW (VC M) c x y f → (((M (7 + 5 * c) 4) < (20 : Int32) → (P_X0_addWell c x y f M (fun M16 => Q ((M16 (7 + 5 * c) 4) - (1 : Int32)) M16))) ∧ (¬ (M (7 + 5 * c) 4) < (20 : Int32) → X "java/lang/UnsupportedOperationException" M)) := fun hg => by
    rw [rc_11 M hc8, em]
    by_cases h20 : nw (VC M) c = 20
    · rw [h20]
      exact br_f (by decide) (k20 hg h20)
    · have hl : nw (VC M) c < 20 := by omega
      refine br_t (nI_lt (b := 20) hl (by omega)) ?_
      unfold P_X0_addWell
      rw [rc_11 M hc8, em]
      refine br_f (nI_ge (b := 20) hl (by omega)) ⟨vp_in_nI hl (by omega), ?_⟩
      rw [nI_clamp (by omega)]
      refine wc_15 hc8 hl (fun M1 f1 v1 a1 => ?_)
      have e1 : VC M1 11 c 0 = nI (nw (VC M) c) := by rw [v1]; exact em
      rw [rc_11 M1 hc8, e1, nI_clamp (by omega)]
      refine ⟨vp_in_nI hl (by omega), wc_16 hc8 hl (fun M2 f2 v2 a2 => ?_)⟩
      have e2 : VC M2 11 c 0 = nI (nw (VC M) c) := by rw [v2]; exact e1
      rw [rc_11 M2 hc8, e2, nI_clamp (by omega)]
      refine ⟨vp_in_nI hl (by omega), wc_17 hc8 hl (fun M3 f3 v3 a3 => ?_)⟩
      have e3 : VC M3 11 c 0 = nI (nw (VC M) c) := by rw [v3]; exact e2
      rw [rc_11 M3 hc8, e3, nI_1]
      refine wc_11 hc8 (fun M4 f4 v4 a4 => ?_)
      have e4 : VC M4 11 c 0 = nI (nw (VC M) c + 1) := by rw [v4]; exact vu_eq
      dsimp only
      rw [rc_11 M4 hc8, e4, nI_m1]
      refine kg hg hl M4 (f1.tr (f2.tr (f3.tr f4))) ?_ ?_
      · rw [v4, v3, v2, v1]; rfl
      · rw [a4, a3, a2, a1]
  unfold P_X0_lastFloor
  rw [rc_11 M hc8, em]
  have e1000 : (1000 : Int32).toInt = 1000 := rfl
  by_cases hz : nw (VC M) c = 0
  · rw [hz]
    refine br_t (by decide) ?_
    by_cases g3 : f < 0 ∨ 1000 < f
    · exact wi0 g3 ⟨fun h => absurd rfl h, fun _ => kb (Or.inr (Or.inr (Or.inl g3)))⟩
    · refine wi1 (fun h => g3 (Or.inl h)) (fun h => g3 (Or.inr h)) ⟨fun _ => fin (fun hb => ?_), fun h => absurd h (by decide)⟩
      rcases hb with hb | hb | hb | hb
      · exact g1 hb
      · exact g2 hb
      · exact g3 hb
      · exact hb.1 hz
  · obtain ⟨m, hm1⟩ : ∃ m, nw (VC M) c = m + 1 := ⟨nw (VC M) c - 1, by omega⟩
    have hb17 := (h15 c m).2.2
    rw [hm1]
    refine br_f (nI_nle (by omega) (by omega)) ?_
    rw [nI_m1, nI_clamp (by omega), rc_17 M hc8 (by omega)]
    refine ⟨vp_in_nI (by omega) (by omega), ?_⟩
    by_cases g3 : f < VC M 17 c m ∨ 1000 < f
    · refine wi0 g3 ⟨fun h => absurd rfl h, fun _ => kb (Or.inr (Or.inr ?_))⟩
      rcases g3 with g3 | g3
      · exact Or.inr ⟨hz, by rw [hm1, Nat.add_sub_cancel]; exact g3⟩
      · exact Or.inl (Or.inr g3)
    · refine wi1 (fun h => g3 (Or.inl h)) (fun h => g3 (Or.inr h)) ⟨fun _ => fin (fun hb => ?_), fun h => absurd h (by decide)⟩
      rcases hb with hb | hb | (hb | hb) | hb
      · exact g1 hb
      · exact g2 hb
      · refine g3 (Or.inl ?_)
        rw [i32_lt, t0] at hb
        rw [i32_lt]
        unfold rg at hb17
        omega
      · exact g3 (Or.inr hb)
      · have := hb.2
        rw [hm1, Nat.add_sub_cancel] at this
        exact g3 (Or.inl this)
theorem r_well {M : Mem} {c : Nat} {x y f : Int32} {Q : Int32 → Mem → Prop} (h0 : I0 (VR M)) (h11 : I11 (VR M)) (hD : Dg M) (hc : c < nc (VR M)) (hd : ¬ 0 < VR M 12 c 0) (kb : bdW (VR M) c x y f → ∀ M1, Lo M M1 → VR M1 = VR M → AuR M1 = AuR M → M1 118 0 = 3 → Q 0 M1) (k20 : ¬ bdW (VR M) c x y f → nw (VR M) c = 20 → ∀ M1, Lo M M1 → VR M1 = VR M → AuR M1 = AuR M → M1 118 0 = 4 → Q 0 M1) (kg : ¬ bdW (VR M) c x y f → nw (VR M) c < 20 → ∀ M1, Lo M M1 → VR M1 = weU (VR M) c (nw (VR M) c) x y f → AuR M1 = AuR M → M1 118 0 = 0 → Q (nI (nw (VR M) c)) M1) : P_X7_well (nI c) x y f M Q := by
  have hk := (nc_eq h0).1
  obtain ⟨hm, em⟩ := nw_eq h11 c
  have hc8 : c < 8 := by omega
  intro J106 J102 J107 J120 J144 hJ106 hJ102 hJ107 hJ120 hJ144
  refine wr_thr (fun M1 f1 v1 a1 t1 => r_noCh1 (by rw [v1]; exact h0) (by rw [v1]; exact hc) (thr0 ⟨fun h => absurd rfl h, fun _ => ⟨vp_in_nI (by omega) (by omega), ?_⟩⟩))
  rw [nI_clamp (by omega), dg_n hD v1 a1 hc8 hd]
  refine thr0 (br_t rfl ⟨vp_in_nI hc8 (by omega), ?_⟩)
  rw [rr_11 M1 hc8, v1, em, ix20]
  have bad : bdW (VR M) c x y f → J106 (nI (20 * c + nw (VR M) c)) M1 := fun hb => by
    apply hJ106
    apply hJ107
    refine ⟨fun h => absurd rfl h, fun _ => ?_⟩
    apply hJ120
    exact thr1 (wr_thr (fun M2 f2 v2 a2 t2 => ⟨fun _ => kb hb M2 (f1.tr f2) (v2.trans v1) (a2.trans a1) t2, fun h => absurd h (by decide)⟩))
  have good : ¬ bdW (VR M) c x y f → J102 (nI (20 * c + nw (VR M) c)) M1 := fun hg => by
    apply hJ102
    apply hJ107
    refine ⟨fun _ => ?_, fun h => absurd h (by decide)⟩
    apply hJ120
    refine thr0 ⟨fun h => absurd rfl h, fun _ => ⟨vp_in_nI hc8 (by omega), ?_⟩⟩
    rw [nI_clamp (by omega), rr_11 M1 hc8, v1, em]
    by_cases h20 : nw (VR M) c = 20
    · refine ⟨fun h => absurd (by rw [h20]; rfl) h, fun _ => ?_⟩
      apply hJ144
      exact thr1 (wr_thr (fun M2 f2 v2 a2 t2 => br_f (by decide) (k20 hg h20 M2 (f1.tr f2) (v2.trans v1) (a2.trans a1) t2)))
    · have hl : nw (VR M) c < 20 := by omega
      refine ⟨fun _ => ?_, fun h => absurd ((nI_eq (b := 20) (by omega) (by omega)).mp h) h20⟩
      apply hJ144
      refine thr0 (br_t rfl ⟨vp_in_nI (by omega) (by omega), ?_⟩)
      rw [nI_clamp (by omega), nI_clamp (by omega)]
      refine wr_15 hc8 hl (fun M2 f2 v2 a2 t2 => ⟨vp_in_nI (by omega) (by omega), wr_16 hc8 hl (fun M3 f3 v3 a3 t3 => ⟨vp_in_nI (by omega) (by omega), wr_17 hc8 hl (fun M4 f4 v4 a4 t4 => ⟨vp_in_nI hc8 (by omega), vp_in_nI hc8 (by omega), ?_⟩)⟩)⟩)
      have e4 : VR M4 11 c 0 = nI (nw (VR M) c) := by rw [v4, v3, v2, v1]; exact em
      rw [rr_11 M4 hc8, e4, nI_1]
      refine wr_11 hc8 (fun M5 f5 v5 a5 t5 => ⟨vp_in_nI hc8 (by omega), ?_⟩)
      have e5 : VR M5 11 c 0 = nI (nw (VR M) c + 1) := by rw [v5]; exact vu_eq
      rw [rr_11 M5 hc8, e5, nI_m1]
      refine kg hg hl M5 (f1.tr (f2.tr (f3.tr (f4.tr f5)))) ?_ ?_ ?_
      · rw [v5, v4, v3, v2, v1]; rfl
      · rw [a5, a4, a3, a2, a1]
      · rw [t5, t4, t3, t2, t1]
  by_cases g1 : x < 0 ∨ 100 < x
  · exact in0 g1 (br_t rfl (bad (Or.inl g1)))
  refine in1 (fun h => g1 (Or.inl h)) (fun h => g1 (Or.inr h)) (br_f (by decide) ?_)
  by_cases g2 : y < 0 ∨ 100 < y
  · exact in0 g2 (br_t rfl (bad (Or.inr (Or.inl g2))))
  refine in1 (fun h => g2 (Or.inl h)) (fun h => g2 (Or.inr h)) (br_f (by decide) ?_)
  by_cases g3 : f < 0 ∨ 1000 < f
  · exact in0 g3 (br_t rfl (bad (Or.inr (Or.inr (Or.inl g3)))))
  refine in1 (fun h => g3 (Or.inl h)) (fun h => g3 (Or.inr h)) (br_f (by decide) ⟨vp_in_nI hc8 (by omega), ?_⟩)
  rw [rr_11 M1 hc8, v1, em]
  have ngood : ¬ (nw (VR M) c ≠ 0 ∧ f < VR M 17 c (nw (VR M) c - 1)) → ¬ bdW (VR M) c x y f := fun hg hb => by
    rcases hb with hb | hb | hb | hb
    · exact g1 hb
    · exact g2 hb
    · exact g3 hb
    · exact hg hb
  by_cases hz : nw (VR M) c = 0
  · exact br_t (by rw [hz]; rfl) (good (ngood (fun h => h.1 hz)))
  · obtain ⟨m, hm1⟩ : ∃ m, nw (VR M) c = m + 1 := ⟨nw (VR M) c - 1, by omega⟩
    have e3 : nI (20 * c + nw (VR M) c) - 1 = nI (20 * c + m) := by rw [hm1]; exact nI_m1 _
    refine br_f (nI_ne0 (by omega) (by omega)) ?_
    rw [e3, nI_clamp (by omega), rr_17 M1 hc8 (by omega), v1]
    refine ⟨vp_in_nI (by omega) (by omega), br_c (fun g4 => bad (Or.inr (Or.inr (Or.inr ⟨hz, by rw [hm1, Nat.add_sub_cancel]; exact g4⟩)))) (fun g4 => good (ngood (fun h => g4 ?_)))⟩
    have := h.2
    rw [hm1, Nat.add_sub_cancel] at this
    exact this
theorem T_well {q : Nat} {M : Mem} {p x y f : Int32} (h : Ok q M) (hq : q < 512) : P_X6_well p x y f M (fun r M1 => P_X7_well p x y f M1 (fun r' M2 => M2 118 0 = 0 ∧ r = r' ∧ Ok (q + 1) M2)) (fun E M1 => (E = "java/lang/IndexOutOfBoundsException" ∧ P_X7_well p x y f M1 (fun _ M2 => M2 118 0 = 1 ∧ Ok (q + 1) M2)) ∨ (E = "java/lang/IllegalStateException" ∧ P_X7_well p x y f M1 (fun _ M2 => M2 118 0 = 2 ∧ Ok (q + 1) M2)) ∨ (E = "java/lang/IllegalArgumentException" ∧ P_X7_well p x y f M1 (fun _ M2 => M2 118 0 = 3 ∧ Ok (q + 1) M2)) ∨ (E = "java/lang/UnsupportedOperationException" ∧ P_X7_well p x y f M1 (fun _ M2 => M2 118 0 = 4 ∧ Ok (q + 1) M2))) := by
  have hV := h.2.1.1
  obtain ⟨c0, c11, c15, c4, c14, c10, -⟩ := h.ic
  obtain ⟨h0, h11, h15, h4, h14, h10, -⟩ := h.2.2
  have hn := (nc_eq h0).1
  refine ix_cases p (n := nc (VR M)) (by omega) (fun g => ?_) (fun c hc e => ?_)
  · refine c_un0 c0 (by rw [hV]; exact g) (Or.inl ⟨rfl, ?_⟩)
    intro J106 J102 J107 J120 J144 hJ106 hJ102 hJ107 hJ120 hJ144
    exact wr_thr (fun M1 f1 v1 a1 t1 => r_noCh0 (by rw [v1]; exact h0) (by rw [v1]; exact g) (fl1 h hq f1 v1 a1 (fun M3 h3 => ⟨fun _ => h3, fun h => absurd h (by decide)⟩)))
  · subst e
    have hc8 : c < 8 := by omega
    by_cases hd : 0 < VR M 12 c 0
    · refine c_un1 c0 (by rw [hV]; exact hc) (by rw [hV]; exact hd) (Or.inr (Or.inl ⟨rfl, ?_⟩))
      intro J106 J102 J107 J120 J144 hJ106 hJ102 hJ107 hJ120 hJ144
      refine wr_thr (fun M1 f1 v1 a1 t1 => r_noCh1 (by rw [v1]; exact h0) (by rw [v1]; exact hc) (thr0 ⟨fun h => absurd rfl h, fun _ => ⟨vp_in_nI (by omega) (by omega), ?_⟩⟩))
      rw [nI_clamp (by omega), dg_y h.dg v1 a1 hc8 hd]
      exact fl1 h hq f1 v1 a1 (fun M3 h3 => br_f (by decide) h3)
    · refine c_well c0 c11 c15 (by rw [hV]; exact hc) (by rw [hV]; exact hd) (fun hb => Or.inr (Or.inr (Or.inl ⟨rfl, ?_⟩))) (fun hg h20 => Or.inr (Or.inr (Or.inr ⟨rfl, ?_⟩))) (fun hg hl M1 f1 v1 a1 => ?_)
      · rw [hV] at hb
        exact r_well h0 h11 h.dg hc hd (fun _ M2 f2 v2 a2 t2 => ⟨t2, h.same hq f2 v2 a2⟩) (fun hg => absurd hb hg) (fun hg => absurd hb hg)
      · rw [hV] at hg h20
        exact r_well h0 h11 h.dg hc hd (fun hb => absurd hb hg) (fun _ _ M2 f2 v2 a2 t2 => ⟨t2, h.same hq f2 v2 a2⟩) (fun _ hl => absurd hl (by omega))
      · rw [hV] at hg hl v1 ⊢
        have e1 : VR M1 = VR M := hi_VR f1
        have b1 : AuR M1 = AuR M := hi_AR f1
        refine r_well (by rw [e1]; exact h0) (by rw [e1]; exact h11) (h.dg.to e1 b1) (by rw [e1]; exact hc) (by rw [e1]; exact hd) (fun hb => absurd (by rw [e1] at hb; exact hb) hg) (fun _ h20 => by rw [e1] at h20; omega) (fun _ _ M2 f2 v2 a2 t2 => ⟨t2, by rw [e1], ?_⟩)
        rw [e1] at v2
        refine h.mk1 (V := weU (VR M) c (nw (VR M) c) x y f) hq ?_ ?_ ?_ ?_ (fun _ => rfl) (fun _ h => h) ?_
        · rw [lo_VC f2, v1]
        · exact v2
        · rw [lo_AC f2, a1]
        · rw [a2, b1]
        · obtain ⟨i0, i11, i15, i4, i14, i10, i12, i6, ish, isum, ifd, i8⟩ := h.2.2.next
          have e1000 : (1000 : Int32).toInt = 1000 := rfl
          have e100 : (100 : Int32).toInt = 100 := rfl
          have g1 : ¬ (x < 0 ∨ 100 < x) := fun hb => hg (Or.inl hb)
          have g2 : ¬ (y < 0 ∨ 100 < y) := fun hb => hg (Or.inr (Or.inl hb))
          have g3 : ¬ (f < 0 ∨ 1000 < f) := fun hb => hg (Or.inr (Or.inr (Or.inl hb)))
          rw [i32_lt, i32_lt, t0, e100] at g1 g2
          rw [i32_lt, i32_lt, t0, e1000] at g3
          refine ⟨i0, fun c' => ?_, fun c' w => ⟨?_, ?_, ?_⟩, i4, i14, i10, i12, i6, ish, isum, ifd, i8⟩
          · show ∃ n, n ≤ 20 ∧ (if 11 = 11 ∧ c' = c ∧ 0 = 0 then nI (nw (VR M) c + 1) else VR M 11 c' 0) = nI n
            split
            · exact ⟨nw (VR M) c + 1, by omega, rfl⟩
            · exact i11 c'
          · show rg (if 15 = 15 ∧ c' = c ∧ w = nw (VR M) c then x else VR M 15 c' w) 0 100
            split
            · unfold rg; omega
            · exact (i15 c' w).1
          · show rg (if 16 = 16 ∧ c' = c ∧ w = nw (VR M) c then y else VR M 16 c' w) 0 100
            split
            · unfold rg; omega
            · exact (i15 c' w).2.1
          · show rg (if 17 = 17 ∧ c' = c ∧ w = nw (VR M) c then f else VR M 17 c' w) 0 1000
            split
            · unfold rg; omega
            · exact (i15 c' w).2.2
