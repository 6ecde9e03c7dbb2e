/-! ===== what a channel brings: both sides count one number of the view ===== -/
def rnV (V : Vw) (c : Nat) : Nat → Nat
  | 0 => 0
  | n + 1 => if rnV V c n < n then rnV V c n else if V 18 c n = 0 then n + 1 else n
theorem rnV_le (V : Vw) (c : Nat) : ∀ n, rnV V c n ≤ n := by
  intro n
  induction n with
  | zero => exact Nat.le_refl _
  | succ n ih => simp only [rnV]; split; omega; split <;> omega
theorem rnV_up (V : Vw) (c : Nat) : ∀ n w, w < rnV V c n → V 18 c w = 0 := by
  intro n
  induction n with
  | zero => intro w h; simp only [rnV] at h; omega
  | succ n ih =>
    intro w h
    simp only [rnV] at h
    split at h
    · exact ih w h
    · split at h
      · rename_i h1 h2
        by_cases e : w = n
        · rw [e]; exact h2
        · have := rnV_le V c n
          exact ih w (by omega)
      · have := rnV_le V c n
        exact ih w (by omega)
theorem rnV_at (V : Vw) (c : Nat) : ∀ n, rnV V c n < n → ¬ V 18 c (rnV V c n) = 0 := by
  intro n
  induction n with
  | zero => intro h; omega
  | succ n ih =>
    intro h
    simp only [rnV] at h ⊢
    split at h
    · rename_i h1
      rw [if_pos h1]
      exact ih h1
    · rename_i h1
      rw [if_neg h1]
      split at h
      · omega
      · rename_i h2
        rw [if_neg h2]
        exact h2
def rV (V : Vw) (c : Nat) : Nat := rnV V c (V 11 c 0).toNatClampNeg
def I11 (V : Vw) : Prop := ∀ c, ∃ n, n ≤ 20 ∧ V 11 c 0 = nI n
theorem rV_eq {V : Vw} {c n : Nat} (hn : n ≤ 20) (e : V 11 c 0 = nI n) : rV V c = rnV V c n := by unfold rV; rw [e, nI_clamp (by omega)]
theorem rV_le {V : Vw} {c n : Nat} (hn : n ≤ 20) (e : V 11 c 0 = nI n) : rV V c ≤ n := by rw [rV_eq hn e]; exact rnV_le _ _ _
theorem c_runs {M : Mem} {c : Nat} {Q : Int32 → Mem → Prop} (hI : I11 (VC M)) (hc : c < 8) (h : Q (nI (rV (VC M) c)) M) : P_X0_runningWells c M Q := by
  obtain ⟨n, hn, e⟩ := hI c
  rw [rV_eq hn e] at h
  intro J hJ
  have hle := rnV_le (VC M) c n
  have last : J (nI (rnV (VC M) c n)) M := by
    apply hJ
    rw [rc_11 M hc, e]
    by_cases hr : rnV (VC M) c n < n
    · refine br_f (nI_ge hr (by omega)) ⟨vp_in_nI (by omega) (by omega), br_f ?_ h⟩
      rw [nI_clamp (by omega), rc_18 M hc (by omega)]
      exact rnV_at _ _ _ hr
    · have hr' : rnV (VC M) c n = n := by omega
      rw [hr'] at h ⊢
      exact br_t (nI_le (Nat.le_refl _) (by omega)) h
  have := dn (P := fun i => J (nI i) M) (rnV (VC M) c n) (fun i hi hs => by
    apply hJ
    rw [rc_11 M hc, e]
    refine br_f (nI_ge (by omega) (by omega)) ⟨vp_in_nI (by omega) (by omega), br_t ?_ ?_⟩
    · rw [nI_clamp (by omega), rc_18 M hc (by omega)]
      exact rnV_up _ _ _ _ hi
    · rw [nI_1]; exact hs) last
  exact this
theorem r_runs {M : Mem} {c : Nat} {Q : Int32 → Mem → Prop} (hI : I11 (VR M)) (hc : c < 8) (h : Q (nI (rV (VR M) c)) M) : P_X7_runs (nI c) M Q := by
  obtain ⟨n, hn, e⟩ := hI c
  rw [rV_eq hn e] at h
  intro J hJ
  have hle := rnV_le (VR M) c n
  have last : J (nI (rnV (VR M) c n)) M := by
    apply hJ
    rw [nI_clamp (by omega), rr_11 M hc, e, ix20, nI_clamp (by omega)]
    refine ⟨vp_in_nI hc (by omega), ?_⟩
    by_cases hr : rnV (VR M) c n < n
    · refine br_f (nI_ge hr (by omega)) ⟨vp_in_nI (by omega) (by omega), ?_⟩
      rw [rr_18 M hc (by omega)]
      exact ⟨fun _ => h, fun h0 => absurd h0 (rnV_at _ _ _ hr)⟩
    · have hr' : rnV (VR M) c n = n := by omega
      rw [hr'] at h ⊢
      exact br_t (nI_le (Nat.le_refl _) (by omega)) h
  have := dn (P := fun i => J (nI i) M) (rnV (VR M) c n) (fun i hi hs => by
    apply hJ
    rw [nI_clamp (by omega), rr_11 M hc, e, ix20, nI_clamp (by omega), rr_18 M hc (by omega), nI_1]
    refine ⟨vp_in_nI hc (by omega), br_f (nI_ge (by omega) (by omega)) ⟨vp_in_nI (by omega) (by omega), ?_⟩⟩
    exact ⟨fun h0 => absurd (rnV_up _ _ _ _ hi) h0, fun _ => hs⟩) last
  exact this
def stV (a b c d : Int32) : Int32 := if (if 0 ≤ (a - c) then (a - c) else 0 - (a - c)) < (if 0 ≤ (b - d) then (b - d) else 0 - (b - d)) then (if 0 ≤ (b - d) then (b - d) else 0 - (b - d)) else (if 0 ≤ (a - c) then (a - c) else 0 - (a - c))
def mxV (a b : Int32) : Int32 := if a < b then b else a
def drA (V : Vw) (c : Nat) (x y : Int32) : Nat → Int32
  | 0 => 0
  | w + 1 => mxV (drA V c x y w) (30 - stV x y (V 15 c w) (V 16 c w))
def drV (V : Vw) (c : Nat) (x y : Int32) : Int32 := if 5 ≤ V 4 0 0 - V 13 c 0 then drA V c x y (rV V c) else drA V c x y (rV V c) * (V 4 0 0 - V 13 c 0) / 5
theorem c_draw {M : Mem} {c : Nat} {x y : Int32} {Q : Int32 → Mem → Prop} (hI : I11 (VC M)) (hc : c < 8) (h : Q (drV (VC M) c x y) M) : P_X6_drawAt c x y M Q := by
  intro J hJ
  refine c_runs hI hc ?_
  obtain ⟨n, hn, e⟩ := hI c
  have hle := rV_le hn e
  have last : J (nI (rV (VC M) c)) (drA (VC M) c x y (rV (VC M) c)) (nI (rV (VC M) c)) M := by
    apply hJ
    refine br_t (nI_le (Nat.le_refl _) (by omega)) ?_
    rw [rc_4 M, rc_13 M hc]
    unfold drV at h
    exact br_c (fun h5 => by rw [if_pos h5] at h; exact h) (fun h5 => by rw [if_neg h5] at h; exact h)
  have := dn (P := fun i => J (nI (rV (VC M) c)) (drA (VC M) c x y i) (nI i) M) (rV (VC M) c) (fun i hi hs => by
    apply hJ
    refine br_f (nI_ge hi (by omega)) ⟨vp_in_nI (by omega) (by omega), vp_in_nI (by omega) (by omega), ?_⟩
    rw [nI_clamp (by omega), rc_15 M hc (by omega), rc_16 M hc (by omega), nI_1]
    exact hs) last
  exact this
theorem r_draw {M : Mem} {c : Nat} {x y : Int32} {Q : Int32 → Mem → Prop} (hI : I11 (VR M)) (hc : c < 8) (h : Q (drV (VR M) c x y) M) : P_X7_draw (nI c) x y M Q := by
  intro J hJ
  obtain ⟨n, hn, e⟩ := hI c
  have hle := rV_le hn e
  have last : J (drA (VR M) c x y (rV (VR M) c)) (nI (20 * c + rV (VR M) c)) M := by
    apply hJ
    refine r_runs hI hc ?_
    rw [ix20]
    refine br_t (nI_le (Nat.le_refl _) (by omega)) ⟨vp_in_nI hc (by omega), ?_⟩
    rw [nI_clamp (by omega), rr_4 M, rr_13 M hc]
    unfold drV at h
    exact br_c (fun h5 => by rw [if_pos h5] at h; exact h) (fun h5 => by rw [if_neg h5] at h; exact h)
  have := dn (P := fun i => J (drA (VR M) c x y i) (nI (20 * c + i)) M) (rV (VR M) c) (fun i hi hs => by
    apply hJ
    refine r_runs hI hc ?_
    rw [ix20]
    refine br_f (nI_ge (by omega) (by omega)) ⟨vp_in_nI (by omega) (by omega), vp_in_nI (by omega) (by omega), ?_⟩
    rw [nI_clamp (by omega), rr_15 M hc (by omega), rr_16 M hc (by omega), nI_1]
    exact hs) last
  rw [ix20a]
  exact this
def I0 (V : Vw) : Prop := ∃ n, n ≤ 8 ∧ V 0 0 0 = nI n
def tbA (V : Vw) (c : Nat) (x y u t0 : Int32) : Nat → Int32
  | 0 => t0
  | k + 1 => if k = c ∨ ¬ 0 < V 12 k 0 ∨ u < V 14 k 0 then tbA V c x y u t0 k else tbA V c x y u t0 k - drV V k x y
def tbV (V : Vw) (c w : Nat) (u : Int32) : Int32 := tbA V c (V 15 c w) (V 16 c w) u (V 2 0 0 + V 3 0 0 * V 15 c w) (V 0 0 0).toNatClampNeg
def seV (V : Vw) (c w : Nat) (u : Int32) : Int32 := if V 17 c w < tbV V c w u then (if (tbV V c w u - V 17 c w) / 10 < 50 then (tbV V c w u - V 17 c w) / 10 else 50) else 0
def seC (V : Vw) (c w : Nat) (u : Int32) : Int32 := if 0 < (if (tbV V c w u - V 17 c w) / 10 < 50 then (tbV V c w u - V 17 c w) / 10 else 50) then (if (tbV V c w u - V 17 c w) / 10 < 50 then (tbV V c w u - V 17 c w) / 10 else 50) else 0
theorem c_isDug {M : Mem} {c : Nat} {Q : Int32 → Mem → Prop} (hc : c < 8) (h : Q (if 0 < VC M 12 c 0 then 1 else 0) M) : P_X0_isDug c M Q := by
  unfold P_X0_isDug
  rw [rc_12 M hc]
  refine br_c (fun h1 => ?_) (fun h1 => ?_)
  · rw [if_neg (by rw [i32_lt]; rw [i32_le] at h1; omega)] at h; exact h
  · rw [if_pos (by rw [i32_lt]; rw [i32_le] at h1; omega)] at h; exact h
theorem c_seep {M : Mem} {c w : Nat} {u : Int32} {Q : Int32 → Mem → Prop} (hI : I11 (VC M)) (h0 : I0 (VC M)) (hc : c < 8) (hw : w < 20) (h : Q (seC (VC M) c w u) M) : P_X6_seepAt c (nI w) u M Q := by
  intro J J2 hJ hJ2
  obtain ⟨n, hn, e⟩ := h0
  refine ⟨vp_in_nI hw (by omega), ?_⟩
  rw [nI_clamp (by omega), rc_2 M, rc_3 M, rc_15 M hc hw]
  have last : J (tbV (VC M) c w u) (nI n) M := by
    apply hJ
    rw [rc_0 M, e]
    refine br_t (nI_le (Nat.le_refl _) (by omega)) ⟨vp_in_nI hw (by omega), ?_⟩
    rw [nI_clamp (by omega), rc_17 M hc hw]
    exact h
  have hv : tbV (VC M) c w u = tbA (VC M) c (VC M 15 c w) (VC M 16 c w) u (VC M 2 0 0 + VC M 3 0 0 * VC M 15 c w) n := by unfold tbV; rw [e, nI_clamp (by omega)]
  rw [hv] at last
  have := dn (P := fun i => J (tbA (VC M) c (VC M 15 c w) (VC M 16 c w) u (VC M 2 0 0 + VC M 3 0 0 * VC M 15 c w) i) (nI i) M) n (fun i hi hs => by
    simp only [tbA] at hs
    apply hJ
    rw [rc_0 M, e]
    refine br_f (nI_ge hi (by omega)) ⟨vp_in_nI (by omega) (by omega), ?_⟩
    rw [nI_clamp (by omega)]
    refine br_c (fun h1 => ?_) (fun h1 => ?_)
    · apply hJ2
      rw [nI_1]
      rw [if_pos (Or.inl h1)] at hs
      exact hs
    · refine c_isDug (by omega) ?_
      by_cases hd : 0 < VC M 12 i 0
      · rw [if_pos hd]
        refine ⟨fun h => absurd h (by decide), fun _ => ?_⟩
        rw [rc_14 M (by omega)]
        refine br_c (fun h2 => ?_) (fun h2 => ?_)
        · apply hJ2
          rw [nI_1]
          rw [if_pos (Or.inr (Or.inr h2))] at hs
          exact hs
        · refine ⟨vp_in_nI hw (by omega), vp_in_nI hw (by omega), ?_⟩
          rw [nI_clamp (by omega), rc_15 M hc hw, rc_16 M hc hw]
          refine c_draw hI (by omega) ?_
          apply hJ2
          rw [nI_1]
          rw [if_neg (by intro hh; rcases hh with hh | hh | hh; exact h1 hh; exact hh hd; exact h2 hh)] at hs
          exact hs
      · rw [if_neg hd]
        refine ⟨fun _ => ?_, fun h => absurd rfl h⟩
        apply hJ2
        rw [nI_1]
        rw [if_pos (Or.inr (Or.inl hd))] at hs
        exact hs) last
  exact this
/-- the reference's isDug is the class's turn -/
def Dg (M : Mem) : Prop := ∀ c, c < 8 → AuR M 2 c = if 0 < VR M 12 c 0 then 1 else 0
theorem Dg.nz {M : Mem} (h : Dg M) {c : Nat} (hc : c < 8) : M 120 c = 0 ↔ ¬ 0 < VR M 12 c 0 := by
  rw [rar_d M hc, h c hc]
  by_cases hd : 0 < VR M 12 c 0
  · rw [if_pos hd]; exact ⟨fun e => absurd e (by decide), fun e => absurd hd e⟩
  · rw [if_neg hd]; exact ⟨fun _ => hd, fun _ => rfl⟩
theorem r_seep {M : Mem} {c w : Nat} {u : Int32} {Q : Int32 → Mem → Prop} (hI : I11 (VR M)) (h0 : I0 (VR M)) (hD : Dg M) (hc : c < 8) (hw : w < 20) (h : Q (seV (VR M) c w u) M) : P_X7_seeps (nI c) (nI w) u M Q := by
  intro J J2 hJ hJ2
  obtain ⟨n, hn, e⟩ := h0
  rw [ix20, nI_clamp (by omega), rr_2 M, rr_3 M, rr_15 M hc hw]
  refine ⟨vp_in_nI (by omega) (by omega), ?_⟩
  have last : J (nI (20 * c + w)) (tbV (VR M) c w u) (nI n) M := by
    apply hJ
    rw [rr_0 M, e, nI_clamp (by omega), rr_17 M hc hw]
    refine br_t (nI_le (Nat.le_refl _) (by omega)) ⟨vp_in_nI (by omega) (by omega), ?_⟩
    unfold seV at h
    refine br_c (fun h1 => ⟨vp_in_nI (by omega) (by omega), ?_⟩) (fun h1 => ?_)
    · rw [if_pos h1] at h; exact h
    · rw [if_neg h1] at h; exact h
  have hv : tbV (VR M) c w u = tbA (VR M) c (VR M 15 c w) (VR M 16 c w) u (VR M 2 0 0 + VR M 3 0 0 * VR M 15 c w) n := by unfold tbV; rw [e, nI_clamp (by omega)]
  rw [hv] at last
  have := dn (P := fun i => J (nI (20 * c + w)) (tbA (VR M) c (VR M 15 c w) (VR M 16 c w) u (VR M 2 0 0 + VR M 3 0 0 * VR M 15 c w) i) (nI i) M) n (fun i hi hs => by
    simp only [tbA] at hs
    apply hJ
    rw [rr_0 M, e]
    refine br_f (nI_ge hi (by omega)) ?_
    rw [nI_clamp (by omega), nI_clamp (by omega)]
    refine br_c (fun h1 => ?_) (fun h1 => ?_)
    · apply hJ2
      rw [nI_1]
      rw [if_pos (Or.inl ((nI_eq (by omega) (by omega)).mp h1))] at hs
      exact hs
    · refine ⟨vp_in_nI (by omega) (by omega), ?_⟩
      refine br_c (fun h2 => ?_) (fun h2 => ⟨vp_in_nI (by omega) (by omega), ?_⟩)
      · apply hJ2
        rw [nI_1]
        rw [if_pos (Or.inr (Or.inl ((hD.nz (by omega)).mp h2)))] at hs
        exact hs
      · rw [rr_14 M (by omega)]
        refine br_c (fun h3 => ?_) (fun h3 => ⟨vp_in_nI (by omega) (by omega), vp_in_nI (by omega) (by omega), ?_⟩)
        · apply hJ2
          rw [nI_1]
          rw [if_pos (Or.inr (Or.inr h3))] at hs
          exact hs
        · rw [rr_15 M hc hw, rr_16 M hc hw]
          refine r_draw hI (by omega) ?_
          apply hJ2
          rw [nI_1]
          rw [if_neg (by intro hh; rcases hh with hh | hh | hh; exact h1 ((nI_eq (by omega) (by omega)).mpr hh); exact h2 ((hD.nz (by omega)).mpr hh); exact h3 hh)] at hs
          exact hs) last
  exact this
def lkV (V : Vw) (c w : Nat) : Prop := ¬ w = 0 ∧ (V 17 c w - V 17 c (w - 1) = 0 ∨ ¬ V 17 c w - V 17 c (w - 1) ≤ 20)
noncomputable def flA (V : Vw) (c : Nat) (u : Int32) (r : Nat) : Nat → Int32
  | 0 => 0
  | k + 1 => @ite _ (lkV V c (r - (k + 1))) (Classical.propDecidable _) (flA V c u r k + seV V c (r - (k + 1)) u - (flA V c u r k + seV V c (r - (k + 1)) u + 99) / 100) (flA V c u r k + seV V c (r - (k + 1)) u)
noncomputable def flV (V : Vw) (c : Nat) (u : Int32) : Int32 := flA V c u (rV V c) (rV V c)
theorem flA_y {V : Vw} {c : Nat} {u : Int32} {r k : Nat} (h : lkV V c (r - (k + 1))) : flA V c u r (k + 1) = flA V c u r k + seV V c (r - (k + 1)) u - (flA V c u r k + seV V c (r - (k + 1)) u + 99) / 100 := by
  simp only [flA]
  exact if_pos h
theorem flA_n {V : Vw} {c : Nat} {u : Int32} {r k : Nat} (h : ¬ lkV V c (r - (k + 1))) : flA V c u r (k + 1) = flA V c u r k + seV V c (r - (k + 1)) u := by
  simp only [flA]
  exact if_neg h
theorem c_leaks {M : Mem} {c w : Nat} {Q : Int32 → Mem → Prop} (hI : I11 (VC M)) (hc : c < 8) (hw : w < rV (VC M) c) (hy : lkV (VC M) c w → Q 1 M) (hn : ¬ lkV (VC M) c w → Q 0 M) : P_X0_leaksBelow c (nI w) M Q := by
  obtain ⟨n, hn20, e⟩ := hI c
  have hle := rV_le hn20 e
  unfold P_X0_leaksBelow
  rw [rc_11 M hc, e]
  by_cases h0 : w = 0
  · subst h0
    exact br_t (by decide) (hn (fun h => h.1 rfl))
  · refine br_f (by rw [show (1 : Int32) = nI 1 from rfl]; exact nI_nlt (by omega) (by omega)) (br_t (nI_lt (by omega) (by omega)) ?_)
    obtain ⟨v, rfl⟩ : ∃ v, w = v + 1 := ⟨w - 1, by omega⟩
    rw [nI_m1, nI_clamp (by omega), nI_clamp (by omega), rc_17 M hc (by omega), rc_17 M hc (by omega)]
    refine ⟨vp_in_nI (by omega) (by omega), vp_in_nI (by omega) (by omega), ?_⟩
    refine br_c (fun h1 => hy ⟨h0, Or.inl h1⟩) (fun h1 => br_c (fun h2 => hn (fun hl => ?_)) (fun h2 => hy ⟨h0, Or.inr h2⟩))
    rcases hl.2 with hh | hh
    · exact h1 hh
    · exact hh h2
theorem add99 (a : Int32) : a + 100 - 1 = a + 99 := by
  rw [Int32.sub_eq_add_neg, Int32.add_assoc]
  rfl
/-- on the class's side: with what makes its seep the reference's -/
theorem c_flow {M : Mem} {c : Nat} {u : Int32} {Q : Int32 → Mem → Prop} (hI : I11 (VC M)) (h0 : I0 (VC M)) (hse : ∀ w, w < 20 → seC (VC M) c w u = seV (VC M) c w u) (hc : c < 8) (h : Q (flV (VC M) c u) M) : P_X6_flowOf c u M Q := by
  intro J J2 hJ hJ2
  refine c_runs hI hc ?_
  obtain ⟨n, hn, e⟩ := hI c
  have hle := rV_le hn e
  unfold flV at h
  generalize hr : rV (VC M) c = r at *
  have last : J (flA (VC M) c u r r) (nI (r - r) - 1) M := by
    apply hJ
    exact br_t (nI_ltz (by omega)) h
  have := dn (P := fun i => J (flA (VC M) c u r i) (nI (r - i) - 1) M) r (fun i hi hs => by
    apply hJ
    obtain ⟨m, hm⟩ : ∃ m, r - i = m + 1 := ⟨r - i - 1, by omega⟩
    have hm' : r - (i + 1) = m := by omega
    rw [hm, nI_m1]
    refine br_f (nI_pos (by omega)) ?_
    refine c_seep hI h0 hc (by omega) ?_
    rw [hse m (by omega)]
    refine c_leaks hI hc (by rw [hr]; omega) (fun hl => ?_) (fun hl => ?_)
    · refine br_f (by decide) ?_
      apply hJ2
      rw [flA_y (by rw [hm']; exact hl), hm'] at hs
      rw [add99, show nI m + (-1 : Int32) = nI m - 1 from (Int32.sub_eq_add_neg _ _).symm]
      exact hs
    · refine br_t rfl ?_
      apply hJ2
      rw [flA_n (by rw [hm']; exact hl), hm'] at hs
      rw [show nI m + (-1 : Int32) = nI m - 1 from (Int32.sub_eq_add_neg _ _).symm]
      exact hs) last
  exact this
theorem r_flow {M : Mem} {c : Nat} {u : Int32} {Q : Int32 → Mem → Prop} (hI : I11 (VR M)) (h0 : I0 (VR M)) (hD : Dg M) (hc : c < 8) (h : Q (flV (VR M) c u) M) : P_X7_flows (nI c) u M Q := by
  intro J J2 J3 hJ hJ2 hJ3
  refine r_runs hI hc ?_
  obtain ⟨n, hn, e⟩ := hI c
  have hle := rV_le hn e
  unfold flV at h
  generalize hr : rV (VR M) c = r at *
  have last : J (flA (VR M) c u r r) (nI (r - r) - 1) M := by
    apply hJ
    exact br_t (nI_ltz (by omega)) h
  have := dn (P := fun i => J (flA (VR M) c u r i) (nI (r - i) - 1) M) r (fun i hi hs => by
    apply hJ
    obtain ⟨m, hm⟩ : ∃ m, r - i = m + 1 := ⟨r - i - 1, by omega⟩
    have hm' : r - (i + 1) = m := by omega
    rw [hm, nI_m1]
    refine br_f (nI_pos (by omega)) ?_
    refine r_seep hI h0 hD hc (by omega) ?_
    refine ⟨fun h1 => ?_, fun h1 => ?_⟩
    · have hm0 : m ≠ 0 := fun h2 => h1 (by rw [h2]; rfl)
      obtain ⟨v, rfl⟩ : ∃ v, m = v + 1 := ⟨m - 1, by omega⟩
      have e3 : nI (20 * c + (v + 1)) - 1 = nI (20 * c + v) := nI_m1 _
      rw [ix20, e3, nI_clamp (by omega), nI_clamp (by omega), rr_17 M hc (by omega), rr_17 M hc (by omega)]
      refine ⟨vp_in_nI (by omega) (by omega), vp_in_nI (by omega) (by omega), ?_⟩
      have hy : lkV (VR M) c (v + 1) → J2 (flA (VR M) c u r i + seV (VR M) c (v + 1) u) (nI (v + 1)) M := fun hl => by
        apply hJ2
        apply hJ3
        rw [flA_y (by rw [hm']; exact hl), hm'] at hs
        rw [show nI (v + 1) + (-1 : Int32) = nI (v + 1) - 1 from (Int32.sub_eq_add_neg _ _).symm]
        exact hs
      refine br_c (fun h2 => hy ⟨by omega, Or.inl h2⟩) (fun h2 => br_c (fun h3 => ?_) (fun h3 => hy ⟨by omega, Or.inr h3⟩))
      apply hJ3
      rw [flA_n (by rw [hm']; intro hl; rcases hl.2 with hh | hh; exact h2 hh; exact hh h3), hm'] at hs
      rw [show nI (v + 1) + (-1 : Int32) = nI (v + 1) - 1 from (Int32.sub_eq_add_neg _ _).symm]
      exact hs
    · have hm0 : m = 0 := by
        by_cases hz : m = 0
        · exact hz
        · exact absurd h1 (nI_ne0 (by omega) (by omega))
      apply hJ3
      rw [flA_n (by rw [hm']; intro hl; exact hl.1 hm0), hm'] at hs
      rw [show nI m + (-1 : Int32) = nI m - 1 from (Int32.sub_eq_add_neg _ _).symm]
      exact hs) last
  exact this
