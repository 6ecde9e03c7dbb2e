/-! ===== the law's 25 cases ===== -/
section CASES
variable {G : Gx} {ad : Nat → Nat} {lf : Nat → Int64} {L q cn sn : Nat} {xs : Nat → Int32} {M : Mem}
theorem cel_141 : cel ad (gc G) lf M 141 = .inl (gc G 5, 1, .inr (.inl lf)) := rfl
theorem cel_oth : ∀ k, k < 141 → (fl k).isSome = true ∨ (ar k).isSome = true ∨ k = 6 ∨ k = 47 := by decide +kernel
theorem cel_lf {lf' : Nat → Int64} {k : Nat} (hk : k < 141) : cel ad (gc G) lf' M k = cel ad (gc G) lf M k := by
  have h := cel_oth k hk
  unfold cel
  cases hf : fl k with
  | some x => rfl
  | none =>
    cases ha : ar k with
    | some x => rfl
    | none =>
      rw [hf, ha] at h
      rcases h with h | h | h | h
      · exact absurd h (by decide)
      · exact absurd h (by decide)
      · subst h; rfl
      · subst h; rfl
theorem i_Ls {x : Int64} {T : va_W → Prop} (h : T (wM ad (gc G) (vp_updL lf 0 x) M)) : qLs (gc G 5) (ad 141) (0 : Int32) x (wM ad (gc G) lf M) T := by
  refine ⟨141, 1, lf, by rw [wM_at (by decide), cel_141], vp_in_nI (n := 0) (by omega) (by omega), ?_⟩
  have e : (wM ad (gc G) lf M).set 141 (ad 141, .inl (gc G 5, 1, .inr (.inl (vp_updL lf 0 x)))) = wM ad (gc G) (vp_updL lf 0 x) M := by
    apply List.ext_getElem?
    intro k
    rw [List.getElem?_set]
    by_cases e1 : 141 = k
    · subst e1
      rw [if_pos rfl, wM_at (by decide), if_pos (by simp [wM]), cel_141]
    · rw [if_neg e1]
      by_cases hk : k < 142
      · rw [wM_at hk, wM_at hk, cel_lf (by omega)]
      · rw [List.getElem?_eq_none (by simp [wM]; omega), List.getElem?_eq_none (by simp [wM]; omega)]
  show T ((wM ad (gc G) lf M).set 141 (ad 141, .inl (gc G 5, 1, .inr (.inl (vp_updL lf 0 x)))))
  rw [e]
  exact h
theorem i_La {T : Int64 → Prop} (h : T (lf 0)) : qLa (gc G 5) (ad 141) (0 : Int32) (wM ad (gc G) lf M) T :=
  ⟨141, 1, lf, by rw [wM_at (by decide), cel_141], vp_in_nI (n := 0) (by omega) (by omega), h⟩
theorem x_in (j : Nat) (hj : j < 11) (hL : 11 * q + 11 ≤ L) (hL2 : L ≤ 5632) : vp_in (nI (11 * q) + nI j) L := by
  rw [nI_add]
  exact vp_in_nI (by omega) (by omega)
theorem th_k (hA : Inj ad) {QF : Int32 → va_W → Prop} (h : QF (M 118 0) (wM ad (gc G) lf M)) : qV 7 (ad 118) (wM ad (gc G) lf M) ∧ F_X7_thrown G (ad 118) (wM ad (gc G) lf M) QF :=
  ⟨i_V fl_X7, p_X7_thrown hA (Q := fun r M' => r = M 118 0 ∧ M' = M) ⟨rfl, rfl⟩ (fun r M' h' => by obtain ⟨rfl, rfl⟩ := h'; exact h)⟩

theorem k_0 (hA : Inj ad) (hO : Ok q M) (hq : q < 512) (hL : 11 * q + 11 ≤ L) (hL2 : L ≤ 5632) : L_0 G L xs (ad 0) (ad 118) (ad 141) (nI (11 * q)) cn sn (wM ad (gc G) lf M) (Nx G ad (Ok (q + 1)) cn sn) := by
  exact ⟨x_in 1 (by omega) hL hL2, x_in 2 (by omega) hL hL2, x_in 3 (by omega) hL hL2, x_in 4 (by omega) hL hL2, x_in 5 (by omega) hL hL2, i_V fl_X6, p_X6_feed hA (T_feed hO hq) (fun r M1 h1 => ⟨x_in 1 (by omega) hL hL2, x_in 2 (by omega) hL hL2, x_in 3 (by omega) hL hL2, x_in 4 (by omega) hL hL2, x_in 5 (by omega) hL hL2, i_V fl_X7, p_X7_feed hA h1 (fun r2 M2 h2 => ⟨fun _ => ⟨M2, _, h2.2, by omega, by omega, rfl⟩, fun h => h h2.1⟩)⟩)⟩
theorem k_1 (hA : Inj ad) (hO : Ok q M) (hq : q < 512) (hL : 11 * q + 11 ≤ L) (hL2 : L ≤ 5632) : L_1 G L xs (ad 0) (ad 118) (ad 141) (nI (11 * q)) cn sn (wM ad (gc G) lf M) (Nx G ad (Ok (q + 1)) cn sn) := by
  exact ⟨x_in 1 (by omega) hL hL2, i_V fl_X6, p_X6_end hA (T_end hO hq) (fun r M1 h1 => ⟨x_in 1 (by omega) hL hL2, i_V fl_X7, p_X7_end hA h1 (fun r2 M2 h2 => ⟨fun _ => ⟨M2, _, h2.2, by omega, by omega, rfl⟩, fun h => h h2.1⟩)⟩)⟩
theorem k_2 (hA : Inj ad) (hO : Ok q M) (hq : q < 512) (hL : 11 * q + 11 ≤ L) (hL2 : L ≤ 5632) : L_2 G L xs (ad 0) (ad 118) (ad 141) (nI (11 * q)) cn sn (wM ad (gc G) lf M) (Nx G ad (Ok (q + 1)) cn sn) := by
  refine ⟨x_in 1 (by omega) hL hL2, x_in 2 (by omega) hL hL2, i_V fl_X6, p_X6_ground hA (T_ground hO hq) (fun M1 h1 => ?_) (fun E M1 h1 => ?_)⟩
  · exact ⟨x_in 1 (by omega) hL hL2, x_in 2 (by omega) hL hL2, i_V fl_X7, p_X7_ground hA h1 (fun M2 h2 => th_k hA ⟨fun _ => ⟨M2, _, h2.2, by omega, by omega, rfl⟩, fun h => absurd h2.1 h⟩)⟩
  · refine ⟨h1.1, x_in 1 (by omega) hL hL2, x_in 2 (by omega) hL hL2, i_V fl_X7, p_X7_ground hA h1.2 (fun M2 h2 => th_k hA ⟨fun _ => ⟨M2, _, h2.2, by omega, by omega, rfl⟩, fun h => absurd h2.1 h⟩)⟩
theorem k_3 (hA : Inj ad) (hO : Ok q M) (hq : q < 512) (hL : 11 * q + 11 ≤ L) (hL2 : L ≤ 5632) : L_3 G L xs (ad 0) (ad 118) (ad 141) (nI (11 * q)) cn sn (wM ad (gc G) lf M) (Nx G ad (Ok (q + 1)) cn sn) := by
  intro J hJ
  refine ⟨i_V fl_X6, p_X6_channel hA (T_channel hO hq) (fun r M1 h1 => i_Ls ?_) (fun E M1 h1 => ?_)⟩
  · refine ⟨i_V fl_X7, p_X7_channel hA h1 (fun r2 M2 h2 => th_k hA ⟨fun _ => ⟨fun h => absurd rfl h, fun _ => i_La ?_⟩, fun h => absurd h2.1 h⟩)⟩
    rw [pk_uLs, h2.2.1]
    exact ⟨fun _ => hJ _ _ _ ⟨M2, _, h2.2.2, by omega, by omega, rfl⟩, fun h => h ((lg_cmp_eq _ _).mpr rfl)⟩
  · refine ⟨h1.1, i_V fl_X7, p_X7_channel hA h1.2 (fun r2 M2 h2 => th_k hA ⟨fun _ => ⟨fun _ => hJ _ _ _ ⟨M2, _, h2.2, by omega, by omega, rfl⟩, fun h => absurd h (by decide)⟩, fun h => absurd h2.1 h⟩)⟩
theorem k_4 (hA : Inj ad) (hO : Ok q M) (hq : q < 512) (hL : 11 * q + 11 ≤ L) (hL2 : L ≤ 5632) : L_4 G L xs (ad 0) (ad 118) (ad 141) (nI (11 * q)) cn sn (wM ad (gc G) lf M) (Nx G ad (Ok (q + 1)) cn sn) := by
  intro J hJ
  refine ⟨x_in 1 (by omega) hL hL2, x_in 2 (by omega) hL hL2, x_in 3 (by omega) hL hL2, x_in 4 (by omega) hL hL2, i_V fl_X6, p_X6_well hA (T_well hO hq) (fun r M1 h1 => i_Ls ?_) (fun E M1 h1 => ?_)⟩
  · refine ⟨x_in 1 (by omega) hL hL2, x_in 2 (by omega) hL hL2, x_in 3 (by omega) hL hL2, x_in 4 (by omega) hL hL2, i_V fl_X7, p_X7_well hA h1 (fun r2 M2 h2 => th_k hA ⟨fun _ => ⟨fun h => absurd rfl h, fun _ => i_La ?_⟩, fun h => absurd h2.1 h⟩)⟩
    rw [pk_uLs, h2.2.1]
    exact ⟨fun _ => hJ _ _ _ ⟨M2, _, h2.2.2, by omega, by omega, rfl⟩, fun h => h ((lg_cmp_eq _ _).mpr rfl)⟩
  · rcases h1 with h1 | h1 | h1 | h1
    · exact Or.inl (⟨h1.1, x_in 1 (by omega) hL hL2, x_in 2 (by omega) hL hL2, x_in 3 (by omega) hL hL2, x_in 4 (by omega) hL hL2, i_V fl_X7, p_X7_well hA h1.2 (fun r2 M2 h2 => th_k hA ⟨fun _ => ⟨fun _ => hJ _ _ _ ⟨M2, _, h2.2, by omega, by omega, rfl⟩, fun h => absurd h (by decide)⟩, fun h => absurd h2.1 h⟩)⟩)
    · exact Or.inr (Or.inl (⟨h1.1, x_in 1 (by omega) hL hL2, x_in 2 (by omega) hL hL2, x_in 3 (by omega) hL hL2, x_in 4 (by omega) hL hL2, i_V fl_X7, p_X7_well hA h1.2 (fun r2 M2 h2 => th_k hA ⟨fun _ => ⟨fun _ => hJ _ _ _ ⟨M2, _, h2.2, by omega, by omega, rfl⟩, fun h => absurd h (by decide)⟩, fun h => absurd h2.1 h⟩)⟩))
    · exact Or.inr (Or.inr (Or.inl (⟨h1.1, x_in 1 (by omega) hL hL2, x_in 2 (by omega) hL hL2, x_in 3 (by omega) hL hL2, x_in 4 (by omega) hL hL2, i_V fl_X7, p_X7_well hA h1.2 (fun r2 M2 h2 => th_k hA ⟨fun _ => ⟨fun _ => hJ _ _ _ ⟨M2, _, h2.2, by omega, by omega, rfl⟩, fun h => absurd h (by decide)⟩, fun h => absurd h2.1 h⟩)⟩)))
    · exact Or.inr (Or.inr (Or.inr (⟨h1.1, x_in 1 (by omega) hL hL2, x_in 2 (by omega) hL hL2, x_in 3 (by omega) hL hL2, x_in 4 (by omega) hL hL2, i_V fl_X7, p_X7_well hA h1.2 (fun r2 M2 h2 => th_k hA ⟨fun _ => ⟨fun _ => hJ _ _ _ ⟨M2, _, h2.2, by omega, by omega, rfl⟩, fun h => absurd h (by decide)⟩, fun h => absurd h2.1 h⟩)⟩)))
theorem k_5 (hA : Inj ad) (hO : Ok q M) (hq : q < 512) (hL : 11 * q + 11 ≤ L) (hL2 : L ≤ 5632) : L_5 G L xs (ad 0) (ad 118) (ad 141) (nI (11 * q)) cn sn (wM ad (gc G) lf M) (Nx G ad (Ok (q + 1)) cn sn) := by
  intro J498 J492 hJ498 hJ492
  refine ⟨x_in 1 (by omega) hL hL2, ?_⟩
  intro J15 hJ15
  refine ⟨i_V fl_X6, p_X6_may hA (T_may hO hq) (fun r M1 h1 => br_c (fun h0 => ?_) (fun h0 => ?_)) (fun E M1 h1 => ?_)⟩
  · apply hJ15
    refine i_Ls ⟨x_in 1 (by omega) hL hL2, i_V fl_X7, p_X7_may hA h1 (fun r2 M2 h2 => th_k hA ⟨fun _ => ⟨fun h => absurd rfl h, fun _ => i_La ⟨fun _ => ?_, fun h => absurd (h2.2.1.symm.trans h0) h⟩⟩, fun h => absurd h2.1 h⟩)⟩
    apply hJ492
    rw [pk_uLs]
    exact ⟨fun _ => hJ498 _ _ _ ⟨M2, _, h2.2.2, by omega, by omega, rfl⟩, fun h => h ((lg_cmp_eq _ _).mpr rfl)⟩
  · apply hJ15
    refine i_Ls ⟨x_in 1 (by omega) hL hL2, i_V fl_X7, p_X7_may hA h1 (fun r2 M2 h2 => th_k hA ⟨fun _ => ⟨fun h => absurd rfl h, fun _ => i_La ⟨fun h => absurd (h2.2.1.trans h) h0, fun _ => ?_⟩⟩, fun h => absurd h2.1 h⟩)⟩
    apply hJ492
    rw [pk_uLs]
    exact ⟨fun _ => hJ498 _ _ _ ⟨M2, _, h2.2.2, by omega, by omega, rfl⟩, fun h => h ((lg_cmp_eq _ _).mpr rfl)⟩
  · rcases h1 with h1 | h1
    · exact Or.inl (⟨h1.1, x_in 1 (by omega) hL hL2, i_V fl_X7, p_X7_may hA h1.2 (fun r2 M2 h2 => th_k hA ⟨fun _ => ⟨fun _ => hJ498 _ _ _ ⟨M2, _, h2.2, by omega, by omega, rfl⟩, fun h => absurd h (by decide)⟩, fun h => absurd h2.1 h⟩)⟩)
    · exact Or.inr (⟨h1.1, x_in 1 (by omega) hL hL2, i_V fl_X7, p_X7_may hA h1.2 (fun r2 M2 h2 => th_k hA ⟨fun _ => ⟨fun _ => hJ498 _ _ _ ⟨M2, _, h2.2, by omega, by omega, rfl⟩, fun h => absurd h (by decide)⟩, fun h => absurd h2.1 h⟩)⟩)
theorem k_6 (hA : Inj ad) (hO : Ok q M) (hq : q < 512) (hL : 11 * q + 11 ≤ L) (hL2 : L ≤ 5632) : L_6 G L xs (ad 0) (ad 118) (ad 141) (nI (11 * q)) cn sn (wM ad (gc G) lf M) (Nx G ad (Ok (q + 1)) cn sn) := by
  intro J hJ
  refine ⟨x_in 1 (by omega) hL hL2, x_in 2 (by omega) hL hL2, x_in 3 (by omega) hL hL2, i_V fl_X6, p_X6_dig hA (T_dig hO hq) (fun r M1 h1 => i_Ls ?_) (fun E M1 h1 => ?_)⟩
  · refine ⟨x_in 1 (by omega) hL hL2, x_in 2 (by omega) hL hL2, x_in 3 (by omega) hL hL2, i_V fl_X7, p_X7_dig hA h1 (fun r2 M2 h2 => th_k hA ⟨fun _ => ⟨fun h => absurd rfl h, fun _ => i_La ?_⟩, fun h => absurd h2.1 h⟩)⟩
    rw [pk_uLs, h2.2.1]
    exact ⟨fun _ => hJ _ _ _ ⟨M2, _, h2.2.2, by omega, by omega, rfl⟩, fun h => h ((lg_cmp_eq _ _).mpr rfl)⟩
  · rcases h1 with h1 | h1 | h1
    · exact Or.inl (⟨h1.1, x_in 1 (by omega) hL hL2, x_in 2 (by omega) hL hL2, x_in 3 (by omega) hL hL2, i_V fl_X7, p_X7_dig hA h1.2 (fun r2 M2 h2 => th_k hA ⟨fun _ => ⟨fun _ => hJ _ _ _ ⟨M2, _, h2.2, by omega, by omega, rfl⟩, fun h => absurd h (by decide)⟩, fun h => absurd h2.1 h⟩)⟩)
    · exact Or.inr (Or.inl (⟨h1.1, x_in 1 (by omega) hL hL2, x_in 2 (by omega) hL hL2, x_in 3 (by omega) hL hL2, i_V fl_X7, p_X7_dig hA h1.2 (fun r2 M2 h2 => th_k hA ⟨fun _ => ⟨fun _ => hJ _ _ _ ⟨M2, _, h2.2, by omega, by omega, rfl⟩, fun h => absurd h (by decide)⟩, fun h => absurd h2.1 h⟩)⟩))
    · exact Or.inr (Or.inr (⟨h1.1, x_in 1 (by omega) hL hL2, x_in 2 (by omega) hL hL2, x_in 3 (by omega) hL hL2, i_V fl_X7, p_X7_dig hA h1.2 (fun r2 M2 h2 => th_k hA ⟨fun _ => ⟨fun _ => hJ _ _ _ ⟨M2, _, h2.2, by omega, by omega, rfl⟩, fun h => absurd h (by decide)⟩, fun h => absurd h2.1 h⟩)⟩))
theorem k_7 (hA : Inj ad) (hO : Ok q M) (hq : q < 512) (hL : 11 * q + 11 ≤ L) (hL2 : L ≤ 5632) : L_7 G L xs (ad 0) (ad 118) (ad 141) (nI (11 * q)) cn sn (wM ad (gc G) lf M) (Nx G ad (Ok (q + 1)) cn sn) := by
  intro J hJ
  refine ⟨x_in 1 (by omega) hL hL2, i_V fl_X6, p_X6_years hA (T_years hO hq) (fun r M1 h1 => i_Ls ?_) (fun E M1 h1 => ?_)⟩
  · refine ⟨x_in 1 (by omega) hL hL2, i_V fl_X7, p_X7_years hA h1 (fun r2 M2 h2 => th_k hA ⟨fun _ => ⟨fun h => absurd rfl h, fun _ => i_La ?_⟩, fun h => absurd h2.1 h⟩)⟩
    rw [pk_uLs, h2.2.1]
    exact ⟨fun _ => hJ _ _ _ ⟨M2, _, h2.2.2, by omega, by omega, rfl⟩, fun h => h ((lg_cmp_eq _ _).mpr rfl)⟩
  · refine ⟨h1.1, x_in 1 (by omega) hL hL2, i_V fl_X7, p_X7_years hA h1.2 (fun r2 M2 h2 => th_k hA ⟨fun _ => ⟨fun _ => hJ _ _ _ ⟨M2, _, h2.2, by omega, by omega, rfl⟩, fun h => absurd h (by decide)⟩, fun h => absurd h2.1 h⟩)⟩
theorem k_8 (hA : Inj ad) (hO : Ok q M) (hq : q < 512) (hL : 11 * q + 11 ≤ L) (hL2 : L ≤ 5632) : L_8 G L xs (ad 0) (ad 118) (ad 141) (nI (11 * q)) cn sn (wM ad (gc G) lf M) (Nx G ad (Ok (q + 1)) cn sn) := by
  intro J664 J697 J737 J731 hJ664 hJ697 hJ737 hJ731
  generalize hv3 : xs (nI (11 * q) + (3 : Int32)).toNatClampNeg = v3
  have main : ∀ b : Int32, (v3 = 0 → b = 0) → (¬ v3 = 0 → b = 1) → J664 b (xs (nI (11 * q) + (2 : Int32)).toNatClampNeg) (xs (nI (11 * q) + (1 : Int32)).toNatClampNeg) (ad 0) cn sn (wM ad (gc G) lf M) := fun b hb0 hb1 => by
    apply hJ664
    intro J18 hJ18
    have go : ∀ (x5 : Int32) (lf' : Nat → Int64) (M1 : Mem), J697 x5 b (xs (nI (11 * q) + (2 : Int32)).toNatClampNeg) (xs (nI (11 * q) + (1 : Int32)).toNatClampNeg) (ad 118) (cn + 2) (sn + 12) (wM ad (gc G) lf' M1) → qX L xs (nI (11 * q) + (1 : Int32)) (fun v5 => qX L xs (nI (11 * q) + (2 : Int32)) (fun v6 => qX L xs (nI (11 * q) + (3 : Int32)) (fun v7 => ((v7 = 0 → J697 x5 (0 : Int32) v6 v5 (ad 118) (cn + 2) (sn + 12) (wM ad (gc G) lf' M1)) ∧ (¬ v7 = 0 → J697 x5 (1 : Int32) v6 v5 (ad 118) (cn + 2) (sn + 12) (wM ad (gc G) lf' M1)))))) := fun x5 lf' M1 h => by
      refine ⟨x_in 1 (by omega) hL hL2, x_in 2 (by omega) hL hL2, x_in 3 (by omega) hL hL2, ?_⟩
      rw [hv3]
      refine br_c (fun h0 => ?_) (fun h0 => ?_)
      · rw [hb0 h0] at h; exact h
      · rw [hb1 h0] at h; exact h
    refine ⟨i_V fl_X6, p_X6_collapse hA (T_collapse hO hq) (fun r M1 h1 => br_c (fun h0 => ?_) (fun h0 => ?_)) (fun E M1 h1 => ?_)⟩
    · apply hJ18
      refine i_Ls (go _ _ _ ?_)
      apply hJ697
      refine ⟨i_V fl_X7, p_X7_collapse hA h1 (fun r2 M2 h2 => th_k hA ⟨fun _ => ⟨fun h => absurd rfl h, fun _ => i_La ⟨fun _ => ?_, fun h => absurd (h2.2.1.symm.trans h0) h⟩⟩, fun h => absurd h2.1 h⟩)⟩
      apply hJ731
      rw [pk_uLs]
      exact ⟨fun _ => hJ737 _ _ _ ⟨M2, _, h2.2.2, by omega, by omega, rfl⟩, fun h => h ((lg_cmp_eq _ _).mpr rfl)⟩
    · apply hJ18
      refine i_Ls (go _ _ _ ?_)
      apply hJ697
      refine ⟨i_V fl_X7, p_X7_collapse hA h1 (fun r2 M2 h2 => th_k hA ⟨fun _ => ⟨fun h => absurd rfl h, fun _ => i_La ⟨fun h => absurd (h2.2.1.trans h) h0, fun _ => ?_⟩⟩, fun h => absurd h2.1 h⟩)⟩
      apply hJ731
      rw [pk_uLs]
      exact ⟨fun _ => hJ737 _ _ _ ⟨M2, _, h2.2.2, by omega, by omega, rfl⟩, fun h => h ((lg_cmp_eq _ _).mpr rfl)⟩
    · rcases h1 with h1 | h1
      · refine Or.inl ⟨h1.1, go _ _ _ ?_⟩
        apply hJ697
        exact ⟨i_V fl_X7, p_X7_collapse hA h1.2 (fun r2 M2 h2 => th_k hA ⟨fun _ => ⟨fun _ => hJ737 _ _ _ ⟨M2, _, h2.2, by omega, by omega, rfl⟩, fun h => absurd h (by decide)⟩, fun h => absurd h2.1 h⟩)⟩
      · refine Or.inr ⟨h1.1, go _ _ _ ?_⟩
        apply hJ697
        exact ⟨i_V fl_X7, p_X7_collapse hA h1.2 (fun r2 M2 h2 => th_k hA ⟨fun _ => ⟨fun _ => hJ737 _ _ _ ⟨M2, _, h2.2, by omega, by omega, rfl⟩, fun h => absurd h (by decide)⟩, fun h => absurd h2.1 h⟩)⟩
  refine ⟨x_in 1 (by omega) hL hL2, x_in 2 (by omega) hL hL2, x_in 3 (by omega) hL hL2, ?_⟩
  rw [hv3]
  exact br_c (fun h0 => main 0 (fun _ => rfl) (fun h => absurd h0 h)) (fun h0 => main 1 (fun h => absurd h h0) (fun _ => rfl))
theorem k_9 (hA : Inj ad) (hO : Ok q M) (hq : q < 512) (hL : 11 * q + 11 ≤ L) (hL2 : L ≤ 5632) : L_9 G L xs (ad 0) (ad 118) (ad 141) (nI (11 * q)) cn sn (wM ad (gc G) lf M) (Nx G ad (Ok (q + 1)) cn sn) := by
  intro J hJ
  refine ⟨x_in 1 (by omega) hL hL2, i_V fl_X6, p_X6_flow hA (T_flow hO hq) (fun r M1 h1 => i_Ls ?_) (fun E M1 h1 => ?_)⟩
  · refine ⟨x_in 1 (by omega) hL hL2, i_V fl_X7, p_X7_flow hA h1 (fun r2 M2 h2 => th_k hA ⟨fun _ => ⟨fun h => absurd rfl h, fun _ => i_La ?_⟩, fun h => absurd h2.1 h⟩)⟩
    rw [pk_uLs, h2.2.1]
    exact ⟨fun _ => hJ _ _ _ ⟨M2, _, h2.2.2, by omega, by omega, rfl⟩, fun h => h ((lg_cmp_eq _ _).mpr rfl)⟩
  · rcases h1 with h1 | h1
    · exact Or.inl (⟨h1.1, x_in 1 (by omega) hL hL2, i_V fl_X7, p_X7_flow hA h1.2 (fun r2 M2 h2 => th_k hA ⟨fun _ => ⟨fun _ => hJ _ _ _ ⟨M2, _, h2.2, by omega, by omega, rfl⟩, fun h => absurd h (by decide)⟩, fun h => absurd h2.1 h⟩)⟩)
    · exact Or.inr (⟨h1.1, x_in 1 (by omega) hL hL2, i_V fl_X7, p_X7_flow hA h1.2 (fun r2 M2 h2 => th_k hA ⟨fun _ => ⟨fun _ => hJ _ _ _ ⟨M2, _, h2.2, by omega, by omega, rfl⟩, fun h => absurd h (by decide)⟩, fun h => absurd h2.1 h⟩)⟩)
theorem k_10 (hA : Inj ad) (hO : Ok q M) (hq : q < 512) (hL : 11 * q + 11 ≤ L) (hL2 : L ≤ 5632) : L_10 G L xs (ad 0) (ad 118) (ad 141) (nI (11 * q)) cn sn (wM ad (gc G) lf M) (Nx G ad (Ok (q + 1)) cn sn) := by
  intro J hJ
  refine ⟨x_in 1 (by omega) hL hL2, i_V fl_X6, p_X6_harm hA (T_harm hO hq) (fun r M1 h1 => i_Ls ?_) (fun E M1 h1 => ?_)⟩
  · refine ⟨x_in 1 (by omega) hL hL2, i_V fl_X7, p_X7_harm hA h1 (fun r2 M2 h2 => th_k hA ⟨fun _ => ⟨fun h => absurd rfl h, fun _ => i_La ?_⟩, fun h => absurd h2.1 h⟩)⟩
    rw [pk_uLs, h2.2.1]
    exact ⟨fun _ => hJ _ _ _ ⟨M2, _, h2.2.2, by omega, by omega, rfl⟩, fun h => h ((lg_cmp_eq _ _).mpr rfl)⟩
  · rcases h1 with h1 | h1
    · exact Or.inl (⟨h1.1, x_in 1 (by omega) hL hL2, i_V fl_X7, p_X7_harm hA h1.2 (fun r2 M2 h2 => th_k hA ⟨fun _ => ⟨fun _ => hJ _ _ _ ⟨M2, _, h2.2, by omega, by omega, rfl⟩, fun h => absurd h (by decide)⟩, fun h => absurd h2.1 h⟩)⟩)
    · exact Or.inr (⟨h1.1, x_in 1 (by omega) hL hL2, i_V fl_X7, p_X7_harm hA h1.2 (fun r2 M2 h2 => th_k hA ⟨fun _ => ⟨fun _ => hJ _ _ _ ⟨M2, _, h2.2, by omega, by omega, rfl⟩, fun h => absurd h (by decide)⟩, fun h => absurd h2.1 h⟩)⟩)
theorem k_11 (hA : Inj ad) (hO : Ok q M) (hq : q < 512) (hL : 11 * q + 11 ≤ L) (hL2 : L ≤ 5632) : L_11 G L xs (ad 0) (ad 118) (ad 141) (nI (11 * q)) cn sn (wM ad (gc G) lf M) (Nx G ad (Ok (q + 1)) cn sn) := by
  intro J hJ
  refine ⟨x_in 1 (by omega) hL hL2, x_in 2 (by omega) hL hL2, i_V fl_X6, p_X6_seep hA (T_seep hO hq) (fun r M1 h1 => i_Ls ?_) (fun E M1 h1 => ?_)⟩
  · refine ⟨x_in 1 (by omega) hL hL2, x_in 2 (by omega) hL hL2, i_V fl_X7, p_X7_seep hA h1 (fun r2 M2 h2 => th_k hA ⟨fun _ => ⟨fun h => absurd rfl h, fun _ => i_La ?_⟩, fun h => absurd h2.1 h⟩)⟩
    rw [pk_uLs, h2.2.1]
    exact ⟨fun _ => hJ _ _ _ ⟨M2, _, h2.2.2, by omega, by omega, rfl⟩, fun h => h ((lg_cmp_eq _ _).mpr rfl)⟩
  · rcases h1 with h1 | h1
    · exact Or.inl (⟨h1.1, x_in 1 (by omega) hL hL2, x_in 2 (by omega) hL hL2, i_V fl_X7, p_X7_seep hA h1.2 (fun r2 M2 h2 => th_k hA ⟨fun _ => ⟨fun _ => hJ _ _ _ ⟨M2, _, h2.2, by omega, by omega, rfl⟩, fun h => absurd h (by decide)⟩, fun h => absurd h2.1 h⟩)⟩)
    · exact Or.inr (⟨h1.1, x_in 1 (by omega) hL hL2, x_in 2 (by omega) hL hL2, i_V fl_X7, p_X7_seep hA h1.2 (fun r2 M2 h2 => th_k hA ⟨fun _ => ⟨fun _ => hJ _ _ _ ⟨M2, _, h2.2, by omega, by omega, rfl⟩, fun h => absurd h (by decide)⟩, fun h => absurd h2.1 h⟩)⟩)
theorem k_12 (hA : Inj ad) (hO : Ok q M) (hq : q < 512) (hL : 11 * q + 11 ≤ L) (hL2 : L ≤ 5632) : L_12 G L xs (ad 0) (ad 118) (ad 141) (nI (11 * q)) cn sn (wM ad (gc G) lf M) (Nx G ad (Ok (q + 1)) cn sn) := by
  refine ⟨x_in 1 (by omega) hL hL2, x_in 2 (by omega) hL hL2, x_in 3 (by omega) hL hL2, x_in 4 (by omega) hL hL2, i_V fl_X6, p_X6_sell hA (T_sell hO hq) (fun M1 h1 => ?_) (fun E M1 h1 => ?_)⟩
  · exact ⟨x_in 1 (by omega) hL hL2, x_in 2 (by omega) hL hL2, x_in 3 (by omega) hL hL2, x_in 4 (by omega) hL hL2, i_V fl_X7, p_X7_sell hA h1 (fun M2 h2 => th_k hA ⟨fun _ => ⟨M2, _, h2.2, by omega, by omega, rfl⟩, fun h => absurd h2.1 h⟩)⟩
  · rcases h1 with h1 | h1 | h1 | h1
    · exact Or.inl (⟨h1.1, x_in 1 (by omega) hL hL2, x_in 2 (by omega) hL hL2, x_in 3 (by omega) hL hL2, x_in 4 (by omega) hL hL2, i_V fl_X7, p_X7_sell hA h1.2 (fun M2 h2 => th_k hA ⟨fun _ => ⟨M2, _, h2.2, by omega, by omega, rfl⟩, fun h => absurd h2.1 h⟩)⟩)
    · exact Or.inr (Or.inl (⟨h1.1, x_in 1 (by omega) hL hL2, x_in 2 (by omega) hL hL2, x_in 3 (by omega) hL hL2, x_in 4 (by omega) hL hL2, i_V fl_X7, p_X7_sell hA h1.2 (fun M2 h2 => th_k hA ⟨fun _ => ⟨M2, _, h2.2, by omega, by omega, rfl⟩, fun h => absurd h2.1 h⟩)⟩))
    · exact Or.inr (Or.inr (Or.inl (⟨h1.1, x_in 1 (by omega) hL hL2, x_in 2 (by omega) hL hL2, x_in 3 (by omega) hL hL2, x_in 4 (by omega) hL hL2, i_V fl_X7, p_X7_sell hA h1.2 (fun M2 h2 => th_k hA ⟨fun _ => ⟨M2, _, h2.2, by omega, by omega, rfl⟩, fun h => absurd h2.1 h⟩)⟩)))
    · exact Or.inr (Or.inr (Or.inr (⟨h1.1, x_in 1 (by omega) hL hL2, x_in 2 (by omega) hL hL2, x_in 3 (by omega) hL hL2, x_in 4 (by omega) hL hL2, i_V fl_X7, p_X7_sell hA h1.2 (fun M2 h2 => th_k hA ⟨fun _ => ⟨M2, _, h2.2, by omega, by omega, rfl⟩, fun h => absurd h2.1 h⟩)⟩)))
theorem k_13 (hA : Inj ad) (hO : Ok q M) (hq : q < 512) (hL : 11 * q + 11 ≤ L) (hL2 : L ≤ 5632) : L_13 G L xs (ad 0) (ad 118) (ad 141) (nI (11 * q)) cn sn (wM ad (gc G) lf M) (Nx G ad (Ok (q + 1)) cn sn) := by
  intro J hJ
  refine ⟨x_in 1 (by omega) hL hL2, x_in 2 (by omega) hL hL2, x_in 3 (by omega) hL hL2, x_in 4 (by omega) hL hL2, x_in 5 (by omega) hL hL2, x_in 6 (by omega) hL hL2, x_in 7 (by omega) hL hL2, x_in 8 (by omega) hL hL2, x_in 9 (by omega) hL hL2, x_in 10 (by omega) hL hL2, i_V fl_X6, p_X6_heirs hA (T_heirs hO hq) (fun r M1 h1 => i_Ls ?_) (fun E M1 h1 => ?_)⟩
  · refine ⟨x_in 1 (by omega) hL hL2, x_in 2 (by omega) hL hL2, x_in 3 (by omega) hL hL2, x_in 4 (by omega) hL hL2, x_in 5 (by omega) hL hL2, x_in 6 (by omega) hL hL2, x_in 7 (by omega) hL hL2, x_in 8 (by omega) hL hL2, x_in 9 (by omega) hL hL2, x_in 10 (by omega) hL hL2, i_V fl_X7, p_X7_heirs hA h1 (fun r2 M2 h2 => th_k hA ⟨fun _ => ⟨fun h => absurd rfl h, fun _ => i_La ?_⟩, fun h => absurd h2.1 h⟩)⟩
    rw [pk_uLs, h2.2.1]
    exact ⟨fun _ => hJ _ _ _ ⟨M2, _, h2.2.2, by omega, by omega, rfl⟩, fun h => h ((lg_cmp_eq _ _).mpr rfl)⟩
  · rcases h1 with h1 | h1 | h1 | h1
    · exact Or.inl (⟨h1.1, x_in 1 (by omega) hL hL2, x_in 2 (by omega) hL hL2, x_in 3 (by omega) hL hL2, x_in 4 (by omega) hL hL2, x_in 5 (by omega) hL hL2, x_in 6 (by omega) hL hL2, x_in 7 (by omega) hL hL2, x_in 8 (by omega) hL hL2, x_in 9 (by omega) hL hL2, x_in 10 (by omega) hL hL2, i_V fl_X7, p_X7_heirs hA h1.2 (fun r2 M2 h2 => th_k hA ⟨fun _ => ⟨fun _ => hJ _ _ _ ⟨M2, _, h2.2, by omega, by omega, rfl⟩, fun h => absurd h (by decide)⟩, fun h => absurd h2.1 h⟩)⟩)
    · exact Or.inr (Or.inl (⟨h1.1, x_in 1 (by omega) hL hL2, x_in 2 (by omega) hL hL2, x_in 3 (by omega) hL hL2, x_in 4 (by omega) hL hL2, x_in 5 (by omega) hL hL2, x_in 6 (by omega) hL hL2, x_in 7 (by omega) hL hL2, x_in 8 (by omega) hL hL2, x_in 9 (by omega) hL hL2, x_in 10 (by omega) hL hL2, i_V fl_X7, p_X7_heirs hA h1.2 (fun r2 M2 h2 => th_k hA ⟨fun _ => ⟨fun _ => hJ _ _ _ ⟨M2, _, h2.2, by omega, by omega, rfl⟩, fun h => absurd h (by decide)⟩, fun h => absurd h2.1 h⟩)⟩))
    · exact Or.inr (Or.inr (Or.inl (⟨h1.1, x_in 1 (by omega) hL hL2, x_in 2 (by omega) hL hL2, x_in 3 (by omega) hL hL2, x_in 4 (by omega) hL hL2, x_in 5 (by omega) hL hL2, x_in 6 (by omega) hL hL2, x_in 7 (by omega) hL hL2, x_in 8 (by omega) hL hL2, x_in 9 (by omega) hL hL2, x_in 10 (by omega) hL hL2, i_V fl_X7, p_X7_heirs hA h1.2 (fun r2 M2 h2 => th_k hA ⟨fun _ => ⟨fun _ => hJ _ _ _ ⟨M2, _, h2.2, by omega, by omega, rfl⟩, fun h => absurd h (by decide)⟩, fun h => absurd h2.1 h⟩)⟩)))
    · exact Or.inr (Or.inr (Or.inr (⟨h1.1, x_in 1 (by omega) hL hL2, x_in 2 (by omega) hL hL2, x_in 3 (by omega) hL hL2, x_in 4 (by omega) hL hL2, x_in 5 (by omega) hL hL2, x_in 6 (by omega) hL hL2, x_in 7 (by omega) hL hL2, x_in 8 (by omega) hL hL2, x_in 9 (by omega) hL hL2, x_in 10 (by omega) hL hL2, i_V fl_X7, p_X7_heirs hA h1.2 (fun r2 M2 h2 => th_k hA ⟨fun _ => ⟨fun _ => hJ _ _ _ ⟨M2, _, h2.2, by omega, by omega, rfl⟩, fun h => absurd h (by decide)⟩, fun h => absurd h2.1 h⟩)⟩)))
theorem k_14 (hA : Inj ad) (hO : Ok q M) (hq : q < 512) (hL : 11 * q + 11 ≤ L) (hL2 : L ≤ 5632) : L_14 G L xs (ad 0) (ad 118) (ad 141) (nI (11 * q)) cn sn (wM ad (gc G) lf M) (Nx G ad (Ok (q + 1)) cn sn) := by
  refine ⟨x_in 1 (by omega) hL hL2, x_in 2 (by omega) hL hL2, x_in 3 (by omega) hL hL2, x_in 4 (by omega) hL hL2, i_V fl_X6, p_X6_let hA (T_let hO hq) (fun M1 h1 => ?_) (fun E M1 h1 => ?_)⟩
  · exact ⟨x_in 1 (by omega) hL hL2, x_in 2 (by omega) hL hL2, x_in 3 (by omega) hL hL2, x_in 4 (by omega) hL hL2, i_V fl_X7, p_X7_let hA h1 (fun M2 h2 => th_k hA ⟨fun _ => ⟨M2, _, h2.2, by omega, by omega, rfl⟩, fun h => absurd h2.1 h⟩)⟩
  · rcases h1 with h1 | h1 | h1
    · exact Or.inl (⟨h1.1, x_in 1 (by omega) hL hL2, x_in 2 (by omega) hL hL2, x_in 3 (by omega) hL hL2, x_in 4 (by omega) hL hL2, i_V fl_X7, p_X7_let hA h1.2 (fun M2 h2 => th_k hA ⟨fun _ => ⟨M2, _, h2.2, by omega, by omega, rfl⟩, fun h => absurd h2.1 h⟩)⟩)
    · exact Or.inr (Or.inl (⟨h1.1, x_in 1 (by omega) hL hL2, x_in 2 (by omega) hL hL2, x_in 3 (by omega) hL hL2, x_in 4 (by omega) hL hL2, i_V fl_X7, p_X7_let hA h1.2 (fun M2 h2 => th_k hA ⟨fun _ => ⟨M2, _, h2.2, by omega, by omega, rfl⟩, fun h => absurd h2.1 h⟩)⟩))
    · exact Or.inr (Or.inr (⟨h1.1, x_in 1 (by omega) hL hL2, x_in 2 (by omega) hL hL2, x_in 3 (by omega) hL hL2, x_in 4 (by omega) hL hL2, i_V fl_X7, p_X7_let hA h1.2 (fun M2 h2 => th_k hA ⟨fun _ => ⟨M2, _, h2.2, by omega, by omega, rfl⟩, fun h => absurd h2.1 h⟩)⟩))
theorem k_15 (hA : Inj ad) (hO : Ok q M) (hq : q < 512) (hL : 11 * q + 11 ≤ L) (hL2 : L ≤ 5632) : L_15 G L xs (ad 0) (ad 118) (ad 141) (nI (11 * q)) cn sn (wM ad (gc G) lf M) (Nx G ad (Ok (q + 1)) cn sn) := by
  intro J hJ
  refine ⟨x_in 1 (by omega) hL hL2, i_V fl_X6, p_X6_minutes hA (T_minutes hO hq) (fun r M1 h1 => i_Ls ?_) (fun E M1 h1 => ?_)⟩
  · refine ⟨x_in 1 (by omega) hL hL2, i_V fl_X7, p_X7_minutes hA h1 (fun r2 M2 h2 => th_k hA ⟨fun _ => ⟨fun h => absurd rfl h, fun _ => i_La ?_⟩, fun h => absurd h2.1 h⟩)⟩
    rw [pk_uLs, h2.2.1]
    exact ⟨fun _ => hJ _ _ _ ⟨M2, _, h2.2.2, by omega, by omega, rfl⟩, fun h => h ((lg_cmp_eq _ _).mpr rfl)⟩
  · refine ⟨h1.1, x_in 1 (by omega) hL hL2, i_V fl_X7, p_X7_minutes hA h1.2 (fun r2 M2 h2 => th_k hA ⟨fun _ => ⟨fun _ => hJ _ _ _ ⟨M2, _, h2.2, by omega, by omega, rfl⟩, fun h => absurd h (by decide)⟩, fun h => absurd h2.1 h⟩)⟩
theorem k_16 (hA : Inj ad) (hO : Ok q M) (hq : q < 512) (hL : 11 * q + 11 ≤ L) (hL2 : L ≤ 5632) : L_16 G L xs (ad 0) (ad 118) (ad 141) (nI (11 * q)) cn sn (wM ad (gc G) lf M) (Nx G ad (Ok (q + 1)) cn sn) := by
  intro J hJ
  refine ⟨x_in 1 (by omega) hL hL2, x_in 2 (by omega) hL hL2, i_V fl_X6, p_X6_holder hA (T_holder hO hq) (fun r M1 h1 => i_Ls ?_) (fun E M1 h1 => ?_)⟩
  · refine ⟨x_in 1 (by omega) hL hL2, x_in 2 (by omega) hL hL2, i_V fl_X7, p_X7_holder hA h1 (fun r2 M2 h2 => th_k hA ⟨fun _ => ⟨fun h => absurd rfl h, fun _ => i_La ?_⟩, fun h => absurd h2.1 h⟩)⟩
    rw [pk_uLs, h2.2.1]
    exact ⟨fun _ => hJ _ _ _ ⟨M2, _, h2.2.2, by omega, by omega, rfl⟩, fun h => h ((lg_cmp_eq _ _).mpr rfl)⟩
  · rcases h1 with h1 | h1
    · exact Or.inl (⟨h1.1, x_in 1 (by omega) hL hL2, x_in 2 (by omega) hL hL2, i_V fl_X7, p_X7_holder hA h1.2 (fun r2 M2 h2 => th_k hA ⟨fun _ => ⟨fun _ => hJ _ _ _ ⟨M2, _, h2.2, by omega, by omega, rfl⟩, fun h => absurd h (by decide)⟩, fun h => absurd h2.1 h⟩)⟩)
    · exact Or.inr (⟨h1.1, x_in 1 (by omega) hL hL2, x_in 2 (by omega) hL hL2, i_V fl_X7, p_X7_holder hA h1.2 (fun r2 M2 h2 => th_k hA ⟨fun _ => ⟨fun _ => hJ _ _ _ ⟨M2, _, h2.2, by omega, by omega, rfl⟩, fun h => absurd h (by decide)⟩, fun h => absurd h2.1 h⟩)⟩)
theorem k_17 (hA : Inj ad) (hO : Ok q M) (hq : q < 512) (hL : 11 * q + 11 ≤ L) (hL2 : L ≤ 5632) : L_17 G L xs (ad 0) (ad 118) (ad 141) (nI (11 * q)) cn sn (wM ad (gc G) lf M) (Nx G ad (Ok (q + 1)) cn sn) := by
  intro J hJ
  refine ⟨x_in 1 (by omega) hL hL2, x_in 2 (by omega) hL hL2, i_V fl_X6, p_X6_share hA (T_share hO hq) (fun r M1 h1 => i_Ls ?_) (fun E M1 h1 => ?_)⟩
  · refine ⟨x_in 1 (by omega) hL hL2, x_in 2 (by omega) hL hL2, i_V fl_X7, p_X7_share hA h1 (fun r2 M2 h2 => th_k hA ⟨fun _ => ⟨fun h => absurd rfl h, fun _ => i_La ?_⟩, fun h => absurd h2.1 h⟩)⟩
    rw [pk_uLs, h2.2.1]
    exact ⟨fun _ => hJ _ _ _ ⟨M2, _, h2.2.2, by omega, by omega, rfl⟩, fun h => h ((lg_cmp_eq _ _).mpr rfl)⟩
  · rcases h1 with h1 | h1
    · exact Or.inl (⟨h1.1, x_in 1 (by omega) hL hL2, x_in 2 (by omega) hL hL2, i_V fl_X7, p_X7_share hA h1.2 (fun r2 M2 h2 => th_k hA ⟨fun _ => ⟨fun _ => hJ _ _ _ ⟨M2, _, h2.2, by omega, by omega, rfl⟩, fun h => absurd h (by decide)⟩, fun h => absurd h2.1 h⟩)⟩)
    · exact Or.inr (⟨h1.1, x_in 1 (by omega) hL hL2, x_in 2 (by omega) hL hL2, i_V fl_X7, p_X7_share hA h1.2 (fun r2 M2 h2 => th_k hA ⟨fun _ => ⟨fun _ => hJ _ _ _ ⟨M2, _, h2.2, by omega, by omega, rfl⟩, fun h => absurd h (by decide)⟩, fun h => absurd h2.1 h⟩)⟩)
theorem k_18 (hA : Inj ad) (hO : Ok q M) (hq : q < 512) (hL : 11 * q + 11 ≤ L) (hL2 : L ≤ 5632) : L_18 G L xs (ad 0) (ad 118) (ad 141) (nI (11 * q)) cn sn (wM ad (gc G) lf M) (Nx G ad (Ok (q + 1)) cn sn) := by
  intro J hJ
  refine ⟨i_V fl_X6, p_X6_law hA (T_law hO hq) (fun r M1 h1 => i_Ls ?_) (fun E M1 h1 => ?_)⟩
  · refine ⟨i_V fl_X7, p_X7_law hA h1 (fun r2 M2 h2 => th_k hA ⟨fun _ => ⟨fun h => absurd rfl h, fun _ => i_La ?_⟩, fun h => absurd h2.1 h⟩)⟩
    rw [pk_uLs, h2.2.1]
    exact ⟨fun _ => hJ _ _ _ ⟨M2, _, h2.2.2, by omega, by omega, rfl⟩, fun h => h ((lg_cmp_eq _ _).mpr rfl)⟩
  · refine ⟨h1.1, i_V fl_X7, p_X7_law hA h1.2 (fun r2 M2 h2 => th_k hA ⟨fun _ => ⟨fun _ => hJ _ _ _ ⟨M2, _, h2.2, by omega, by omega, rfl⟩, fun h => absurd h (by decide)⟩, fun h => absurd h2.1 h⟩)⟩
theorem k_19 (hA : Inj ad) (hO : Ok q M) (hq : q < 512) (hL : 11 * q + 11 ≤ L) (hL2 : L ≤ 5632) : L_19 G L xs (ad 0) (ad 118) (ad 141) (nI (11 * q)) cn sn (wM ad (gc G) lf M) (Nx G ad (Ok (q + 1)) cn sn) := by
  exact ⟨i_V fl_X6, p_X6_fault hA (T_fault hO hq) (fun r M1 h1 => ⟨i_V fl_X7, p_X7_fault hA h1 (fun r2 M2 h2 => ⟨fun _ => ⟨M2, _, h2.2, by omega, by omega, rfl⟩, fun h => h h2.1⟩)⟩)⟩
theorem k_20 (hA : Inj ad) (hO : Ok q M) (hq : q < 512) (hL : 11 * q + 11 ≤ L) (hL2 : L ≤ 5632) : L_20 G L xs (ad 0) (ad 118) (ad 141) (nI (11 * q)) cn sn (wM ad (gc G) lf M) (Nx G ad (Ok (q + 1)) cn sn) := by
  intro J hJ
  refine ⟨x_in 1 (by omega) hL hL2, i_V fl_X6, p_X6_says hA (T_says hO hq) (fun r M1 h1 => i_Ls ?_) (fun E M1 h1 => ?_)⟩
  · refine ⟨x_in 1 (by omega) hL hL2, i_V fl_X7, p_X7_says hA h1 (fun r2 M2 h2 => th_k hA ⟨fun _ => ⟨fun h => absurd rfl h, fun _ => i_La ?_⟩, fun h => absurd h2.1 h⟩)⟩
    rw [pk_uLs, h2.2.1]
    exact ⟨fun _ => hJ _ _ _ ⟨M2, _, h2.2.2, by omega, by omega, rfl⟩, fun h => h ((lg_cmp_eq _ _).mpr rfl)⟩
  · refine ⟨h1.1, x_in 1 (by omega) hL hL2, i_V fl_X7, p_X7_says hA h1.2 (fun r2 M2 h2 => th_k hA ⟨fun _ => ⟨fun _ => hJ _ _ _ ⟨M2, _, h2.2, by omega, by omega, rfl⟩, fun h => absurd h (by decide)⟩, fun h => absurd h2.1 h⟩)⟩
theorem k_21 (hA : Inj ad) (hO : Ok q M) (hq : q < 512) (hL : 11 * q + 11 ≤ L) (hL2 : L ≤ 5632) : L_21 G L xs (ad 0) (ad 118) (ad 141) (nI (11 * q)) cn sn (wM ad (gc G) lf M) (Nx G ad (Ok (q + 1)) cn sn) := by
  intro J hJ
  refine ⟨x_in 1 (by omega) hL hL2, x_in 2 (by omega) hL hL2, x_in 3 (by omega) hL hL2, i_V fl_X6, p_X6_pays hA (T_pays hO hq) (fun r M1 h1 => i_Ls ?_) (fun E M1 h1 => ?_)⟩
  · refine ⟨x_in 1 (by omega) hL hL2, x_in 2 (by omega) hL hL2, x_in 3 (by omega) hL hL2, i_V fl_X7, p_X7_pays hA h1 (fun r2 M2 h2 => th_k hA ⟨fun _ => ⟨fun h => absurd rfl h, fun _ => i_La ?_⟩, fun h => absurd h2.1 h⟩)⟩
    rw [pk_uLs, h2.2.1]
    exact ⟨fun _ => hJ _ _ _ ⟨M2, _, h2.2.2, by omega, by omega, rfl⟩, fun h => h ((lg_cmp_eq _ _).mpr rfl)⟩
  · rcases h1 with h1 | h1 | h1
    · exact Or.inl (⟨h1.1, x_in 1 (by omega) hL hL2, x_in 2 (by omega) hL hL2, x_in 3 (by omega) hL hL2, i_V fl_X7, p_X7_pays hA h1.2 (fun r2 M2 h2 => th_k hA ⟨fun _ => ⟨fun _ => hJ _ _ _ ⟨M2, _, h2.2, by omega, by omega, rfl⟩, fun h => absurd h (by decide)⟩, fun h => absurd h2.1 h⟩)⟩)
    · exact Or.inr (Or.inl (⟨h1.1, x_in 1 (by omega) hL hL2, x_in 2 (by omega) hL hL2, x_in 3 (by omega) hL hL2, i_V fl_X7, p_X7_pays hA h1.2 (fun r2 M2 h2 => th_k hA ⟨fun _ => ⟨fun _ => hJ _ _ _ ⟨M2, _, h2.2, by omega, by omega, rfl⟩, fun h => absurd h (by decide)⟩, fun h => absurd h2.1 h⟩)⟩))
    · exact Or.inr (Or.inr (⟨h1.1, x_in 1 (by omega) hL hL2, x_in 2 (by omega) hL hL2, x_in 3 (by omega) hL hL2, i_V fl_X7, p_X7_pays hA h1.2 (fun r2 M2 h2 => th_k hA ⟨fun _ => ⟨fun _ => hJ _ _ _ ⟨M2, _, h2.2, by omega, by omega, rfl⟩, fun h => absurd h (by decide)⟩, fun h => absurd h2.1 h⟩)⟩))
theorem k_22 (hA : Inj ad) (hO : Ok q M) (hq : q < 512) (hL : 11 * q + 11 ≤ L) (hL2 : L ≤ 5632) : L_22 G L xs (ad 0) (ad 118) (ad 141) (nI (11 * q)) cn sn (wM ad (gc G) lf M) (Nx G ad (Ok (q + 1)) cn sn) := by
  intro J hJ
  refine ⟨x_in 1 (by omega) hL hL2, x_in 2 (by omega) hL hL2, x_in 3 (by omega) hL hL2, i_V fl_X6, p_X6_field hA (T_field hO hq) (fun r M1 h1 => i_Ls ?_) (fun E M1 h1 => ?_)⟩
  · refine ⟨x_in 1 (by omega) hL hL2, x_in 2 (by omega) hL hL2, x_in 3 (by omega) hL hL2, i_V fl_X7, p_X7_field hA h1 (fun r2 M2 h2 => th_k hA ⟨fun _ => ⟨fun h => absurd rfl h, fun _ => i_La ?_⟩, fun h => absurd h2.1 h⟩)⟩
    rw [pk_uLs, h2.2.1]
    exact ⟨fun _ => hJ _ _ _ ⟨M2, _, h2.2.2, by omega, by omega, rfl⟩, fun h => h ((lg_cmp_eq _ _).mpr rfl)⟩
  · refine ⟨h1.1, x_in 1 (by omega) hL hL2, x_in 2 (by omega) hL hL2, x_in 3 (by omega) hL hL2, i_V fl_X7, p_X7_field hA h1.2 (fun r2 M2 h2 => th_k hA ⟨fun _ => ⟨fun _ => hJ _ _ _ ⟨M2, _, h2.2, by omega, by omega, rfl⟩, fun h => absurd h (by decide)⟩, fun h => absurd h2.1 h⟩)⟩
theorem k_23 (hA : Inj ad) (hO : Ok q M) (hq : q < 512) (hL : 11 * q + 11 ≤ L) (hL2 : L ≤ 5632) : L_23 G L xs (ad 0) (ad 118) (ad 141) (nI (11 * q)) cn sn (wM ad (gc G) lf M) (Nx G ad (Ok (q + 1)) cn sn) := by
  exact ⟨i_V fl_X6, p_X6_least hA (T_least hO hq) (fun r M1 h1 => ⟨i_V fl_X7, p_X7_least hA h1 (fun r2 M2 h2 => ⟨fun _ => ⟨M2, _, h2.2, by omega, by omega, rfl⟩, fun h => h h2.1⟩)⟩)⟩
theorem k_24 (hA : Inj ad) (hO : Ok q M) (hq : q < 512) (hL : 11 * q + 11 ≤ L) (hL2 : L ≤ 5632) : L_24 G L xs (ad 0) (ad 118) (ad 141) (nI (11 * q)) cn sn (wM ad (gc G) lf M) (Nx G ad (Ok (q + 1)) cn sn) := by
  exact ⟨x_in 1 (by omega) hL hL2, i_V fl_X6, p_X6_count hA (T_count hO hq) (fun r M1 h1 => ⟨x_in 1 (by omega) hL hL2, i_V fl_X7, p_X7_count hA h1 (fun r2 M2 h2 => ⟨fun _ => ⟨M2, _, h2.2, by omega, by omega, rfl⟩, fun h => h h2.1⟩)⟩)⟩
theorem k_all (hA : Inj ad) (hO : Ok q M) (hL : 11 * q + 11 ≤ L) (hL2 : L ≤ 5632) {c : Nat} (hc : c < 25) : Lc c G L xs (ad 0) (ad 118) (ad 141) (nI (11 * q)) cn sn (wM ad (gc G) lf M) (Nx G ad (Ok (q + 1)) cn sn) := by
  have hq : q < 512 := by omega
  rcases (show c = 0 ∨ c = 1 ∨ c = 2 ∨ c = 3 ∨ c = 4 ∨ c = 5 ∨ c = 6 ∨ c = 7 ∨ c = 8 ∨ c = 9 ∨ c = 10 ∨ c = 11 ∨ c = 12 ∨ c = 13 ∨ c = 14 ∨ c = 15 ∨ c = 16 ∨ c = 17 ∨ c = 18 ∨ c = 19 ∨ c = 20 ∨ c = 21 ∨ c = 22 ∨ c = 23 ∨ c = 24 by omega) with rfl | rfl | rfl | rfl | rfl | rfl | rfl | rfl | rfl | rfl | rfl | rfl | rfl | rfl | rfl | rfl | rfl | rfl | rfl | rfl | rfl | rfl | rfl | rfl | rfl
  · exact k_0 (xs := xs) hA hO hq hL hL2
  · exact k_1 (xs := xs) hA hO hq hL hL2
  · exact k_2 (xs := xs) hA hO hq hL hL2
  · exact k_3 (xs := xs) hA hO hq hL hL2
  · exact k_4 (xs := xs) hA hO hq hL hL2
  · exact k_5 (xs := xs) hA hO hq hL hL2
  · exact k_6 (xs := xs) hA hO hq hL hL2
  · exact k_7 (xs := xs) hA hO hq hL hL2
  · exact k_8 (xs := xs) hA hO hq hL hL2
  · exact k_9 (xs := xs) hA hO hq hL hL2
  · exact k_10 (xs := xs) hA hO hq hL hL2
  · exact k_11 (xs := xs) hA hO hq hL hL2
  · exact k_12 (xs := xs) hA hO hq hL hL2
  · exact k_13 (xs := xs) hA hO hq hL hL2
  · exact k_14 (xs := xs) hA hO hq hL hL2
  · exact k_15 (xs := xs) hA hO hq hL hL2
  · exact k_16 (xs := xs) hA hO hq hL hL2
  · exact k_17 (xs := xs) hA hO hq hL hL2
  · exact k_18 (xs := xs) hA hO hq hL hL2
  · exact k_19 (xs := xs) hA hO hq hL hL2
  · exact k_20 (xs := xs) hA hO hq hL hL2
  · exact k_21 (xs := xs) hA hO hq hL hL2
  · exact k_22 (xs := xs) hA hO hq hL hL2
  · exact k_23 (xs := xs) hA hO hq hL hL2
  · exact k_24 (xs := xs) hA hO hq hL hL2
end CASES
