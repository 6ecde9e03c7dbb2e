/-! ===== a new object, and a new model: they agree ===== -/
def V0 : Vw := fun t i j => if t = 2 ∧ i = 0 ∧ j = 0 then 500 else if t = 3 ∧ i = 0 ∧ j = 0 then 2 else if t = 7 ∧ i = 0 ∧ j = 0 then -1 else 0
theorem V0_z {t i j : Nat} (h2 : t ≠ 2) (h3 : t ≠ 3) (h7 : t ≠ 7) : V0 t i j = 0 := by
  unfold V0
  rw [if_neg (fun h => h2 h.1), if_neg (fun h => h3 h.1), if_neg (fun h => h7 h.1)]
theorem V0_o {t i j : Nat} (h : ¬ (i = 0 ∧ j = 0)) : V0 t i j = 0 := by
  unfold V0
  rw [if_neg (fun g => h g.2), if_neg (fun g => h g.2), if_neg (fun g => h g.2)]

theorem VC0 : VC M0 = V0 := by
  funext t i j
  unfold VC
  by_cases hb : i < (bdv t).1 ∧ j < (bdv t).2
  · rw [if_pos hb]
    match t, hb with
    | 0, hb =>
      have h1 : i < 1 := hb.1
      have h2 : j < 1 := hb.2
      have e1 : i = 0 := by omega
      have e2 : j = 0 := by omega
      subst e1; subst e2
      rfl
    | 1, hb =>
      have h1 : i < 1 := hb.1
      have h2 : j < 1 := hb.2
      have e1 : i = 0 := by omega
      have e2 : j = 0 := by omega
      subst e1; subst e2
      rfl
    | 2, hb =>
      have h1 : i < 1 := hb.1
      have h2 : j < 1 := hb.2
      have e1 : i = 0 := by omega
      have e2 : j = 0 := by omega
      subst e1; subst e2
      rfl
    | 3, hb =>
      have h1 : i < 1 := hb.1
      have h2 : j < 1 := hb.2
      have e1 : i = 0 := by omega
      have e2 : j = 0 := by omega
      subst e1; subst e2
      rfl
    | 4, hb =>
      have h1 : i < 1 := hb.1
      have h2 : j < 1 := hb.2
      have e1 : i = 0 := by omega
      have e2 : j = 0 := by omega
      subst e1; subst e2
      rfl
    | 5, hb =>
      have h1 : i < 1 := hb.1
      have h2 : j < 1 := hb.2
      have e1 : i = 0 := by omega
      have e2 : j = 0 := by omega
      subst e1; subst e2
      rfl
    | 6, hb =>
      have h1 : i < 1 := hb.1
      have h2 : j < 1 := hb.2
      have e1 : i = 0 := by omega
      have e2 : j = 0 := by omega
      subst e1; subst e2
      rfl
    | 7, hb =>
      have h1 : i < 1 := hb.1
      have h2 : j < 1 := hb.2
      have e1 : i = 0 := by omega
      have e2 : j = 0 := by omega
      subst e1; subst e2
      rfl
    | 8, hb =>
      have h1 : i < 1 := hb.1
      have h2 : j < 1 := hb.2
      have e1 : i = 0 := by omega
      have e2 : j = 0 := by omega
      subst e1; subst e2
      rfl
    | 9, hb => exact absurd hb.1 (Nat.not_lt_zero _)
    | 10, hb =>
      have h1 : i < 4 := hb.1
      have h2 : j < 1 := hb.2
      show M0 (5) (i) = V0 10 i j
      rw [M0_z (by omega) (by omega), V0_z (by omega) (by omega) (by omega)]
    | 11, hb =>
      have h1 : i < 8 := hb.1
      have h2 : j < 1 := hb.2
      show M0 (7 + 5 * i) (4) = V0 11 i j
      rw [M0_z (by omega) (by omega), V0_z (by omega) (by omega) (by omega)]
    | 12, hb =>
      have h1 : i < 8 := hb.1
      have h2 : j < 1 := hb.2
      show M0 (7 + 5 * i) (5) = V0 12 i j
      rw [M0_z (by omega) (by omega), V0_z (by omega) (by omega) (by omega)]
    | 13, hb =>
      have h1 : i < 8 := hb.1
      have h2 : j < 1 := hb.2
      show M0 (7 + 5 * i) (6) = V0 13 i j
      rw [M0_z (by omega) (by omega), V0_z (by omega) (by omega) (by omega)]
    | 14, hb =>
      have h1 : i < 8 := hb.1
      have h2 : j < 1 := hb.2
      show M0 (7 + 5 * i) (7) = V0 14 i j
      rw [M0_z (by omega) (by omega), V0_z (by omega) (by omega) (by omega)]
    | 15, hb =>
      have h1 : i < 8 := hb.1
      have h2 : j < 20 := hb.2
      show M0 (8 + 5 * i) (j) = V0 15 i j
      rw [M0_z (by omega) (by omega), V0_z (by omega) (by omega) (by omega)]
    | 16, hb =>
      have h1 : i < 8 := hb.1
      have h2 : j < 20 := hb.2
      show M0 (9 + 5 * i) (j) = V0 16 i j
      rw [M0_z (by omega) (by omega), V0_z (by omega) (by omega) (by omega)]
    | 17, hb =>
      have h1 : i < 8 := hb.1
      have h2 : j < 20 := hb.2
      show M0 (10 + 5 * i) (j) = V0 17 i j
      rw [M0_z (by omega) (by omega), V0_z (by omega) (by omega) (by omega)]
    | 18, hb =>
      have h1 : i < 8 := hb.1
      have h2 : j < 20 := hb.2
      show M0 (11 + 5 * i) (j) = V0 18 i j
      rw [M0_z (by omega) (by omega), V0_z (by omega) (by omega) (by omega)]
    | 19, hb =>
      have h1 : i < 60 := hb.1
      have h2 : j < 1 := hb.2
      show M0 (48 + i) (0) = V0 19 i j
      rw [M0_z (by omega) (by omega), V0_z (by omega) (by omega) (by omega)]
    | 20, hb =>
      have h1 : i < 60 := hb.1
      have h2 : j < 1 := hb.2
      show M0 (48 + i) (1) = V0 20 i j
      rw [M0_z (by omega) (by omega), V0_z (by omega) (by omega) (by omega)]
    | 21, hb =>
      have h1 : i < 60 := hb.1
      have h2 : j < 1 := hb.2
      show M0 (48 + i) (2) = V0 21 i j
      rw [M0_z (by omega) (by omega), V0_z (by omega) (by omega) (by omega)]
    | 22, hb =>
      have h1 : i < 60 := hb.1
      have h2 : j < 1 := hb.2
      show M0 (48 + i) (3) = V0 22 i j
      rw [M0_z (by omega) (by omega), V0_z (by omega) (by omega) (by omega)]
    | 23, hb => exact absurd hb.1 (Nat.not_lt_zero _)
    | 24, hb =>
      have h1 : i < 60 := hb.1
      have h2 : j < 1 := hb.2
      show M0 (48 + i) (5) = V0 24 i j
      rw [M0_z (by omega) (by omega), V0_z (by omega) (by omega) (by omega)]
    | 25, hb =>
      have h1 : i < 60 := hb.1
      have h2 : j < 1 := hb.2
      show M0 (48 + i) (6) = V0 25 i j
      rw [M0_z (by omega) (by omega), V0_z (by omega) (by omega) (by omega)]
    | 26, hb =>
      have h1 : i < 1 := hb.1
      have h2 : j < 1 := hb.2
      have e1 : i = 0 := by omega
      have e2 : j = 0 := by omega
      subst e1; subst e2
      rfl
    | 27, hb =>
      have h1 : i < 9 := hb.1
      have h2 : j < 1 := hb.2
      show M0 (114) (i) = V0 27 i j
      rw [M0_z (by omega) (by omega), V0_z (by omega) (by omega) (by omega)]
    | 28, hb =>
      have h1 : i < 9 := hb.1
      have h2 : j < 1 := hb.2
      show M0 (115) (i) = V0 28 i j
      rw [M0_z (by omega) (by omega), V0_z (by omega) (by omega) (by omega)]
    | 29, hb =>
      have h1 : i < 9 := hb.1
      have h2 : j < 1 := hb.2
      show M0 (116) (i) = V0 29 i j
      rw [M0_z (by omega) (by omega), V0_z (by omega) (by omega) (by omega)]
    | t + 30, hb => exact absurd hb.1 (Nat.not_lt_zero _)
  · rw [if_neg hb]
    by_cases h0 : (t = 2 ∨ t = 3 ∨ t = 7) ∧ i = 0 ∧ j = 0
    · exfalso
      obtain ⟨ht, e1, e2⟩ := h0
      subst e1; subst e2
      rcases ht with rfl | rfl | rfl
      · exact hb ⟨by decide, by decide⟩
      · exact hb ⟨by decide, by decide⟩
      · exact hb ⟨by decide, by decide⟩
    · unfold V0
      rw [if_neg (by omega), if_neg (by omega), if_neg (by omega)]
theorem VR0 : VR M0 = V0 := by
  funext t i j
  unfold VR
  by_cases hb : i < (bdv t).1 ∧ j < (bdv t).2
  · rw [if_pos hb]
    match t, hb with
    | 0, hb =>
      have h1 : i < 1 := hb.1
      have h2 : j < 1 := hb.2
      have e1 : i = 0 := by omega
      have e2 : j = 0 := by omega
      subst e1; subst e2
      rfl
    | 1, hb =>
      have h1 : i < 1 := hb.1
      have h2 : j < 1 := hb.2
      have e1 : i = 0 := by omega
      have e2 : j = 0 := by omega
      subst e1; subst e2
      rfl
    | 2, hb =>
      have h1 : i < 1 := hb.1
      have h2 : j < 1 := hb.2
      have e1 : i = 0 := by omega
      have e2 : j = 0 := by omega
      subst e1; subst e2
      rfl
    | 3, hb =>
      have h1 : i < 1 := hb.1
      have h2 : j < 1 := hb.2
      have e1 : i = 0 := by omega
      have e2 : j = 0 := by omega
      subst e1; subst e2
      rfl
    | 4, hb =>
      have h1 : i < 1 := hb.1
      have h2 : j < 1 := hb.2
      have e1 : i = 0 := by omega
      have e2 : j = 0 := by omega
      subst e1; subst e2
      rfl
    | 5, hb =>
      have h1 : i < 1 := hb.1
      have h2 : j < 1 := hb.2
      have e1 : i = 0 := by omega
      have e2 : j = 0 := by omega
      subst e1; subst e2
      rfl
    | 6, hb =>
      have h1 : i < 1 := hb.1
      have h2 : j < 1 := hb.2
      have e1 : i = 0 := by omega
      have e2 : j = 0 := by omega
      subst e1; subst e2
      rfl
    | 7, hb =>
      have h1 : i < 1 := hb.1
      have h2 : j < 1 := hb.2
      have e1 : i = 0 := by omega
      have e2 : j = 0 := by omega
      subst e1; subst e2
      rfl
    | 8, hb =>
      have h1 : i < 1 := hb.1
      have h2 : j < 1 := hb.2
      have e1 : i = 0 := by omega
      have e2 : j = 0 := by omega
      subst e1; subst e2
      rfl
    | 9, hb => exact absurd hb.1 (Nat.not_lt_zero _)
    | 10, hb =>
      have h1 : i < 4 := hb.1
      have h2 : j < 1 := hb.2
      show M0 (132) (i) = V0 10 i j
      rw [M0_z (by omega) (by omega), V0_z (by omega) (by omega) (by omega)]
    | 11, hb =>
      have h1 : i < 8 := hb.1
      have h2 : j < 1 := hb.2
      show M0 (119) (i) = V0 11 i j
      rw [M0_z (by omega) (by omega), V0_z (by omega) (by omega) (by omega)]
    | 12, hb =>
      have h1 : i < 8 := hb.1
      have h2 : j < 1 := hb.2
      show M0 (123) (i) = V0 12 i j
      rw [M0_z (by omega) (by omega), V0_z (by omega) (by omega) (by omega)]
    | 13, hb =>
      have h1 : i < 8 := hb.1
      have h2 : j < 1 := hb.2
      show M0 (121) (i) = V0 13 i j
      rw [M0_z (by omega) (by omega), V0_z (by omega) (by omega) (by omega)]
    | 14, hb =>
      have h1 : i < 8 := hb.1
      have h2 : j < 1 := hb.2
      show M0 (122) (i) = V0 14 i j
      rw [M0_z (by omega) (by omega), V0_z (by omega) (by omega) (by omega)]
    | 15, hb =>
      have h1 : i < 8 := hb.1
      have h2 : j < 20 := hb.2
      show M0 (124) (20 * i + j) = V0 15 i j
      rw [M0_z (by omega) (by omega), V0_z (by omega) (by omega) (by omega)]
    | 16, hb =>
      have h1 : i < 8 := hb.1
      have h2 : j < 20 := hb.2
      show M0 (125) (20 * i + j) = V0 16 i j
      rw [M0_z (by omega) (by omega), V0_z (by omega) (by omega) (by omega)]
    | 17, hb =>
      have h1 : i < 8 := hb.1
      have h2 : j < 20 := hb.2
      show M0 (126) (20 * i + j) = V0 17 i j
      rw [M0_z (by omega) (by omega), V0_z (by omega) (by omega) (by omega)]
    | 18, hb =>
      have h1 : i < 8 := hb.1
      have h2 : j < 20 := hb.2
      show M0 (127) (20 * i + j) = V0 18 i j
      rw [M0_z (by omega) (by omega), V0_z (by omega) (by omega) (by omega)]
    | 19, hb =>
      have h1 : i < 60 := hb.1
      have h2 : j < 1 := hb.2
      show M0 (128) (7 * i) = V0 19 i j
      rw [M0_z (by omega) (by omega), V0_z (by omega) (by omega) (by omega)]
    | 20, hb =>
      have h1 : i < 60 := hb.1
      have h2 : j < 1 := hb.2
      show M0 (128) (7 * i + 1) = V0 20 i j
      rw [M0_z (by omega) (by omega), V0_z (by omega) (by omega) (by omega)]
    | 21, hb =>
      have h1 : i < 60 := hb.1
      have h2 : j < 1 := hb.2
      show M0 (128) (7 * i + 2) = V0 21 i j
      rw [M0_z (by omega) (by omega), V0_z (by omega) (by omega) (by omega)]
    | 22, hb =>
      have h1 : i < 60 := hb.1
      have h2 : j < 1 := hb.2
      show M0 (128) (7 * i + 3) = V0 22 i j
      rw [M0_z (by omega) (by omega), V0_z (by omega) (by omega) (by omega)]
    | 23, hb => exact absurd hb.1 (Nat.not_lt_zero _)
    | 24, hb =>
      have h1 : i < 60 := hb.1
      have h2 : j < 1 := hb.2
      show M0 (128) (7 * i + 5) = V0 24 i j
      rw [M0_z (by omega) (by omega), V0_z (by omega) (by omega) (by omega)]
    | 25, hb =>
      have h1 : i < 60 := hb.1
      have h2 : j < 1 := hb.2
      show M0 (128) (7 * i + 6) = V0 25 i j
      rw [M0_z (by omega) (by omega), V0_z (by omega) (by omega) (by omega)]
    | 26, hb =>
      have h1 : i < 1 := hb.1
      have h2 : j < 1 := hb.2
      have e1 : i = 0 := by omega
      have e2 : j = 0 := by omega
      subst e1; subst e2
      rfl
    | 27, hb =>
      have h1 : i < 9 := hb.1
      have h2 : j < 1 := hb.2
      show M0 (137) (i) = V0 27 i j
      rw [M0_z (by omega) (by omega), V0_z (by omega) (by omega) (by omega)]
    | 28, hb =>
      have h1 : i < 9 := hb.1
      have h2 : j < 1 := hb.2
      show M0 (138) (i) = V0 28 i j
      rw [M0_z (by omega) (by omega), V0_z (by omega) (by omega) (by omega)]
    | 29, hb =>
      have h1 : i < 9 := hb.1
      have h2 : j < 1 := hb.2
      show M0 (139) (i) = V0 29 i j
      rw [M0_z (by omega) (by omega), V0_z (by omega) (by omega) (by omega)]
    | t + 30, hb => exact absurd hb.1 (Nat.not_lt_zero _)
  · rw [if_neg hb]
    by_cases h0 : (t = 2 ∨ t = 3 ∨ t = 7) ∧ i = 0 ∧ j = 0
    · exfalso
      obtain ⟨ht, e1, e2⟩ := h0
      subst e1; subst e2
      rcases ht with rfl | rfl | rfl
      · exact hb ⟨by decide, by decide⟩
      · exact hb ⟨by decide, by decide⟩
      · exact hb ⟨by decide, by decide⟩
    · unfold V0
      rw [if_neg (by omega), if_neg (by omega), if_neg (by omega)]
theorem cnt0 : ∀ n, cntD V0 n = 0 := by
  intro n
  induction n with
  | zero => rfl
  | succ n ih =>
    rw [cntD_s, ih, V0_z (by omega) (by omega) (by omega), if_neg (by decide)]
theorem n12 {c : Nat} (h : 0 < V0 12 c 0) : False := by
  rw [V0_z (by omega) (by omega) (by omega)] at h
  exact absurd h (by decide)
theorem rg0 {b : Int} (h : 0 ≤ b) : rg (0 : Int32) 0 b := by
  unfold rg
  rw [t0]
  omega
theorem Inv_0 : Inv 0 V0 := by
  refine ⟨⟨0, by omega, rfl⟩, fun c => ⟨0, by omega, V0_z (by omega) (by omega) (by omega)⟩, fun c w => ?_, ⟨⟨?_, ?_, ?_, fun c => ?_⟩, ?_⟩, ⟨?_, fun c hc => (n12 hc).elim⟩, ⟨rg0 (by omega), rg0 (by omega), Or.inl rfl, rg0 (by omega)⟩, fun c => ?_, ⟨0, by omega, rfl⟩, fun s hs => ?_, fun c hc hd => (n12 hd).elim, ⟨⟨0, by omega, rfl⟩, fun f => ?_⟩, ⟨0, by omega, rfl⟩⟩
  · rw [V0_z (by omega) (by omega) (by omega), V0_z (by omega) (by omega) (by omega), V0_z (by omega) (by omega) (by omega)]
    exact ⟨rg0 (by omega), rg0 (by omega), rg0 (by omega)⟩
  · show rg (500 : Int32) 0 2000
    have : (500 : Int32).toInt = 500 := rfl
    unfold rg
    rw [this]
    omega
  · show rg (2 : Int32) 0 20
    have : (2 : Int32).toInt = 2 := rfl
    unfold rg
    rw [this]
    omega
  · show (0 : Int32).toInt ≤ 1000000
    decide
  · rw [V0_z (by omega) (by omega) (by omega), V0_z (by omega) (by omega) (by omega)]
    exact rg0 (by rw [t0]; omega)
  · show (0 : Int32).toInt ≤ 100 * ((0 : Nat) : Int)
    decide
  · rw [cnt0]
    rfl
  · rw [V0_z (by omega) (by omega) (by omega)]
    exact rg0 (by omega)
  · have : ns V0 = 0 := rfl
    omega
  · rw [V0_z (by omega) (by omega) (by omega), V0_z (by omega) (by omega) (by omega), V0_z (by omega) (by omega) (by omega)]
    exact ⟨rg0 (by omega), rg0 (by omega), rg0 (by omega)⟩
theorem Ok_0 : Ok 0 M0 := by
  refine ⟨by omega, ⟨VC0.trans VR0.symm, fun c hc => ?_, fun k hk => ?_, fun s hs h0 => ?_⟩, by rw [VR0]; exact Inv_0⟩
  · rw [← rar_d M0 hc, VR0, V0_z (by omega) (by omega) (by omega), if_neg (by decide)]
    exact M0_z (by omega) (by omega)
  · rw [← rar_t M0 hk, ← rac_t M0 hk, M0_z (by omega) (by omega), M0_z (by omega) (by omega)]
    refine ⟨?_, by decide⟩
    unfold rg
    rw [t0]
    omega
  · rw [VR0, V0_z (by omega) (by omega) (by omega)] at h0
    exact absurd h0 (by decide)
