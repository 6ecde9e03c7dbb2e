/-! ===== the constructors, one by one ===== -/
section CC
variable {G : Gx} {n k : Nat} {ad : Nat → Nat} {S : Nat → SE} {ws : va_W} {Q : va_W → Prop} {a : Nat}
theorem Ag.le {n m : Nat} {a b : Nat → Nat} (h : Ag n a b) (hm : m ≤ n) : Ag m a b := fun k hk => h k (by omega)
abbrev zz : SF := some (.inr 0)
abbrev rf (r : Nat) : SF := some (.inl r)
theorem i_X5 (h : Stt (gc G) n ad (upS S k (.inl (5, [none, zz]))) ws) (hk : k < n) (ha : a = ad k) (hS : S n = .inr (.inl (1, 400))) (kk : ∀ ws' ad', Ag n ad ad' → Stt (gc G) (n + 1) ad' (upS S k (.inl (5, [rf n, zz]))) ws' → Q ws') : F_X5_init G a ws Q := t_AP h hk ha hS (by decide) kk
theorem i_X0 (h : Stt (gc G) n ad (upS S k (.inl (0, [none, none, none, none, zz, zz, zz, zz]))) ws) (hk : k < n) (ha : a = ad k) (hS0 : S n = .inr (.inl (1, 20))) (hS1 : S (n + 1) = .inr (.inl (1, 20))) (hS2 : S (n + 2) = .inr (.inl (1, 20))) (hS3 : S (n + 3) = .inr (.inl (2, 20))) (kk : ∀ ws' ad', Ag n ad ad' → Stt (gc G) (n + 4) ad' (upS S k (.inl (0, [rf n, rf (n + 1), rf (n + 2), rf (n + 3), zz, zz, zz, zz]))) ws' → Q ws') : F_X0_init G a ws Q := by
  refine t_AP h hk ha hS0 (Nat.le_of_ble_eq_true rfl) (fun w1 ad1 g1 h1 => ?_)
  have b1 : a = ad1 k := ha.trans (g1 k (by omega)).symm
  have c1 : Ag n ad ad1 := g1
  refine t_AP h1 (by omega) b1 hS1 (Nat.le_of_ble_eq_true rfl) (fun w2 ad2 g2 h2 => ?_)
  have b2 : a = ad2 k := b1.trans (g2 k (by omega)).symm
  have c2 : Ag n ad ad2 := c1.tr g2 (by omega)
  refine t_AP h2 (by omega) b2 hS2 (Nat.le_of_ble_eq_true rfl) (fun w3 ad3 g3 h3 => ?_)
  have b3 : a = ad3 k := b2.trans (g3 k (by omega)).symm
  have c3 : Ag n ad ad3 := c2.tr g3 (by omega)
  refine t_AP h3 (by omega) b3 hS3 (Nat.le_of_ble_eq_true rfl) (fun w4 ad4 g4 h4 => ?_)
  have b4 : a = ad4 k := b3.trans (g4 k (by omega)).symm
  have c4 : Ag n ad ad4 := c3.tr g4 (by omega)
  exact kk w4 ad4 c4 h4
theorem i_X2 (h : Stt (gc G) n ad (upS S k (.inl (2, [none, none, none]))) ws) (hk : k < n) (ha : a = ad k) (hS0 : S n = .inr (.inl (1, 4))) (hS1 : S (n + 1) = .inr (.inl (1, 4))) (hS2 : S (n + 2) = .inr (.inl (1, 4))) (kk : ∀ ws' ad', Ag n ad ad' → Stt (gc G) (n + 3) ad' (upS S k (.inl (2, [rf n, rf (n + 1), rf (n + 2)]))) ws' → Q ws') : F_X2_init G a ws Q := by
  refine t_AP h hk ha hS0 (Nat.le_of_ble_eq_true rfl) (fun w1 ad1 g1 h1 => ?_)
  have b1 : a = ad1 k := ha.trans (g1 k (by omega)).symm
  have c1 : Ag n ad ad1 := g1
  refine t_AP h1 (by omega) b1 hS1 (Nat.le_of_ble_eq_true rfl) (fun w2 ad2 g2 h2 => ?_)
  have b2 : a = ad2 k := b1.trans (g2 k (by omega)).symm
  have c2 : Ag n ad ad2 := c1.tr g2 (by omega)
  refine t_AP h2 (by omega) b2 hS2 (Nat.le_of_ble_eq_true rfl) (fun w3 ad3 g3 h3 => ?_)
  have b3 : a = ad3 k := b2.trans (g3 k (by omega)).symm
  have c3 : Ag n ad ad3 := c2.tr g3 (by omega)
  exact kk w3 ad3 c3 h3
theorem i_X1 (h : Stt (gc G) n ad (upS S k (.inl (1, [none, none, none, none, zz]))) ws) (hk : k < n) (ha : a = ad k) (hS0 : S n = .inr (.inl (1, 9))) (hS1 : S (n + 1) = .inr (.inl (1, 9))) (hS2 : S (n + 2) = .inr (.inl (1, 9))) (hS3 : S (n + 3) = .inr (.inl (1, 512))) (kk : ∀ ws' ad', Ag n ad ad' → Stt (gc G) (n + 4) ad' (upS S k (.inl (1, [rf n, rf (n + 1), rf (n + 2), rf (n + 3), zz]))) ws' → Q ws') : F_X1_init G a ws Q := by
  refine t_AP h hk ha hS0 (Nat.le_of_ble_eq_true rfl) (fun w1 ad1 g1 h1 => ?_)
  have b1 : a = ad1 k := ha.trans (g1 k (by omega)).symm
  have c1 : Ag n ad ad1 := g1
  refine t_AP h1 (by omega) b1 hS1 (Nat.le_of_ble_eq_true rfl) (fun w2 ad2 g2 h2 => ?_)
  have b2 : a = ad2 k := b1.trans (g2 k (by omega)).symm
  have c2 : Ag n ad ad2 := c1.tr g2 (by omega)
  refine t_AP h2 (by omega) b2 hS2 (Nat.le_of_ble_eq_true rfl) (fun w3 ad3 g3 h3 => ?_)
  have b3 : a = ad3 k := b2.trans (g3 k (by omega)).symm
  have c3 : Ag n ad ad3 := c2.tr g3 (by omega)
  refine t_AP h3 (by omega) b3 hS3 (Nat.le_of_ble_eq_true rfl) (fun w4 ad4 g4 h4 => ?_)
  have b4 : a = ad4 k := b3.trans (g4 k (by omega)).symm
  have c4 : Ag n ad ad4 := c3.tr g4 (by omega)
  exact kk w4 ad4 c4 h4
theorem i_X3 (h : Stt (gc G) 2 ad (upS S 1 (.inl (3, [none, none, zz, zz]))) ws) (ha : a = ad 1) (hS1 : S 1 = .inl (3, [rf 2, rf 4, zz, zz])) (hS2 : S 2 = .inl (5, [rf 3, zz])) (hS3 : S 3 = .inr (.inl (1, 400))) (hS4 : S 4 = .inr (.inl (1, 4))) (kk : ∀ ws' ad', Ag 2 ad ad' → Stt (gc G) 5 ad' S ws' → Q ws') : F_X3_init G a ws Q := by
  refine t_NO h [none, zz] rfl (fun r hr => by simp [zz] at hr) (fun q1 ws1 ad1 g1 e1 h1 => ⟨t_V h1 (k := 2) (by omega) e1.symm upS_e, ?_⟩)
  have b1 : a = ad1 1 := ha.trans (g1 1 (by omega)).symm
  refine i_X5 h1 (by omega) e1.symm (by rw [upS_n (by omega)]; exact hS3) (fun ws2 ad2 g2 h2 => ?_)
  have b2 : a = ad2 1 := b1.trans (g2 1 (by omega)).symm
  have h2' := h2.shut (by rw [upS_n (by omega)]; exact hS2)
  refine t_PP h2' (by omega) b2 (Nat.le_of_ble_eq_true rfl) (rf 2) (by show Value.ref q1 = Value.ref (ad2 2); rw [g2 2 (by omega), e1]) (fun r hr => by cases hr; omega) (fun ws3 h3 => ?_)
  refine t_AP h3 (by omega) b2 hS4 (Nat.le_of_ble_eq_true rfl) (fun ws4 ad4 g4 h4 => ?_)
  exact kk ws4 ad4 ((g1.tr g2 (by omega)).tr g4 (by omega)) (h4.shut hS1)
theorem Sf_C {i : Nat} (h : i < 8) : Sf (7 + 5 * i) = .inl (0, [rf (8 + 5 * i), rf (9 + 5 * i), rf (10 + 5 * i), rf (11 + 5 * i), zz, zz, zz, zz]) := by
  rw [Sf_o (fl_C h)]
  simp only [fsy]
  rw [M0_z (by omega) (by omega), M0_z (by omega) (by omega), M0_z (by omega) (by omega), M0_z (by omega) (by omega)]
theorem Sf_S {i : Nat} (h : i < 60) : Sf (48 + i) = .inl (4, [zz, zz, zz, zz, zz, zz, zz]) := by
  rw [Sf_o (fl_S h)]
  simp only [fsy]
  rw [M0_z (by omega) (by omega), M0_z (by omega) (by omega), M0_z (by omega) (by omega), M0_z (by omega) (by omega), M0_z (by omega) (by omega), M0_z (by omega) (by omega), M0_z (by omega) (by omega)]

abbrev o0L : List SF := [none, none, none, zz, none, zz, zz, zz, zz, zz, none, zz, zz, none, none, none]
abbrev oAL : List SF := [rf 1, rf 2, rf 5, some (.inr (-1)), rf 6, zz, zz, zz, zz, zz, none, zz, zz, none, none, none]
abbrev oBL : List SF := [rf 1, rf 2, rf 5, some (.inr (-1)), rf 6, zz, zz, some (.inr 500), some (.inr 2), zz, rf 47, zz, zz, none, none, none]
abbrev oCL : List SF := [rf 1, rf 2, rf 5, some (.inr (-1)), rf 6, zz, zz, some (.inr 500), some (.inr 2), zz, rf 47, zz, zz, rf 108, rf 112, rf 113]
theorem Sf_0 : Sf 0 = .inl (6, oCL) := rfl
def gC (i : Nat) : SE := .inr (.inr (3, 8, fun j => if j < i then some (7 + 5 * j) else none))
def gS (i : Nat) : SE := .inr (.inr (4, 60, fun j => if j < i then some (48 + j) else none))
theorem i_X6 (h : Stt (gc G) 1 ad (upS Sf 0 (.inl (6, o0L))) ws) (ha : a = ad 0) (kk : ∀ ws' ad', Ag 1 ad ad' → Stt (gc G) 118 ad' Sf ws' → Q ws') : F_X6_init G a ws Q := by
  intro J49 J97 hJ49 hJ97
  -- the shares and what is behind them
  have l97 : ∀ f j ad ws, 60 - j ≤ f → j ≤ 60 → a = ad 0 → (∀ ws' ad', Ag 1 ad ad' → Stt (gc G) 118 ad' Sf ws' → Q ws') → Stt (gc G) (48 + j) ad (upS (upS Sf 47 (gS j)) 0 (.inl (6, oBL))) ws → J97 (nI j) (47 + j) (1186 + 7 * j) ws := by
    intro f
    induction f with
    | zero =>
      intro j ad ws hf hj ha kk h
      have e60 : j = 60 := by omega
      subst e60
      apply hJ97
      refine br_t (by decide) ⟨⟨by omega, by omega⟩, ?_⟩
      have hg : Sf 47 = gS 60 := rfl
      have h0 := h.cg (S' := upS Sf 0 (.inl (6, oBL))) (fun i hi => by
        by_cases e0 : i = 0
        · rw [e0, upS_e, upS_e]
        · rw [upS_n e0, upS_n e0]
          by_cases e47 : i = 47
          · rw [e47, upS_e, hg]
          · rw [upS_n e47])
      refine t_NO h0 [none, none, none] rfl (fun r hr => by simp at hr) (fun q1 ws1 ad1 g1 e1 h1 => ⟨⟨by omega, by omega⟩, t_V h1 (k := 108) (by omega) e1.symm upS_e, ?_⟩)
      have b1 : a = ad1 0 := ha.trans (g1 0 (by omega)).symm
      refine i_X2 h1 (by omega) e1.symm rfl rfl rfl (fun ws2 ad2 g2 h2 => ?_)
      have b2 : a = ad2 0 := b1.trans (g2 0 (by omega)).symm
      have h2' := h2.shut (k := 108) rfl
      refine t_PP h2' (by omega) b2 (Nat.le_of_ble_eq_true rfl) (rf 108) (by show Value.ref q1 = Value.ref (ad2 108); rw [g2 108 (by omega), e1]) (fun r hr => by cases hr; omega) (fun ws3 h3 => ⟨⟨by omega, by omega⟩, ?_⟩)
      refine t_AP h3 (by omega) b2 rfl (Nat.le_of_ble_eq_true rfl) (fun ws4 ad4 g4 h4 => ⟨⟨by omega, by omega⟩, ?_⟩)
      have b4 : a = ad4 0 := b2.trans (g4 0 (by omega)).symm
      refine t_NO h4 [none, none, none, none, zz] rfl (fun r hr => by simp [zz] at hr) (fun q5 ws5 ad5 g5 e5 h5 => ⟨⟨by omega, by omega⟩, t_V h5 (k := 113) (by omega) e5.symm upS_e, ?_⟩)
      have b5 : a = ad5 0 := b4.trans (g5 0 (by omega)).symm
      refine i_X1 h5 (by omega) e5.symm rfl rfl rfl rfl (fun ws6 ad6 g6 h6 => ?_)
      have b6 : a = ad6 0 := b5.trans (g6 0 (by omega)).symm
      have h6' := h6.shut (k := 113) rfl
      refine t_PP h6' (by omega) b6 (Nat.le_of_ble_eq_true rfl) (rf 113) (by show Value.ref q5 = Value.ref (ad6 113); rw [g6 113 (by omega), e5]) (fun r hr => by cases hr; omega) (fun ws7 h7 => ⟨⟨by omega, by omega⟩, ?_⟩)
      refine kk ws7 ad6 (fun i hi => ?_) (h7.shut rfl)
      have : i = 0 := by omega
      subst this
      rw [← b6, ha]
    | succ f ih =>
      intro j ad ws hf hj ha kk h
      by_cases e60 : j = 60
      · exact ih j ad ws (by omega) hj ha kk h
      have hj60 : j < 60 := by omega
      apply hJ97
      refine br_f (nI_ge (b := 60) hj60 (by omega)) ?_
      refine t_R h (k := 0) (r := 47) (by omega) ha upS_e rfl ⟨⟨by omega, by omega⟩, ?_⟩
      refine t_NO h [zz, zz, zz, zz, zz, zz, zz] rfl (fun r hr => by simp [zz] at hr) (fun q1 ws1 ad1 g1 e1 h1 => ⟨⟨by omega, by omega⟩, t_V h1 (k := 48 + j) (by omega) e1.symm upS_e, ?_⟩)
      have b1 : a = ad1 0 := ha.trans (g1 0 (by omega)).symm
      have h1' := h1.shut (k := 48 + j) (by rw [upS_n (by omega), upS_n (by omega)]; exact Sf_S hj60)
      refine t_W h1' (k := 47) (k2 := 48 + j) (by omega) (g1 47 (by omega)).symm (by rw [upS_n (by omega)]; exact upS_e) hj60 (by omega) (by omega) e1.symm (by rw [upS_n (by omega), upS_n (by omega)]; exact Sf_S hj60) (fun ws2 h2 => ?_)
      rw [nI_1, show 47 + j + 1 = 47 + (j + 1) by omega, show 1186 + 7 * j + 7 = 1186 + 7 * (j + 1) by omega]
      refine ih (j + 1) ad1 ws2 (by omega) (by omega) b1 (fun ws' ad' g' => kk ws' ad' ((g1.le (by omega) : Ag 1 ad ad1).tr g' (by omega))) (h2.cg (fun i hi => ?_))
      by_cases e0 : i = 0
      · rw [e0, upS_e, upS_n (by omega), upS_e]
      · rw [upS_n e0]
        by_cases e47 : i = 47
        · rw [e47, upS_e, upS_e]
          unfold gS
          congr 4
          funext x
          by_cases ex : x = j
          · rw [ex, if_pos rfl, if_pos (by omega)]
          · rw [if_neg ex]
            by_cases hx : x < j
            · rw [if_pos hx, if_pos (by omega)]
            · rw [if_neg hx, if_neg (by omega)]
        · rw [upS_n e47, upS_n e47, upS_n e0, upS_n e47]
  -- the channels
  have l49 : ∀ f i ad ws, 8 - i ≤ f → i ≤ 8 → a = ad 0 → (∀ ws' ad', Ag 1 ad ad' → Stt (gc G) 118 ad' Sf ws' → Q ws') → Stt (gc G) (7 + 5 * i) ad (upS (upS Sf 6 (gC i)) 0 (.inl (6, oAL))) ws → J49 (nI i) (6 + 5 * i) (422 + 88 * i) ws := by
    intro f
    induction f with
    | zero =>
      intro i ad ws hf hi ha kk h
      have e8 : i = 8 := by omega
      subst e8
      apply hJ49
      have hg : Sf 6 = gC 8 := rfl
      have h0 := h.cg (S' := upS Sf 0 (.inl (6, oAL))) (fun i hi => by
        by_cases e0 : i = 0
        · rw [e0, upS_e, upS_e]
        · rw [upS_n e0, upS_n e0]
          by_cases e6 : i = 6
          · rw [e6, upS_e, hg]
          · rw [upS_n e6])
      refine br_t (by decide) ?_
      refine t_PP h0 (by omega) ha (Nat.le_of_ble_eq_true rfl) (some (.inr 500)) rfl (fun r hr => by cases hr) (fun ws1 h1 => ?_)
      refine t_PP h1 (by omega) ha (Nat.le_of_ble_eq_true rfl) (some (.inr 2)) rfl (fun r hr => by cases hr) (fun ws2 h2 => ⟨⟨by omega, by omega⟩, ?_⟩)
      refine t_NR h2 (fun q3 ws3 ad3 g3 e3 h3 => ?_)
      have b3 : a = ad3 0 := ha.trans (g3 0 (by omega)).symm
      refine t_PP (h3.swap (by omega)) (by omega) b3 (Nat.le_of_ble_eq_true rfl) (rf 47) (by show Value.ref q3 = Value.ref (ad3 47); rw [e3]) (fun r hr => by cases hr; omega) (fun ws4 h4 => ?_)
      exact l97 60 0 ad3 ws4 (by omega) (by omega) b3 (fun ws' ad' g' => kk ws' ad' ((g3.le (by omega) : Ag 1 ad ad3).tr g' (by omega))) (h4.cg (fun i hi => by
        by_cases e0 : i = 0
        · rw [e0, upS_e, upS_e]
          rfl
        · rw [upS_n e0, upS_n e0]
          by_cases e47 : i = 47
          · rw [e47, upS_e, upS_e]
            unfold gS
            congr 3
          · rw [upS_n e47, upS_n e47]))
    | succ f ih =>
      intro i ad ws hf hi ha kk h
      by_cases e8 : i = 8
      · exact ih i ad ws (by omega) hi ha kk h
      have hi8 : i < 8 := by omega
      apply hJ49
      refine br_f (nI_ge (b := 8) hi8 (by omega)) ?_
      refine t_R h (k := 0) (r := 6) (by omega) ha upS_e rfl ⟨⟨by omega, by omega⟩, ?_⟩
      refine t_NO h [none, none, none, none, zz, zz, zz, zz] rfl (fun r hr => by simp [zz] at hr) (fun q1 ws1 ad1 g1 e1 h1 => ⟨⟨by omega, by omega⟩, t_V h1 (k := 7 + 5 * i) (by omega) e1.symm upS_e, ?_⟩)
      have b1 : a = ad1 0 := ha.trans (g1 0 (by omega)).symm
      have sa : ∀ (x t N : Nat), x ≠ 0 → x ≠ 6 → AR x t N → (upS (upS Sf 6 (gC i)) 0 (.inl (6, oAL))) x = .inr (.inl (t, N)) := fun x t N h1 h2 h3 => by
        rw [upS_n h1, upS_n h2]
        exact Sf_a h3
      refine i_X0 h1 (by omega) e1.symm (sa _ _ _ (by omega) (by omega) (by rw [show 7 + 5 * i + 1 = 8 + 5 * i by omega]; exact ar_C0 hi8)) (sa _ _ _ (by omega) (by omega) (by rw [show 7 + 5 * i + 1 + 1 = 9 + 5 * i by omega]; exact ar_C1 hi8)) (sa _ _ _ (by omega) (by omega) (by rw [show 7 + 5 * i + 1 + 2 = 10 + 5 * i by omega]; exact ar_C2 hi8)) (sa _ _ _ (by omega) (by omega) (by rw [show 7 + 5 * i + 1 + 3 = 11 + 5 * i by omega]; exact ar_C3 hi8)) (fun ws2 ad2 g2 h2 => ?_)
      have b2 : a = ad2 0 := b1.trans (g2 0 (by omega)).symm
      have eC : Sf (7 + 5 * i) = .inl (0, [rf (7 + 5 * i + 1), rf (7 + 5 * i + 1 + 1), rf (7 + 5 * i + 1 + 2), rf (7 + 5 * i + 1 + 3), zz, zz, zz, zz]) := by
        rw [Sf_C hi8, show 7 + 5 * i + 1 = 8 + 5 * i by omega, show 8 + 5 * i + 1 = 9 + 5 * i by omega, show 8 + 5 * i + 2 = 10 + 5 * i by omega, show 8 + 5 * i + 3 = 11 + 5 * i by omega]
      have h2' := h2.shut (k := 7 + 5 * i) (by rw [upS_n (by omega), upS_n (by omega)]; exact eC)
      refine t_W h2' (k := 6) (k2 := 7 + 5 * i) (by omega) (by rw [g2 6 (by omega), g1 6 (by omega)]) (by rw [upS_n (by omega)]; exact upS_e) hi8 (by omega) (by omega) (by rw [g2 (7 + 5 * i) (by omega), e1]) (by rw [upS_n (by omega), upS_n (by omega)]; exact eC) (fun ws3 h3 => ?_)
      rw [nI_1, show 6 + 5 * i + 5 = 6 + 5 * (i + 1) by omega, show 422 + 88 * i + 88 = 422 + 88 * (i + 1) by omega]
      have h3' : Stt (gc G) (7 + 5 * (i + 1)) ad2 _ ws3 := h3
      refine ih (i + 1) ad2 ws3 (by omega) (by omega) b2 (fun ws' ad' g' => kk ws' ad' (((g1.le (by omega) : Ag 1 ad ad1).tr (g2.le (by omega) : Ag 1 ad1 ad2) (by omega)).tr g' (by omega))) (h3'.cg (fun x hx => ?_))
      by_cases e0 : x = 0
      · rw [e0, upS_e, upS_n (by omega), upS_e]
      · rw [upS_n e0]
        by_cases e6 : x = 6
        · rw [e6, upS_e, upS_e]
          unfold gC
          congr 4
          funext y
          by_cases ey : y = i
          · rw [ey, if_pos rfl, if_pos (by omega)]
          · rw [if_neg ey]
            by_cases hy : y < i
            · rw [if_pos hy, if_pos (by omega)]
            · rw [if_neg hy, if_neg (by omega)]
        · rw [upS_n e6, upS_n e6, upS_n e0, upS_n e6]
  -- the beginning
  refine t_NO h [none, none, zz, zz] rfl (fun r hr => by simp [zz] at hr) (fun q1 ws1 ad1 g1 e1 h1 => ⟨t_V h1 (k := 1) (by omega) e1.symm upS_e, ?_⟩)
  have b1 : a = ad1 0 := ha.trans (g1 0 (by omega)).symm
  refine i_X3 h1 e1.symm rfl rfl rfl rfl (fun ws2 ad2 g2 h2 => ?_)
  have b2 : a = ad2 0 := b1.trans (g2 0 (by omega)).symm
  refine t_PP h2 (by omega) b2 (Nat.le_of_ble_eq_true rfl) (rf 1) (by show Value.ref q1 = Value.ref (ad2 1); rw [g2 1 (by omega), e1]) (fun r hr => by cases hr; omega) (fun ws3 h3 => ?_)
  refine t_R h3 (k := 0) (r := 1) (by omega) b2 upS_e rfl (t_R h3 (k := 1) (r := 2) (by omega) rfl (show upS Sf 0 _ 1 = .inl (3, [rf 2, rf 4, zz, zz]) from rfl) rfl ?_)
  refine t_PP h3 (by omega) b2 (Nat.le_of_ble_eq_true rfl) (rf 2) rfl (fun r hr => by cases hr; omega) (fun ws4 h4 => ?_)
  refine t_AP h4 (by omega) b2 rfl (Nat.le_of_ble_eq_true rfl) (fun ws5 ad5 g5 h5 => ?_)
  have b5 : a = ad5 0 := b2.trans (g5 0 (by omega)).symm
  refine t_PP h5 (by omega) b5 (Nat.le_of_ble_eq_true rfl) (some (.inr (-1))) rfl (fun r hr => by cases hr) (fun ws6 h6 => ?_)
  refine t_NR h6 (fun q7 ws7 ad7 g7 e7 h7 => ?_)
  have b7 : a = ad7 0 := b5.trans (g7 0 (by omega)).symm
  refine t_PP (h7.swap (by omega)) (by omega) b7 (Nat.le_of_ble_eq_true rfl) (rf 6) (by show Value.ref q7 = Value.ref (ad7 6); rw [e7]) (fun r hr => by cases hr; omega) (fun ws8 h8 => ?_)
  refine l49 8 0 ad7 ws8 (by omega) (by omega) b7 (fun ws' ad' g' => kk ws' ad' (fun i hi => ?_)) (h8.cg (fun i hi => by
    by_cases e0 : i = 0
    · rw [e0, upS_e, upS_e]
      rfl
    · rw [upS_n e0, upS_n e0]
      by_cases e6 : i = 6
      · rw [e6, upS_e, upS_e]
        unfold gC
        congr 3
      · rw [upS_n e6, upS_n e6]))
  have : i = 0 := by omega
  subst this
  rw [g' 0 (by omega), ← b7, ha]

abbrev m0L : List SF := [zz, zz, zz, zz, zz, none, none, none, none, none, zz, zz, none, none, none, none, none, zz, none, none, none, none, none, none, zz, zz, zz, zz, zz, none, none, none, none, none, zz, none]
theorem i_X7 (h : Stt (gc G) 119 ad (upS Sf 118 (.inl (7, m0L))) ws) (ha : a = ad 118) (kk : ∀ ws' ad', Ag 119 ad ad' → Stt (gc G) 141 ad' Sf ws' → Q ws') : F_X7_init G a ws Q := by
  refine t_PP h (by omega) ha (Nat.le_of_ble_eq_true rfl) (some (.inr 500)) rfl (fun r hr => by cases hr) (fun v1 h1 => ?_)
  refine t_PP h1 (by omega) ha (Nat.le_of_ble_eq_true rfl) (some (.inr 2)) rfl (fun r hr => by cases hr) (fun v2 h2 => ?_)
  refine t_AP h2 (by omega) ha rfl (Nat.le_of_ble_eq_true rfl) (fun w0 ad0 g0 k0 => ?_)
  have b0 : a = ad0 118 := ha.trans (g0 118 (by omega)).symm
  have c0 : Ag 119 ad ad0 := g0
  refine t_AP k0 (by omega) b0 rfl (Nat.le_of_ble_eq_true rfl) (fun w1 ad1 g1 k1 => ?_)
  have b1 : a = ad1 118 := b0.trans (g1 118 (by omega)).symm
  have c1 : Ag 119 ad ad1 := c0.tr g1 (by omega)
  refine t_AP k1 (by omega) b1 rfl (Nat.le_of_ble_eq_true rfl) (fun w2 ad2 g2 k2 => ?_)
  have b2 : a = ad2 118 := b1.trans (g2 118 (by omega)).symm
  have c2 : Ag 119 ad ad2 := c1.tr g2 (by omega)
  refine t_AP k2 (by omega) b2 rfl (Nat.le_of_ble_eq_true rfl) (fun w3 ad3 g3 k3 => ?_)
  have b3 : a = ad3 118 := b2.trans (g3 118 (by omega)).symm
  have c3 : Ag 119 ad ad3 := c2.tr g3 (by omega)
  refine t_AP k3 (by omega) b3 rfl (Nat.le_of_ble_eq_true rfl) (fun w4 ad4 g4 k4 => ?_)
  have b4 : a = ad4 118 := b3.trans (g4 118 (by omega)).symm
  have c4 : Ag 119 ad ad4 := c3.tr g4 (by omega)
  refine t_AP k4 (by omega) b4 rfl (Nat.le_of_ble_eq_true rfl) (fun w5 ad5 g5 k5 => ?_)
  have b5 : a = ad5 118 := b4.trans (g5 118 (by omega)).symm
  have c5 : Ag 119 ad ad5 := c4.tr g5 (by omega)
  refine t_AP k5 (by omega) b5 rfl (Nat.le_of_ble_eq_true rfl) (fun w6 ad6 g6 k6 => ?_)
  have b6 : a = ad6 118 := b5.trans (g6 118 (by omega)).symm
  have c6 : Ag 119 ad ad6 := c5.tr g6 (by omega)
  refine t_AP k6 (by omega) b6 rfl (Nat.le_of_ble_eq_true rfl) (fun w7 ad7 g7 k7 => ?_)
  have b7 : a = ad7 118 := b6.trans (g7 118 (by omega)).symm
  have c7 : Ag 119 ad ad7 := c6.tr g7 (by omega)
  refine t_AP k7 (by omega) b7 rfl (Nat.le_of_ble_eq_true rfl) (fun w8 ad8 g8 k8 => ?_)
  have b8 : a = ad8 118 := b7.trans (g8 118 (by omega)).symm
  have c8 : Ag 119 ad ad8 := c7.tr g8 (by omega)
  refine t_AP k8 (by omega) b8 rfl (Nat.le_of_ble_eq_true rfl) (fun w9 ad9 g9 k9 => ?_)
  have b9 : a = ad9 118 := b8.trans (g9 118 (by omega)).symm
  have c9 : Ag 119 ad ad9 := c8.tr g9 (by omega)
  refine t_AP k9 (by omega) b9 rfl (Nat.le_of_ble_eq_true rfl) (fun w10 ad10 g10 k10 => ?_)
  have b10 : a = ad10 118 := b9.trans (g10 118 (by omega)).symm
  have c10 : Ag 119 ad ad10 := c9.tr g10 (by omega)
  refine t_AP k10 (by omega) b10 rfl (Nat.le_of_ble_eq_true rfl) (fun w11 ad11 g11 k11 => ?_)
  have b11 : a = ad11 118 := b10.trans (g11 118 (by omega)).symm
  have c11 : Ag 119 ad ad11 := c10.tr g11 (by omega)
  refine t_AP k11 (by omega) b11 rfl (Nat.le_of_ble_eq_true rfl) (fun w12 ad12 g12 k12 => ?_)
  have b12 : a = ad12 118 := b11.trans (g12 118 (by omega)).symm
  have c12 : Ag 119 ad ad12 := c11.tr g12 (by omega)
  refine t_AP k12 (by omega) b12 rfl (Nat.le_of_ble_eq_true rfl) (fun w13 ad13 g13 k13 => ?_)
  have b13 : a = ad13 118 := b12.trans (g13 118 (by omega)).symm
  have c13 : Ag 119 ad ad13 := c12.tr g13 (by omega)
  refine t_AP k13 (by omega) b13 rfl (Nat.le_of_ble_eq_true rfl) (fun w14 ad14 g14 k14 => ?_)
  have b14 : a = ad14 118 := b13.trans (g14 118 (by omega)).symm
  have c14 : Ag 119 ad ad14 := c13.tr g14 (by omega)
  refine t_AP k14 (by omega) b14 rfl (Nat.le_of_ble_eq_true rfl) (fun w15 ad15 g15 k15 => ?_)
  have b15 : a = ad15 118 := b14.trans (g15 118 (by omega)).symm
  have c15 : Ag 119 ad ad15 := c14.tr g15 (by omega)
  refine t_PP k15 (by omega) b15 (Nat.le_of_ble_eq_true rfl) (some (.inr (-1))) rfl (fun r hr => by cases hr) (fun v3 h3 => ?_)
  refine t_AP h3 (by omega) b15 rfl (Nat.le_of_ble_eq_true rfl) (fun w16 ad16 g16 k16 => ?_)
  have b16 : a = ad16 118 := b15.trans (g16 118 (by omega)).symm
  have c16 : Ag 119 ad ad16 := c15.tr g16 (by omega)
  refine t_AP k16 (by omega) b16 rfl (Nat.le_of_ble_eq_true rfl) (fun w17 ad17 g17 k17 => ?_)
  have b17 : a = ad17 118 := b16.trans (g17 118 (by omega)).symm
  have c17 : Ag 119 ad ad17 := c16.tr g17 (by omega)
  refine t_AP k17 (by omega) b17 rfl (Nat.le_of_ble_eq_true rfl) (fun w18 ad18 g18 k18 => ?_)
  have b18 : a = ad18 118 := b17.trans (g18 118 (by omega)).symm
  have c18 : Ag 119 ad ad18 := c17.tr g18 (by omega)
  refine t_AP k18 (by omega) b18 rfl (Nat.le_of_ble_eq_true rfl) (fun w19 ad19 g19 k19 => ?_)
  have b19 : a = ad19 118 := b18.trans (g19 118 (by omega)).symm
  have c19 : Ag 119 ad ad19 := c18.tr g19 (by omega)
  refine t_AP k19 (by omega) b19 rfl (Nat.le_of_ble_eq_true rfl) (fun w20 ad20 g20 k20 => ?_)
  have b20 : a = ad20 118 := b19.trans (g20 118 (by omega)).symm
  have c20 : Ag 119 ad ad20 := c19.tr g20 (by omega)
  refine t_AP k20 (by omega) b20 rfl (Nat.le_of_ble_eq_true rfl) (fun w21 ad21 g21 k21 => ?_)
  have b21 : a = ad21 118 := b20.trans (g21 118 (by omega)).symm
  have c21 : Ag 119 ad ad21 := c20.tr g21 (by omega)
  exact kk w21 ad21 c21 (k21.shut rfl)
end CC
