/-! ===== ranges: where the class's arithmetic is the reference's ===== -/
def rg (x : Int32) (a b : Int) : Prop := a ≤ x.toInt ∧ x.toInt ≤ b
theorem rg_nI {x : Int32} {n : Nat} (h : rg x 0 n) (hn : n < 2 ^ 31) : ∃ j, j ≤ n ∧ x = nI j := by
  refine nI_of2 (nI_toInt hn) (by rw [i32_lt]; have := h.1; simp only [Int32.toInt_zero]; omega) (by rw [i32_le, nI_toInt hn]; exact h.2)
theorem nI_rg {j n : Nat} (h : j ≤ n) (hn : n < 2 ^ 31) : rg (nI j) 0 n := by
  unfold rg
  rw [nI_toInt (by omega)]
  omega
theorem t0 : (0 : Int32).toInt = 0 := rfl
theorem t5 : (5 : Int32).toInt = 5 := rfl
theorem t10 : (10 : Int32).toInt = 10 := rfl
theorem t30 : (30 : Int32).toInt = 30 := rfl
theorem t50 : (50 : Int32).toInt = 50 := rfl
theorem abs_rg {p : Int32} {n : Int} (hn : n < 2147483648) (h : rg p (-n) n) : rg (if 0 ≤ p then p else 0 - p) 0 n := by
  unfold rg at h ⊢
  by_cases h0 : 0 ≤ p
  · rw [if_pos h0]; rw [i32_le, t0] at h0; omega
  · rw [if_neg h0]; rw [i32_le, t0] at h0
    have : (0 - p).toInt = 0 - p.toInt := sub_toInt (by rw [t0]; omega)
    rw [this]; omega
theorem mx_rg {p q : Int32} {a b : Int} (hp : a ≤ p.toInt ∧ p.toInt ≤ b) (hq : q.toInt ≤ b) : rg (mxV p q) a b := by
  unfold rg mxV
  by_cases h : p < q
  · rw [if_pos h]; rw [i32_lt] at h; omega
  · rw [if_neg h]; omega
theorem st_rg {a b c d : Int32} (ha : rg a 0 100) (hb : rg b 0 100) (hc : rg c 0 100) (hd : rg d 0 100) : rg (stV a b c d) 0 100 := by
  have e1 : (a - c).toInt = a.toInt - c.toInt := sub_toInt (by unfold rg at *; omega)
  have e2 : (b - d).toInt = b.toInt - d.toInt := sub_toInt (by unfold rg at *; omega)
  have h1 := abs_rg (p := a - c) (n := 100) (by omega) (by unfold rg at *; omega)
  have h2 := abs_rg (p := b - d) (n := 100) (by omega) (by unfold rg at *; omega)
  exact mx_rg h1 h2.2
def I15 (V : Vw) : Prop := ∀ c w, rg (V 15 c w) 0 100 ∧ rg (V 16 c w) 0 100 ∧ rg (V 17 c w) 0 1000
def I4 (V : Vw) : Prop := rg (V 2 0 0) 0 2000 ∧ rg (V 3 0 0) 0 20 ∧ (V 4 0 0).toInt ≤ 1000000 ∧ ∀ c, rg (V 13 c 0) 0 (V 4 0 0).toInt
theorem drA_rg {V : Vw} (h : I15 V) {c : Nat} {x y : Int32} (hx : rg x 0 100) (hy : rg y 0 100) : ∀ n, rg (drA V c x y n) 0 30 := by
  intro n
  induction n with
  | zero => exact ⟨Int.le_refl _, show (0 : Int32).toInt ≤ 30 by decide⟩
  | succ n ih =>
    have hs := st_rg hx hy (h c n).1 (h c n).2.1
    have e : (30 - stV x y (V 15 c n) (V 16 c n)).toInt = 30 - (stV x y (V 15 c n) (V 16 c n)).toInt := sub_toInt (by rw [t30]; unfold rg at hs; omega)
    exact mx_rg ih (by rw [e]; unfold rg at hs; omega)
theorem drV_rg {V : Vw} (h : I15 V) (h4 : I4 V) {c : Nat} {x y : Int32} (hx : rg x 0 100) (hy : rg y 0 100) : rg (drV V c x y) 0 30 := by
  have hd := drA_rg h (c := c) hx hy (rV V c)
  obtain ⟨-, -, hy4, h13⟩ := h4
  have h13 := h13 c
  unfold drV
  by_cases h5 : 5 ≤ V 4 0 0 - V 13 c 0
  · rw [if_pos h5]; exact hd
  · rw [if_neg h5]
    have e : (V 4 0 0 - V 13 c 0).toInt = (V 4 0 0).toInt - (V 13 c 0).toInt := sub_toInt (by unfold rg at h13; omega)
    rw [i32_le, t5, e] at h5
    obtain ⟨j, hj, ej⟩ := rg_nI (n := 30) hd (by omega)
    obtain ⟨a, ha, ea⟩ := rg_nI (x := V 4 0 0 - V 13 c 0) (n := 4) (by unfold rg at h13 ⊢; rw [e]; omega) (by omega)
    rw [ej, ea, pk_mul, show (5 : Int32) = nI 5 from rfl]
    have hja : j * a ≤ 30 * 4 := Nat.mul_le_mul hj ha
    rw [pk_div (by omega) (by omega) (by omega)]
    exact nI_rg (n := 30) (by omega) (by omega)
theorem tbA_rg {V : Vw} (h : I15 V) (h4 : I4 V) {c : Nat} {x y u z : Int32} (hx : rg x 0 100) (hy : rg y 0 100) (hz : rg z 0 4000) : ∀ k : Nat, k ≤ 8 → rg (tbA V c x y u z k) (- (30 * (k : Int))) 4000 := by
  intro k
  induction k with
  | zero => intro _; simp only [tbA]; exact ⟨by have := hz.1; omega, hz.2⟩
  | succ k ih =>
    intro hk
    have := ih (by omega)
    simp only [tbA]
    split
    · unfold rg at *; omega
    · have hd := drV_rg h h4 (c := k) hx hy
      have e : (tbA V c x y u z k - drV V k x y).toInt = (tbA V c x y u z k).toInt - (drV V k x y).toInt := sub_toInt (by unfold rg at *; omega)
      unfold rg at *
      rw [e]; omega
theorem tbV_rg {V : Vw} (h : I15 V) (h4 : I4 V) (h0 : I0 V) {c w : Nat} {u : Int32} : rg (tbV V c w u) (-240) 4000 := by
  obtain ⟨n, hn, e⟩ := h0
  unfold tbV
  rw [e, nI_clamp (by omega)]
  have hm : 0 ≤ (V 3 0 0).toInt * (V 15 c w).toInt ∧ (V 3 0 0).toInt * (V 15 c w).toInt ≤ 20 * 100 := ⟨Int.mul_nonneg h4.2.1.1 (h c w).1.1, Int.mul_le_mul h4.2.1.2 (h c w).1.2 (h c w).1.1 (by omega)⟩
  have e1 : (V 3 0 0 * V 15 c w).toInt = (V 3 0 0).toInt * (V 15 c w).toInt := mul_toInt (by omega)
  have h2 := h4.1
  have e2 : (V 2 0 0 + V 3 0 0 * V 15 c w).toInt = (V 2 0 0).toInt + (V 3 0 0 * V 15 c w).toInt := add_toInt (by unfold rg at h2; omega)
  have := tbA_rg h h4 (c := c) (u := u) (z := V 2 0 0 + V 3 0 0 * V 15 c w) (h c w).1 (h c w).2.1 (by unfold rg at h2 ⊢; omega) n hn
  unfold rg at this ⊢
  omega
theorem div10_neg {d : Int32} (h : d.toInt ≤ 0) : (d / 10).toInt ≤ 0 := by
  rw [Int32.toInt_div, t10]
  have e : d.toInt.tdiv 10 = - ((- d.toInt) / 10) := by
    rw [← Int.tdiv_eq_ediv_of_nonneg (by omega), Int.neg_tdiv, Int.neg_neg]
  have h3 := Int32.le_toInt d
  rw [e]
  rw [Int.bmod_eq_of_le (by omega) (by omega)]
  omega
theorem seC_eq {V : Vw} (h : I15 V) (h4 : I4 V) (h0 : I0 V) (c w : Nat) (u : Int32) : seC V c w u = seV V c w u := by
  have ht := tbV_rg h h4 h0 (c := c) (w := w) (u := u)
  have hf := (h c w).2.2
  unfold seC seV
  generalize tbV V c w u = t at *
  generalize V 17 c w = f at *
  have e : (t - f).toInt = t.toInt - f.toInt := sub_toInt (by unfold rg at *; omega)
  by_cases hlt : f < t
  · rw [if_pos hlt]
    rw [i32_lt] at hlt
    obtain ⟨j, hj, ej⟩ := rg_nI (x := t - f) (n := 4000) (by unfold rg at *; rw [e]; omega) (by omega)
    rw [ej, show (10 : Int32) = nI 10 from rfl, pk_div (by omega) (by omega) (by omega)]
    by_cases h50 : nI (j / 10) < 50
    · rw [if_pos h50]
      by_cases hp : 0 < nI (j / 10)
      · rw [if_pos hp]
      · rw [if_neg hp]
        rw [i32_lt, t0, nI_toInt (by omega)] at hp
        have : j / 10 = 0 := by omega
        rw [this]; rfl
    · rw [if_neg h50]; rfl
  · rw [if_neg hlt]
    rw [i32_lt] at hlt
    have hd := div10_neg (d := t - f) (by rw [e]; omega)
    rw [if_pos (show (t - f) / 10 < 50 by rw [i32_lt, t50]; omega)]
    rw [if_neg (by rw [i32_lt, t0]; omega)]
/-- who was dug when: an order is below the number of the dug, and that at most 8 -/
noncomputable def cntD (V : Vw) (n : Nat) : Nat := Nat.rec (motive := fun _ => Nat) 0 (fun c a => a + if 0 < V 12 c 0 then 1 else 0) n
theorem cntD_s (V : Vw) (c : Nat) : cntD V (c + 1) = cntD V c + if 0 < V 12 c 0 then 1 else 0 := rfl
def I14 (V : Vw) : Prop := V 1 0 0 = nI (cntD V 8) ∧ ∀ c, 0 < V 12 c 0 → rg (V 14 c 0) 0 ((cntD V 8 : Int) - 1)
theorem cntD_le (V : Vw) : ∀ n, cntD V n ≤ n := by
  intro n
  induction n with
  | zero => exact Nat.le_refl _
  | succ n ih => rw [cntD_s]; split <;> omega
theorem tbA_u {V : Vw} {u u' : Int32} (hu : ∀ k, 0 < V 12 k 0 → (u < V 14 k 0 ↔ u' < V 14 k 0)) (c : Nat) (x y z : Int32) : ∀ k, tbA V c x y u z k = tbA V c x y u' z k := by
  intro k
  induction k with
  | zero => rfl
  | succ k ih =>
    simp only [tbA]
    rw [ih]
    by_cases hd : 0 < V 12 k 0
    · by_cases hk : u < V 14 k 0
      · rw [if_pos (Or.inr (Or.inr hk)), if_pos (Or.inr (Or.inr ((hu k hd).mp hk)))]
      · have hk' : ¬ u' < V 14 k 0 := fun h => hk ((hu k hd).mpr h)
        by_cases hc : k = c
        · rw [if_pos (Or.inl hc), if_pos (Or.inl hc)]
        · rw [if_neg (by intro h; rcases h with h | h | h; exact hc h; exact h hd; exact hk h), if_neg (by intro h; rcases h with h | h | h; exact hc h; exact h hd; exact hk' h)]
    · rw [if_pos (Or.inr (Or.inl hd)), if_pos (Or.inr (Or.inl hd))]
theorem seV_u {V : Vw} {u u' : Int32} (hu : ∀ k, 0 < V 12 k 0 → (u < V 14 k 0 ↔ u' < V 14 k 0)) (c w : Nat) : seV V c w u = seV V c w u' := by
  have e : tbV V c w u = tbV V c w u' := tbA_u hu _ _ _ _ _
  unfold seV
  rw [e]
theorem flV_u {V : Vw} {u u' : Int32} (hu : ∀ k, 0 < V 12 k 0 → (u < V 14 k 0 ↔ u' < V 14 k 0)) (c : Nat) : flV V c u = flV V c u' := by
  unfold flV
  generalize rV V c = r
  suffices ∀ k, flA V c u r k = flA V c u' r k from this r
  intro k
  induction k with
  | zero => rfl
  | succ k ih =>
    by_cases hl : lkV V c (r - (k + 1))
    · rw [flA_y hl, flA_y hl, ih, seV_u hu]
    · rw [flA_n hl, flA_n hl, ih, seV_u hu]
theorem ord8 {V : Vw} (h : I14 V) : ∀ k, 0 < V 12 k 0 → (V 1 0 0 < V 14 k 0 ↔ (8 : Int32) < V 14 k 0) := by
  intro k hk
  have h1 := h.2 k hk
  have h2 := cntD_le V 8
  have e : (V 1 0 0).toInt = (cntD V 8 : Int) := by rw [h.1]; exact nI_toInt (by omega)
  have e8 : (8 : Int32).toInt = 8 := rfl
  rw [i32_lt, i32_lt, e, e8]
  unfold rg at h1
  omega
