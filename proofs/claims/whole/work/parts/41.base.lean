/-! ===== small rows of the pure part ===== -/
theorem dn {P : Nat → Prop} : ∀ n, (∀ i, i < n → P (i + 1) → P i) → P n → P 0 := by
  intro n
  induction n with
  | zero => intro _ h; exact h
  | succ n ih => intro hs h; exact ih (fun i hi => hs i (by omega)) (hs n (by omega) h)
theorem ix20 (c x : Nat) : (20 : Int32) * nI c + nI x = nI (20 * c + x) := by
  rw [show (20 : Int32) = nI 20 from rfl, pk_mul, nI_add]
theorem ix20a (c : Nat) : (20 : Int32) * nI c = nI (20 * c) := by
  rw [show (20 : Int32) = nI 20 from rfl, pk_mul]
theorem ix7a (c : Nat) : (7 : Int32) * nI c = nI (7 * c) := by
  rw [show (7 : Int32) = nI 7 from rfl, pk_mul]
theorem ix7 (c x : Nat) : (7 : Int32) * nI c + nI x = nI (7 * c + x) := by
  rw [ix7a, nI_add]
theorem nI_m1 (m : Nat) : nI (m + 1) - 1 = nI m := nI_pred m
theorem nI_ltz {m : Nat} : m = 0 → nI m - 1 < 0 := by intro h; subst h; decide
/-- an index into n: below 0, behind, or a number -/
theorem ix_cases (p : Int32) {n : Nat} (hn : n < 2 ^ 31) {A : Prop} (h1 : (p < 0 ∨ nI n ≤ p) → A) (h2 : ∀ c, c < n → p = nI c → A) : A := by
  rcases pk_ix p hn with h | h | ⟨c, hc, e⟩
  · exact h1 (Or.inl h)
  · exact h1 (Or.inr h)
  · exact h2 c hc e
theorem i32_lt {a b : Int32} : a < b ↔ a.toInt < b.toInt := Int32.lt_iff_toInt_lt
theorem i32_le {a b : Int32} : a ≤ b ↔ a.toInt ≤ b.toInt := Int32.le_iff_toInt_le
theorem i32_eq {a b : Int32} : a = b ↔ a.toInt = b.toInt := Int32.toInt_inj.symm
theorem nI_rng {x : Int32} {n : Nat} (hn : n < 2 ^ 31) (h0 : 0 ≤ x) (h : x ≤ nI n) : ∃ j, j ≤ n ∧ x = nI j := nI_of2 (nI_toInt hn) (by rw [i32_lt]; rw [i32_le] at h0; omega) h
/-- an int between two others, neither of the ends overflowing -/
theorem sub_toInt {a b : Int32} (h : -2147483648 ≤ a.toInt - b.toInt ∧ a.toInt - b.toInt < 2147483648) : (a - b).toInt = a.toInt - b.toInt := by
  rw [Int32.toInt_sub]
  rw [Int.bmod_eq_of_le (by omega) (by omega)]
theorem add_toInt {a b : Int32} (h : -2147483648 ≤ a.toInt + b.toInt ∧ a.toInt + b.toInt < 2147483648) : (a + b).toInt = a.toInt + b.toInt := by
  rw [Int32.toInt_add]
  rw [Int.bmod_eq_of_le (by omega) (by omega)]
theorem mul_toInt {a b : Int32} (h : -2147483648 ≤ a.toInt * b.toInt ∧ a.toInt * b.toInt < 2147483648) : (a * b).toInt = a.toInt * b.toInt := by
  rw [Int32.toInt_mul]
  rw [Int.bmod_eq_of_le (by omega) (by omega)]
theorem gt1 (p n : Int32) (h0 : ¬ p < 0) (h1 : p < n) (h2 : n ≤ 8) : ¬ (n - 1 < p) := by grind
theorem gt2 (p n : Int32) (h0 : ¬ p < 0) (h2 : 0 ≤ n) (h3 : n ≤ 8) (h1 : ¬ (n - 1 < p)) : p < n := by grind
theorem gt3 (a b d : Int32) (h1 : 0 ≤ a) (h2 : a ≤ 1000) (h3 : 0 ≤ b) (h4 : b ≤ 1000) (h5 : 0 ≤ d) (h6 : d ≤ 1000) : (d ≤ a - b) ↔ (b + d ≤ a) := by grind
theorem thr0 {M : Mem} {n : Int32} {Q : Int32 → Mem → Prop} (h : Q 0 M) : P_X7_throwsIf 0 n M Q := br_t rfl ⟨Or.inl rfl, h⟩
theorem thr1 {M : Mem} {n : Int32} {Q : Int32 → Mem → Prop} (h : pW 118 0 n M (fun M1 => Q 1 M1)) : P_X7_throwsIf 1 n M Q := br_f (by decide) (show ((1 : Int32) = 0 ∨ (1 : Int32) = 1) ∧ Q 1 (mup M 118 0 n) from ⟨Or.inr rfl, h⟩)
theorem in1 {M : Mem} {p a b : Int32} {Q : Int32 → Mem → Prop} (h1 : ¬ p < a) (h2 : ¬ b < p) (h : Q 1 M) : P_X7_in p a b M Q := br_f h1 (br_f h2 h)
theorem in0 {M : Mem} {p a b : Int32} {Q : Int32 → Mem → Prop} (h1 : p < a ∨ b < p) (h : Q 0 M) : P_X7_in p a b M Q := br_c (fun _ => h) (fun h2 => br_c (fun _ => h) (fun h3 => (h1.elim (fun a => absurd a h2) (fun a => absurd a h3))))
theorem wi1 {M : Mem} {p a b : Int32} {Q : Int32 → Mem → Prop} (h1 : ¬ p < a) (h2 : ¬ b < p) (h : Q 1 M) : P_X6_isWithin p a b M Q := br_f h1 (br_f h2 h)
theorem wi0 {M : Mem} {p a b : Int32} {Q : Int32 → Mem → Prop} (h1 : p < a ∨ b < p) (h : Q 0 M) : P_X6_isWithin p a b M Q := br_c (fun _ => h) (fun h2 => br_c (fun _ => h) (fun h3 => (h1.elim (fun a => absurd a h2) (fun a => absurd a h3))))
