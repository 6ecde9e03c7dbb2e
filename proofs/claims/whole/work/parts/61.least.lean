/-! ===== least ===== -/
theorem ls_bit : ∀ s, s < 512 → ∀ k, k < 9 → (((nI s >>> (nI k &&& 31)) &&& (1 : Int32) = 1 ↔ s / 2 ^ k % 2 = 1) ∧ (s / 2 ^ k % 2 = 1 → nI s ^^^ ((1 : Int32) <<< (nI k &&& 31)) = nI (s - 2 ^ k) ∧ nI s &&& (((1 : Int32) <<< (nI k &&& 31)) ^^^ (-1 : Int32)) = nI (s - 2 ^ k))) := by decide +kernel
theorem ls_pow : ∀ n, n < 10 → (1 : Int32) <<< (nI n &&& 31) = nI (2 ^ n) := by decide +kernel
theorem ls_ex : ∀ n, n < 10 → ∀ s, s < 512 → 0 < s → s < 2 ^ n → ∃ k, k < n ∧ s / 2 ^ k % 2 = 1 := by decide +kernel
theorem bit_le {s k : Nat} (h : s / 2 ^ k % 2 = 1) : 2 ^ k ≤ s ∧ 0 < 2 ^ k := by
  refine ⟨Decidable.byContradiction (fun hl => ?_), Nat.two_pow_pos k⟩
  rw [Nat.div_eq_of_lt (by omega)] at h
  omega
def dnN (mi : Nat → Nat) (s n : Nat) : Nat := sN (fun k => if s / 2 ^ k % 2 = 1 then mi k else 0) n
theorem dn_s {mi : Nat → Nat} {s n : Nat} : dnN mi s (n + 1) = dnN mi s n + if s / 2 ^ n % 2 = 1 then mi n else 0 := rfl
theorem dn_le {mi : Nat → Nat} {s n : Nat} (h : ∀ k, mi k ≤ 1000) : dnN mi s n ≤ n * 1000 := sN_le n (fun j _ => by
  have := h j
  split <;> omega)
def bsN (inf : Nat) (T du ls : Nat → Nat) (D s : Nat) : Nat → Nat
  | 0 => inf
  | k + 1 => if s / 2 ^ k % 2 = 1 then (if T (s - 2 ^ k) + ls k * (D - du k) < bsN inf T du ls D s k then T (s - 2 ^ k) + ls k * (D - du k) else bsN inf T du ls D s k) else bsN inf T du ls D s k
theorem bs_y {inf : Nat} {T du ls : Nat → Nat} {D s k : Nat} (h : s / 2 ^ k % 2 = 1) : bsN inf T du ls D s (k + 1) = if T (s - 2 ^ k) + ls k * (D - du k) < bsN inf T du ls D s k then T (s - 2 ^ k) + ls k * (D - du k) else bsN inf T du ls D s k := by
  simp only [bsN]
  rw [if_pos h]
theorem bs_n {inf : Nat} {T du ls : Nat → Nat} {D s k : Nat} (h : ¬ s / 2 ^ k % 2 = 1) : bsN inf T du ls D s (k + 1) = bsN inf T du ls D s k := by
  simp only [bsN]
  rw [if_neg h]
theorem bs_congr {inf : Nat} {T T' du ls : Nat → Nat} {D s : Nat} (h : ∀ j, j < s → T j = T' j) : ∀ k, bsN inf T du ls D s k = bsN inf T' du ls D s k := by
  intro k
  induction k with
  | zero => rfl
  | succ k ih =>
    by_cases hb : s / 2 ^ k % 2 = 1
    · have := bit_le hb
      rw [bs_y hb, bs_y hb, ih, h (s - 2 ^ k) (by omega)]
    · rw [bs_n hb, bs_n hb, ih]
theorem bs_val {i1 i2 B : Nat} {T du ls : Nat → Nat} {D s : Nat} (hT : ∀ j, j < s → T j + 900000 ≤ B) (hc : ∀ k, ls k * (D - du k) ≤ 900000) (h1 : B < i1) (h2 : B < i2) : ∀ k, ((∀ j, j < k → ¬ s / 2 ^ j % 2 = 1) ∧ bsN i1 T du ls D s k = i1 ∧ bsN i2 T du ls D s k = i2) ∨ (bsN i1 T du ls D s k = bsN i2 T du ls D s k ∧ bsN i1 T du ls D s k ≤ B) := by
  intro k
  induction k with
  | zero => exact Or.inl ⟨fun j hj => absurd hj (Nat.not_lt_zero _), rfl, rfl⟩
  | succ k ih =>
    by_cases hb : s / 2 ^ k % 2 = 1
    · right
      have hl := bit_le hb
      have t := hT (s - 2 ^ k) (by omega)
      have c := hc k
      rw [bs_y hb, bs_y hb]
      rcases ih with ⟨-, e1, e2⟩ | ⟨e, hB⟩
      · rw [e1, e2, if_pos (by omega), if_pos (by omega)]
        exact ⟨rfl, by omega⟩
      · rw [← e]
        refine ⟨rfl, ?_⟩
        split <;> omega
    · rw [bs_n hb, bs_n hb]
      rcases ih with ⟨e0, e1, e2⟩ | ⟨e, hB⟩
      · refine Or.inl ⟨fun j hj => ?_, e1, e2⟩
        by_cases ej : j = k
        · rw [ej]; exact hb
        · exact e0 j (by omega)
      · exact Or.inr ⟨e, hB⟩
def tbN (mi du ls : Nat → Nat) (n : Nat) : Nat → Nat → Nat
  | 0 => fun _ => 0
  | s + 1 => fun j => if j = s + 1 then bsN 1000000000 (tbN mi du ls n s) du ls (dnN mi (s + 1) n) (s + 1) n else tbN mi du ls n s j
theorem tb_st {mi du ls : Nat → Nat} {n j : Nat} : ∀ s, j ≤ s → tbN mi du ls n s j = tbN mi du ls n j j := by
  intro s
  induction s with
  | zero =>
    intro h
    have : j = 0 := by omega
    rw [this]
  | succ s ih =>
    intro h
    by_cases e : j = s + 1
    · rw [e]
    · have : tbN mi du ls n (s + 1) j = tbN mi du ls n s j := by
        simp only [tbN]
        rw [if_neg e]
      rw [this]
      exact ih (by omega)
def bN (mi du ls : Nat → Nat) (n s : Nat) : Nat := tbN mi du ls n s s
theorem b_s {mi du ls : Nat → Nat} {n s : Nat} (h : 0 < s) : bN mi du ls n s = bsN 1000000000 (bN mi du ls n) du ls (dnN mi s n) s n := by
  obtain ⟨r, rfl⟩ : ∃ r, s = r + 1 := ⟨s - 1, by omega⟩
  have : bN mi du ls n (r + 1) = bsN 1000000000 (tbN mi du ls n r) du ls (dnN mi (r + 1) n) (r + 1) n := by
    show (if r + 1 = r + 1 then _ else _) = _
    rw [if_pos rfl]
  rw [this]
  exact bs_congr (fun j hj => tb_st r (by omega)) n
section LEAST
variable {mi du ls : Nat → Nat} {n : Nat}
theorem b_cost (hm : ∀ k, mi k ≤ 1000) (hl : ∀ k, ls k ≤ 100) (hn : n ≤ 9) (s k : Nat) : ls k * (dnN mi s n - du k) ≤ 900000 := by
  have h1 := dn_le (s := s) (n := n) hm
  have h2 : dnN mi s n - du k ≤ 9000 := by omega
  have := Nat.mul_le_mul (hl k) h2
  omega
theorem b_le (hm : ∀ k, mi k ≤ 1000) (hl : ∀ k, ls k ≤ 100) (hn : n ≤ 9) : ∀ s, s < 2 ^ n → bN mi du ls n s ≤ 900000 * s := by
  intro s
  induction s using Nat.strongRecOn with
  | ind s ih =>
    intro hs
    have hp : 2 ^ n ≤ 2 ^ 9 := Nat.pow_le_pow_right (by omega) hn
    by_cases h0 : s = 0
    · subst h0
      exact Nat.le_refl _
    · rw [b_s (by omega)]
      rcases bs_val (i1 := 1000000000) (i2 := 1000000000) (B := 900000 * s) (T := bN mi du ls n) (du := du) (ls := ls) (D := dnN mi s n) (s := s) (fun j hj => by have := ih j hj (by omega); omega) (b_cost hm hl hn s) (by omega) (by omega) n with ⟨e0, -, -⟩ | ⟨-, h⟩
      · obtain ⟨k, hk, hb⟩ := ls_ex n (by omega) s (by omega) (by omega) hs
        exact absurd hb (e0 k hk)
      · exact h
theorem b_inf (hm : ∀ k, mi k ≤ 1000) (hl : ∀ k, ls k ≤ 100) (hn : n ≤ 9) {s : Nat} (h0 : 0 < s) (hs : s < 2 ^ n) : bsN 2147483647 (bN mi du ls n) du ls (dnN mi s n) s n = bN mi du ls n s := by
  have hp : 2 ^ n ≤ 2 ^ 9 := Nat.pow_le_pow_right (by omega) hn
  rw [b_s h0]
  rcases bs_val (i1 := 2147483647) (i2 := 1000000000) (B := 900000 * s) (T := bN mi du ls n) (du := du) (ls := ls) (D := dnN mi s n) (s := s) (fun j hj => by have := b_le (du := du) hm hl hn j (by omega); omega) (b_cost hm hl hn s) (by omega) (by omega) n with ⟨e0, -, -⟩ | ⟨h, -⟩
  · obtain ⟨k, hk, hb⟩ := ls_ex n (by omega) s (by omega) h0 hs
    exact absurd hb (e0 k hk)
  · exact h
theorem bs_bd {inf s : Nat} (hm : ∀ k, mi k ≤ 1000) (hl : ∀ k, ls k ≤ 100) (hn : n ≤ 9) (hi : 1000000000 ≤ inf ∧ inf ≤ 2147483647) (hs : s < 2 ^ n) (k : Nat) : bsN inf (bN mi du ls n) du ls (dnN mi s n) s k ≤ 2147483647 := by
  have hp : 2 ^ n ≤ 2 ^ 9 := Nat.pow_le_pow_right (by omega) hn
  rcases bs_val (i1 := inf) (i2 := inf) (B := 900000 * s) (T := bN mi du ls n) (du := du) (ls := ls) (D := dnN mi s n) (s := s) (fun j hj => by have := b_le (du := du) hm hl hn j (by omega); omega) (b_cost hm hl hn s) (by omega) (by omega) k with ⟨-, e, -⟩ | ⟨-, h⟩
  · omega
  · omega
end LEAST
/-- the late minutes -/
theorem late_eq {D d : Nat} (hD : D ≤ 9000) (hd : d ≤ 10000) : (if (0 : Int32) < nI D - nI d then nI D - nI d else (0 : Int32)) = nI (D - d) := by
  have e : (nI D - nI d).toInt = (D : Int) - d := pk_sub_toInt (by omega) (by omega)
  by_cases h : d < D
  · rw [if_pos (by rw [i32_lt, t0, e]; omega), pk_sub (by omega)]
  · rw [if_neg (by rw [i32_lt, t0, e]; omega), show D - d = 0 by omega]
    rfl
theorem min_eq {a b : Nat} (ha : a < 2 ^ 31) (hb : b < 2 ^ 31) : (if nI a < nI b then nI a else nI b) = nI (if a < b then a else b) := by
  by_cases h : a < b
  · rw [if_pos (nI_lt h hb), if_pos h]
  · rw [if_neg (nI_nlt (by omega) ha), if_neg h]
/-- fields in numbers -/
def FdN (V : Vw) (n : Nat) (mi du ls : Nat → Nat) : Prop := n ≤ 9 ∧ V 26 0 0 = nI n ∧ ∀ k, V 27 k 0 = nI (mi k) ∧ V 28 k 0 = nI (du k) ∧ V 29 k 0 = nI (ls k) ∧ mi k ≤ 1000 ∧ du k ≤ 10000 ∧ ls k ≤ 100
theorem fd_num {V : Vw} (h : IFd V) : ∃ n mi du ls, FdN V n mi du ls := by
  obtain ⟨⟨n, hn, en⟩, hf⟩ := h
  refine ⟨n, fun k => (V 27 k 0).toNatClampNeg, fun k => (V 28 k 0).toNatClampNeg, fun k => (V 29 k 0).toNatClampNeg, hn, en, fun k => ?_⟩
  obtain ⟨h1, h2, h3⟩ := hf k
  obtain ⟨a, ha, ea⟩ := rg_nI (n := 1000) h1 (by omega)
  obtain ⟨b, hb, eb⟩ := rg_nI (n := 10000) h2 (by omega)
  obtain ⟨c, hc, ec⟩ := rg_nI (n := 100) h3 (by omega)
  simp only [ea, eb, ec]
  rw [nI_clamp (by omega), nI_clamp (by omega), nI_clamp (by omega)]
  exact ⟨rfl, rfl, rfl, ha, hb, hc⟩
theorem c_least {M : Mem} {n : Nat} {mi du ls : Nat → Nat} {Q : Int32 → Mem → Prop} (hF : FdN (VC M) n mi du ls) (k : ∀ N, Hi M N → VC N = vu (VC M) 26 0 0 0 → AuC N = AuC M → Q (nI (bN mi du ls n (2 ^ n - 1))) N) : P_X6_least M Q := by
  obtain ⟨hn, en, hv⟩ := hF
  have hp : 2 ^ n ≤ 2 ^ 9 := Nat.pow_le_pow_right (by omega) hn
  have hp0 : 0 < 2 ^ n := Nat.two_pow_pos n
  have hm : ∀ k, mi k ≤ 1000 := fun k => (hv k).2.2.2.1
  have hl : ∀ k, ls k ≤ 100 := fun k => (hv k).2.2.2.2.2
  have hd : ∀ k, du k ≤ 10000 := fun k => (hv k).2.2.2.2.1
  intro J16 J38 J109 hJ16 hJ38 hJ109
  have minutes : ∀ (N : Mem) (s : Nat) (R : Int32 → Mem → Prop), ScC M N → s < 512 → R (nI (dnN mi s n)) N → P_X1_minutesOf (nI s) N R := fun N s R S hs kR => by
    intro J4 J32 hJ4 hJ32
    have main := dn (P := fun i => J4 (nI (dnN mi s i)) (nI i) N) n (fun i hi hst => by
      apply hJ4
      rw [rc_26 N, S.2.1, en]
      refine br_f (nI_ge hi (by omega)) ?_
      rw [nI_clamp (by omega), rc_27 N (by omega), S.2.1, (hv i).1]
      obtain ⟨b1, -⟩ := ls_bit s hs i (by omega)
      rw [dn_s] at hst
      refine ⟨fun h => ?_, fun h => ⟨vp_in_nI (by omega) (by omega), ?_⟩⟩
      · apply hJ32
        rw [if_neg (fun h2 => h (b1.mpr h2)), Nat.add_zero] at hst
        rw [Int32.add_zero, nI_1]
        exact hst
      · apply hJ32
        rw [if_pos (b1.mp h)] at hst
        rw [nI_add, nI_1]
        exact hst) (by
      apply hJ4
      rw [rc_26 N, S.2.1, en]
      exact br_t (nI_le (Nat.le_refl _) (by omega)) kR)
    exact main
  have main := dn (P := fun i => ∀ N, ScC M N → (∀ j, j < i + 1 → N 117 j = nI (bN mi du ls n j)) → J16 (nI (2 ^ n)) (nI (i + 1)) N) (2 ^ n - 1) (fun i hi hst N S w => by
    apply hJ16
    refine br_f (nI_ge (by omega) (by omega)) (minutes N (i + 1) _ S (by omega) ⟨vp_in_nI (by omega) (by omega), ?_⟩)
    rw [nI_clamp (by omega)]
    have hD := dn_le (s := i + 1) (n := n) hm
    have inner := dn (P := fun k => ∀ N, ScC M N → (∀ j, j < i + 1 → N 117 j = nI (bN mi du ls n j)) → N 117 (i + 1) = nI (bsN 1000000000 (bN mi du ls n) du ls (dnN mi (i + 1) n) (i + 1) k) → J38 (nI (2 ^ n)) (nI (i + 1)) (nI (dnN mi (i + 1) n)) (nI k) N) n (fun k hk hst2 N S w w2 => by
      apply hJ38
      rw [rc_26 N, S.2.1, en]
      refine br_f (nI_ge hk (by omega)) ?_
      obtain ⟨b1, b2⟩ := ls_bit (i + 1) (by omega) k (by omega)
      refine ⟨fun h => ?_, fun h => ?_⟩
      · apply hJ109
        rw [nI_1]
        refine hst2 N S w ?_
        rw [bs_n (fun h2 => h (b1.mpr h2))]
        exact w2
      · have hb := b1.mp h
        have hle := bit_le hb
        obtain ⟨x1, -⟩ := b2 hb
        have bb := b_le (du := du) hm hl hn (i + 1 - 2 ^ k) (by omega)
        have cc := b_cost (du := du) hm hl hn (i + 1) k
        have bd := bs_bd (du := du) (inf := 1000000000) hm hl hn (by omega) (show i + 1 < 2 ^ n by omega) k
        rw [x1, nI_clamp (by omega), nI_clamp (by omega), nI_clamp (by omega), w (i + 1 - 2 ^ k) (by omega), w2, rc_28 N (by omega), rc_29 N (by omega), S.2.1, (hv k).2.1, (hv k).2.2.1, late_eq (by omega) (hd k), pk_mul, nI_add, min_eq (by omega) (by omega)]
        refine ⟨vp_in_nI (by omega) (by omega), vp_in_nI (by omega) (by omega), vp_in_nI (by omega) (by omega), vp_in_nI (by omega) (by omega), vp_in_nI (by omega) (by omega), ?_⟩
        apply hJ109
        rw [nI_1]
        refine hst2 _ (S.tr (scc_up (by omega))) (fun j hj => ?_) ?_
        · rw [mup_n (by omega)]
          exact w j hj
        · rw [mup_e, bs_y hb]) (fun N S w w2 => by
      apply hJ38
      rw [rc_26 N, S.2.1, en]
      refine br_t (nI_le (Nat.le_refl _) (by omega)) ?_
      rw [nI_1]
      refine hst N S (fun j hj => ?_)
      by_cases e : j = i + 1
      · rw [e, w2, ← b_s (by omega)]
      · exact w j (by omega))
    refine inner _ (S.tr (scc_up (by omega))) (fun j hj => ?_) ?_
    · rw [mup_n (by omega)]
      exact w j hj
    · rw [mup_e]
      rfl) (fun N S w => by
    apply hJ16
    refine br_t (nI_le (by omega) (by omega)) ?_
    rw [show (1 : Int32) = nI 1 from rfl, pk_sub (by omega), nI_clamp (by omega), w (2 ^ n - 1) (by omega)]
    refine ⟨vp_in_nI (by omega) (by omega), wc_26 (fun N1 f1 v1 a1 => k N1 (S.1.tr f1) (by rw [v1, S.2.1]) (by rw [a1, S.2.2]))⟩)
  refine ⟨vp_in_nI (n := 0) (by omega) (by omega), ?_⟩
  rw [rc_26 M, en, ls_pow n (by omega)]
  refine main _ (scc_up (by omega)) (fun j hj => ?_)
  have : j = 0 := by omega
  subst this
  rfl
theorem r_least {M : Mem} {n : Nat} {mi du ls : Nat → Nat} {Q : Int32 → Mem → Prop} (hF : FdN (VR M) n mi du ls) (k : ∀ N, Lo M N → VR N = vu (VR M) 26 0 0 0 → AuR N = AuR M → Q (nI (bN mi du ls n (2 ^ n - 1))) N) : P_X7_least M Q := by
  obtain ⟨hn, en, hv⟩ := hF
  have hp : 2 ^ n ≤ 2 ^ 9 := Nat.pow_le_pow_right (by omega) hn
  have hp0 : 0 < 2 ^ n := Nat.two_pow_pos n
  have hm : ∀ k, mi k ≤ 1000 := fun k => (hv k).2.2.2.1
  have hl : ∀ k, ls k ≤ 100 := fun k => (hv k).2.2.2.2.2
  have hd : ∀ k, du k ≤ 10000 := fun k => (hv k).2.2.2.2.1
  intro J14 J28 J70 J56 J129 hJ14 hJ28 hJ70 hJ56 hJ129
  refine wr_thr (fun M1 f1 v1 a1 t1 => ⟨vp_in_nI (n := 0) (by omega) (by omega), ?_⟩)
  have main := dn (P := fun i => ∀ N, ScR M1 N → (∀ j, j < i + 1 → N 140 j = nI (bN mi du ls n j)) → J14 (nI (i + 1)) N) (2 ^ n - 1) (fun i hi hst N S w => by
    have vN : VR N = VR M := S.2.1.trans v1
    have hD := dn_le (s := i + 1) (n := n) hm
    have l2 := dn (P := fun k => J70 (nI (i + 1)) (nI (dnN mi (i + 1) n)) (nI (bsN 2147483647 (bN mi du ls n) du ls (dnN mi (i + 1) n) (i + 1) k)) (nI k) N) n (fun k hk hst2 => by
      apply hJ70
      rw [rr_26 N, vN, en]
      refine br_f (nI_ge hk (by omega)) ?_
      obtain ⟨b1, b2⟩ := ls_bit (i + 1) (by omega) k (by omega)
      refine ⟨fun h => ?_, fun h => ?_⟩
      · apply hJ129
        rw [nI_1]
        rw [bs_n (fun h2 => h (b1.mpr h2))] at hst2
        exact hst2
      · have hb := b1.mp h
        have hle := bit_le hb
        obtain ⟨-, x1⟩ := b2 hb
        have bb := b_le (du := du) hm hl hn (i + 1 - 2 ^ k) (by omega)
        have cc := b_cost (du := du) hm hl hn (i + 1) k
        have bd := bs_bd (du := du) (inf := 2147483647) hm hl hn (by omega) (show i + 1 < 2 ^ n by omega) k
        rw [x1, nI_clamp (by omega), nI_clamp (by omega), w (i + 1 - 2 ^ k) (by omega), rr_28 N (by omega), rr_29 N (by omega), vN, (hv k).2.1, (hv k).2.2.1, late_eq (by omega) (hd k), pk_mul, nI_add, min_eq (by omega) (by omega)]
        refine ⟨vp_in_nI (by omega) (by omega), vp_in_nI (by omega) (by omega), vp_in_nI (by omega) (by omega), ?_⟩
        apply hJ129
        rw [nI_1]
        rw [bs_y hb] at hst2
        exact hst2) (by
      apply hJ70
      rw [rr_26 N, vN, en]
      refine br_t (nI_le (Nat.le_refl _) (by omega)) ⟨vp_in_nI (by omega) (by omega), ?_⟩
      rw [nI_clamp (by omega), nI_1, b_inf hm hl hn (by omega) (by omega)]
      refine hst _ (S.tr (scr_up (by omega))) (fun j hj => ?_)
      by_cases e : j = i + 1
      · rw [e, mup_e]
      · rw [mup_n (by omega)]
        exact w j (by omega))
    have l1 := dn (P := fun k => J28 (nI (i + 1)) (nI (dnN mi (i + 1) k)) (nI k) N) n (fun k hk hst2 => by
      apply hJ28
      rw [rr_26 N, vN, en]
      refine br_f (nI_ge hk (by omega)) ?_
      rw [nI_clamp (by omega), rr_27 N (by omega), vN, (hv k).1]
      obtain ⟨b1, -⟩ := ls_bit (i + 1) (by omega) k (by omega)
      rw [dn_s] at hst2
      refine ⟨fun h => ?_, fun h => ⟨vp_in_nI (by omega) (by omega), ?_⟩⟩
      · apply hJ56
        rw [if_neg (fun h2 => h (b1.mpr h2)), Nat.add_zero] at hst2
        rw [Int32.add_zero, nI_1]
        exact hst2
      · apply hJ56
        rw [if_pos (b1.mp h)] at hst2
        rw [nI_add, nI_1]
        exact hst2) (by
      apply hJ28
      rw [rr_26 N, vN, en]
      exact br_t (nI_le (Nat.le_refl _) (by omega)) l2)
    apply hJ14
    rw [rr_26 N, vN, en, ls_pow n (by omega)]
    exact br_f (nI_ge (by omega) (by omega)) l1) (fun N S w => by
    have vN : VR N = VR M := S.2.1.trans v1
    apply hJ14
    rw [rr_26 N, vN, en, ls_pow n (by omega)]
    refine br_t (nI_le (by omega) (by omega)) ?_
    rw [show (1 : Int32) = nI 1 from rfl, pk_sub (by omega), nI_clamp (by omega), w (2 ^ n - 1) (by omega)]
    refine ⟨vp_in_nI (by omega) (by omega), wr_26 (fun N1 g1 w1 b1 u1 => k N1 (f1.tr (S.1.tr g1)) (by rw [w1, vN]) (by rw [b1, S.2.2.1, a1]))⟩)
  refine main _ (scr_up (by omega)) (fun j hj => ?_)
  have : j = 0 := by omega
  subst this
  rfl
theorem T_least {q : Nat} {M : Mem} (h : Ok q M) (hq : q < 512) : P_X6_least M (fun r M1 => P_X7_least M1 (fun r' M2 => r = r' ∧ Ok (q + 1) M2)) := by
  have hV := h.2.1.1
  obtain ⟨h0, h11, h15, h4, h14, h10, h12, h6, hsh, hsum, hf, h8⟩ := h.2.2.next
  obtain ⟨n, mi, du, ls, hF⟩ := fd_num hf
  refine c_least (n := n) (mi := mi) (du := du) (ls := ls) (by rw [hV]; exact hF) (fun N f1 v1 a1 => ?_)
  have e1 := hi_VR f1
  refine r_least (n := n) (mi := mi) (du := du) (ls := ls) (by rw [e1]; exact hF) (fun N2 f2 v2 a2 => ⟨rfl, ?_⟩)
  refine h.mk1 (V := vu (VR M) 26 0 0 0) hq ?_ ?_ ?_ ?_ (fun _ => rfl) (fun _ h => h) ?_
  · rw [lo_VC f2, v1, hV]
  · rw [v2, e1]
  · rw [lo_AC f2, a1]
  · rw [a2, hi_AR f1]
  · exact ⟨h0, h11, h15, h4, h14, h10, h12, h6, hsh, hsum, ⟨⟨0, by omega, rfl⟩, hf.2⟩, h8⟩
