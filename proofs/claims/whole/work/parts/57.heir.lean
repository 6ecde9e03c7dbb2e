/-! ===== heirs: numbers, and the class's side ===== -/
def ScC (M N : Mem) : Prop := Hi M N ∧ VC N = VC M ∧ AuC N = AuC M
def ScR (M N : Mem) : Prop := Lo M N ∧ VR N = VR M ∧ AuR N = AuR M ∧ N 118 0 = M 118 0
theorem ScC.r {M : Mem} : ScC M M := ⟨Hi.rfl', rfl, rfl⟩
theorem ScR.r {M : Mem} : ScR M M := ⟨Lo.rfl', rfl, rfl, rfl⟩
theorem ScC.tr {A B C : Mem} (h : ScC A B) (g : ScC B C) : ScC A C := ⟨h.1.tr g.1, g.2.1.trans h.2.1, g.2.2.trans h.2.2⟩
theorem ScR.tr {A B C : Mem} (h : ScR A B) (g : ScR B C) : ScR A C := ⟨h.1.tr g.1, g.2.1.trans h.2.1, g.2.2.1.trans h.2.2.1, g.2.2.2.trans h.2.2.2⟩
theorem scc_up {M : Mem} {k l : Nat} {v : Int32} (h : (108 ≤ k ∧ k < 113) ∨ k = 117 ∨ k = 4 ∨ k = 1) : ScC M (mup M k l v) := ⟨hi_up (by omega), VC_no (by unfold inC; omega), AC_no (by unfold auxC; omega)⟩
theorem scr_up {M : Mem} {k l : Nat} {v : Int32} (h : (129 ≤ k ∧ k < 132) ∨ k = 133 ∨ k = 135 ∨ k = 136 ∨ k = 140) : ScR M (mup M k l v) := ⟨lo_up (by omega), VR_no (by unfold inR; omega), AR_no (by unfold auxR; omega), if_neg (by omega)⟩
theorem mup_e {M : Mem} {k l : Nat} {v : Int32} : mup M k l v k l = v := if_pos ⟨rfl, rfl⟩
theorem mup_n {M : Mem} {k l k' l' : Nat} {v : Int32} (h : ¬ (k' = k ∧ l' = l)) : mup M k l v k' l' = M k' l' := if_neg h
theorem Ok.scC {q : Nat} {M N : Mem} (h : Ok q M) (s : ScC M N) : Ok q N := by
  obtain ⟨s1, s2, s3⟩ := s
  obtain ⟨h0, ⟨h1, h2, h3, h4⟩, h5⟩ := h
  have e := hi_VR s1
  have a := hi_AR s1
  refine ⟨h0, ⟨by rw [s2, h1, e], fun c hc => ?_, fun k hk => ?_, fun s hs h0 => ?_⟩, by rw [e]; exact h5⟩
  · rw [a, e]; exact h2 c hc
  · rw [a, s3]; exact h3 k hk
  · rw [a, s3]; rw [e] at h0; exact h4 s hs h0
def sN (f : Nat → Nat) : Nat → Nat
  | 0 => 0
  | n + 1 => sN f n + f n
theorem sN_le {f : Nat → Nat} {b : Nat} : ∀ n, (∀ j, j < n → f j ≤ b) → sN f n ≤ n * b := by
  intro n
  induction n with
  | zero => intro _; simp [sN]
  | succ n ih =>
    intro h
    have h1 := ih (fun j hj => h j (by omega))
    have h2 := h n (by omega)
    simp only [sN]
    rw [Nat.succ_mul]
    omega
theorem sN_mono {f : Nat → Nat} : ∀ n m, n ≤ m → sN f n ≤ sN f m := by
  intro n m h
  induction m with
  | zero =>
    have : n = 0 := by omega
    rw [this]
    exact Nat.le_refl _
  | succ m ih =>
    by_cases e : n = m + 1
    · rw [e]
      exact Nat.le_refl _
    · have := ih (by omega)
      simp only [sN]
      omega
theorem sN_ge {f : Nat → Nat} : ∀ n, (∀ j, j < n → 1 ≤ f j) → n ≤ sN f n := by
  intro n
  induction n with
  | zero => intro _; omega
  | succ n ih =>
    intro h
    have h1 := ih (fun j hj => h j (by omega))
    have h2 := h n (by omega)
    simp only [sN]
    omega
theorem sN_pos {f : Nat → Nat} : ∀ n, 0 < sN f n → ∃ j, j < n ∧ 0 < f j := by
  intro n
  induction n with
  | zero => intro h; simp [sN] at h
  | succ n ih =>
    intro h
    simp only [sN] at h
    by_cases e : 0 < f n
    · exact ⟨n, by omega, e⟩
    · obtain ⟨j, hj, h2⟩ := ih (by omega)
      exact ⟨j, by omega, h2⟩
def h0N (A : Nat) (pn : Nat → Nat) (m j : Nat) : Nat := A * pn j / sN pn m
def hLf (A : Nat) (pn : Nat → Nat) (m : Nat) : Nat := A - sN (h0N A pn m) m
def hLN (A : Nat) (pn : Nat → Nat) (m j : Nat) : Nat := h0N A pn m j + if j < hLf A pn m then 1 else 0
def pcN (f : Nat → Nat) (n : Nat) : Nat := sN (fun j => if 0 < f j then 1 else 0) n
theorem pc_s {f : Nat → Nat} {n : Nat} : pcN f (n + 1) = pcN f n + if 0 < f n then 1 else 0 := rfl
theorem pc_z {f : Nat → Nat} : ∀ n, pcN f n = 0 ↔ sN f n = 0 := by
  intro n
  induction n with
  | zero => exact ⟨fun _ => rfl, fun _ => rfl⟩
  | succ n ih =>
    rw [pc_s]
    simp only [sN]
    by_cases h : 0 < f n
    · rw [if_pos h]
      exact ⟨fun h => by omega, fun h => by omega⟩
    · rw [if_neg h]
      exact ⟨fun h1 => by have := ih.mp (by omega); omega, fun h1 => by have := ih.mpr (by omega); omega⟩
theorem pc_le {f : Nat → Nat} : ∀ n, pcN f n ≤ n := by
  intro n
  induction n with
  | zero => exact Nat.le_refl _
  | succ n ih => rw [pc_s]; split <;> omega
theorem pc_mono {f : Nat → Nat} {n m : Nat} (h : n ≤ m) : pcN f n ≤ pcN f m := sN_mono n m h
theorem h0_bd {A m : Nat} {pn : Nat → Nat} (hS : 0 < sN pn m) : ∀ n, sN pn m * sN (h0N A pn m) n ≤ A * sN pn n ∧ A * sN pn n ≤ sN pn m * (sN (h0N A pn m) n + n) := by
  intro n
  induction n with
  | zero => simp [sN]
  | succ n ih =>
    have d1 : sN pn m * h0N A pn m n ≤ A * pn n := Nat.mul_div_le _ _
    have d2 : A * pn n < sN pn m * (h0N A pn m n + 1) := Nat.lt_mul_div_succ _ hS
    obtain ⟨i1, i2⟩ := ih
    simp only [sN]
    rw [Nat.mul_add, Nat.mul_add, show sN (h0N A pn m) n + h0N A pn m n + (n + 1) = (sN (h0N A pn m) n + n) + (h0N A pn m n + 1) by omega, Nat.mul_add]
    omega
theorem h0_all {A m : Nat} {pn : Nat → Nat} (hS : 0 < sN pn m) : sN (h0N A pn m) m ≤ A ∧ A ≤ sN (h0N A pn m) m + m := by
  obtain ⟨i1, i2⟩ := h0_bd (A := A) hS m
  rw [Nat.mul_comm A] at i1 i2
  exact ⟨Nat.le_of_mul_le_mul_left i1 hS, Nat.le_of_mul_le_mul_left i2 hS⟩
theorem h0_le {A m n : Nat} {pn : Nat → Nat} (hS : 0 < sN pn m) (h : n ≤ m) : sN (h0N A pn m) n ≤ A := Nat.le_trans (sN_mono n m h) (h0_all hS).1
theorem hL_sum {A m : Nat} {pn : Nat → Nat} (l : Nat) : ∀ n, sN (fun j => h0N A pn m j + if j < l then 1 else 0) n = sN (h0N A pn m) n + (if n ≤ l then n else l) := by
  intro n
  induction n with
  | zero => simp [sN]
  | succ n ih =>
    simp only [sN]
    rw [ih]
    by_cases h : n < l
    · rw [if_pos (show n ≤ l by omega), if_pos h, if_pos (show n + 1 ≤ l by omega)]
      omega
    · rw [if_neg h, if_neg (show ¬ n + 1 ≤ l by omega)]
      by_cases h2 : n ≤ l
      · rw [if_pos h2]; omega
      · rw [if_neg h2]; omega
theorem hL_all {A m : Nat} {pn : Nat → Nat} (hS : 0 < sN pn m) : sN (hLN A pn m) m = A := by
  have h := h0_all (A := A) hS
  have e : sN (hLN A pn m) m = sN (h0N A pn m) m + (if m ≤ hLf A pn m then m else hLf A pn m) := hL_sum (hLf A pn m) m
  have e2 : hLf A pn m = A - sN (h0N A pn m) m := rfl
  rw [e]
  split
  · omega
  · omega
def fv4 (a b c d : Int32) (j : Nat) : Int32 := if j = 0 then a else if j = 1 then b else if j = 2 then c else d
def gH (ow pt : Nat → Int32) (j : Nat) : Prop := ¬ (ow j < 0 ∨ 30 < ow j) ∧ ¬ (pt j < 1 ∨ 100 < pt j)
def GH (ow pt : Nat → Int32) (m : Nat) : Prop := ∀ j, j < m → gH ow pt j
theorem gH_p {ow pt : Nat → Int32} {j : Nat} (h : gH ow pt j) : pt j = nI (pt j).toNatClampNeg ∧ 1 ≤ (pt j).toNatClampNeg ∧ (pt j).toNatClampNeg ≤ 100 := by
  have h2 := h.2
  have e1 : (1 : Int32).toInt = 1 := rfl
  have e100 : (100 : Int32).toInt = 100 := rfl
  rw [i32_lt, i32_lt, e1, e100] at h2
  obtain ⟨k, hk, e⟩ := rg_nI (x := pt j) (n := 100) (by unfold rg; omega) (by omega)
  rw [e, nI_clamp (by omega)]
  rw [e, nI_toInt (by omega)] at h2
  exact ⟨rfl, by omega, hk⟩
theorem c_name {M : Mem} {j : Nat} {p w : Int32} {Q : Mem → Prop} (hj : j < 4) (k : ∀ N, ScC M N → (∀ i, N 109 i = if i = j then p else M 109 i) → (∀ i, N 111 i = if i = j then w else M 111 i) → Q N) : P_X2_name (nI j) p w M Q := by
  refine wi1 (nI_pos (by omega)) (nI_nlt (a := 3) (by omega) (by omega)) (br_f (by decide) ⟨vp_in_nI hj (by omega), ?_⟩)
  rw [nI_clamp (by omega)]
  refine ⟨vp_in_nI hj (by omega), k _ ((scc_up (by omega)).tr (scc_up (by omega))) (fun i => ?_) (fun i => ?_)⟩
  · rw [mup_n (by omega)]
    by_cases e : i = j
    · rw [e, mup_e, if_pos rfl]
    · rw [mup_n (by omega), if_neg e]
  · by_cases e : i = j
    · rw [e, mup_e, if_pos rfl]
    · rw [mup_n (by omega), mup_n (by omega), if_neg e]
theorem c_first {M : Mem} {m : Nat} {ow pt : Nat → Int32} {Q : Int32 → Mem → Prop} (hm : m ≤ 4) (h1 : ∀ j, j < 4 → M 109 j = ow j) (h2 : ∀ j, j < 4 → M 111 j = pt j) (ky : GH ow pt m → Q 1 M) (kn : ¬ GH ow pt m → Q 0 M) : P_X2_firstStand (nI m) M Q := by
  intro J2 hJ2
  have := dn (P := fun i => GH ow pt i → J2 (nI i) M) m (fun i hi hs hg => by
    apply hJ2
    refine br_f (nI_ge hi (by omega)) (br_f (nI_ge (b := 4) (by omega) (by omega)) ⟨vp_in_nI (by omega) (by omega), ?_⟩)
    rw [nI_clamp (by omega), h1 i (by omega)]
    by_cases g1 : ow i < 0 ∨ 30 < ow i
    · exact ow0 g1 (br_t rfl (kn (fun h => (h i hi).1 g1)))
    · refine ow1 (fun h => g1 (Or.inl h)) (fun h => g1 (Or.inr h)) (br_f (by decide) ⟨vp_in_nI (by omega) (by omega), ?_⟩)
      rw [h2 i (by omega)]
      by_cases g2 : pt i < 1 ∨ 100 < pt i
      · exact wi0 g2 ⟨fun h => absurd rfl h, fun _ => kn (fun h => (h i hi).2 g2)⟩
      · refine wi1 (fun h => g2 (Or.inl h)) (fun h => g2 (Or.inr h)) ⟨fun _ => ?_, fun h => absurd h (by decide)⟩
        rw [nI_1]
        refine hs (fun j hj => ?_)
        by_cases e : j = i
        · rw [e]; exact ⟨g1, g2⟩
        · exact hg j (by omega)) (fun hg => by
    apply hJ2
    exact br_t (nI_le (Nat.le_refl _) (by omega)) (ky hg))
  exact this (fun j hj => absurd hj (Nat.not_lt_zero _))
theorem c_partOf {M : Mem} {a b c : Nat} {Q : Int32 → Mem → Prop} (ha : a < 2 ^ 31) (hb : b < 2 ^ 31) (hc : c < 2 ^ 31) (h0 : 0 < c) (hab : a * b < 2 ^ 63) (k : Q (nI (a * b / c)) M) : P_X6_partOf (nI a) (nI b) (nI c) M Q := by
  refine br_t (nI_lt (a := 0) h0 hc) ?_
  rw [nI_l ha, nI_l hb, nI_l hc]
  refine ⟨fun h => ?_, ?_⟩
  · have := (pk_lEQ (a := c) (b := 0) (by omega) (by omega)).mp h
    omega
  · rw [lN_mul, pk_lDiv hab h0 (by omega), lN_i]
    exact k
/-- the lengths of the pieces: the class -/
theorem c_partLength {M : Mem} {A m : Nat} {pn : Nat → Nat} {Q : Int32 → Mem → Prop} (hA : A ≤ 21600) (hm : m ≤ 4) (hm0 : 0 < m) (hp : ∀ j, j < m → M 111 j = nI (pn j) ∧ 1 ≤ pn j ∧ pn j ≤ 100) (k : ∀ N, ScC M N → (∀ j, N 109 j = M 109 j) → (∀ j, j < m → N 110 j = nI (hLN A pn m j)) → Q (nI (pcN (hLN A pn m) m)) N) : P_X2_partLength (nI A) (nI m) M Q := by
  intro J5 J33 J39 J88 J94 J126 J145 hJ5 hJ33 hJ39 hJ88 hJ94 hJ126 hJ145
  have hS1 : m ≤ sN pn m := sN_ge m (fun j hj => (hp j hj).2.1)
  have hS2 : sN pn m ≤ m * 100 := sN_le m (fun j hj => (hp j hj).2.2)
  have hS : 0 < sN pn m := by omega
  have hA' := h0_all (A := A) hS
  have hlf : hLf A pn m ≤ m := by unfold hLf; omega
  have l3 := dn (P := fun i => ∀ N, ScC M N → (∀ j, N 109 j = M 109 j) → (∀ j, j < i → N 110 j = nI (hLN A pn m j)) → (∀ j, i ≤ j → j < m → N 110 j = nI (h0N A pn m j)) → J94 (nI (hLf A pn m)) (nI (pcN (hLN A pn m) i)) (nI i) N) m (fun i hi hs N g1 g2 g3 g4 => by
    apply hJ94
    refine br_f (nI_ge hi (by omega)) (br_f (nI_ge (b := 4) (by omega) (by omega)) ⟨vp_in_nI (by omega) (by omega), ?_⟩)
    rw [nI_clamp (by omega), g4 i (Nat.le_refl _) hi]
    have hb : h0N A pn m i ≤ A := by
      have := h0_le (A := A) (n := i + 1) hS (by omega)
      simp only [sN] at this
      omega
    have fin : ∀ b : Nat, b ≤ 1 → hLN A pn m i = h0N A pn m i + b → J126 (nI (hLf A pn m)) (nI (pcN (hLN A pn m) i)) (nI i) (nI b) (nI (h0N A pn m i)) (nI i) N := fun b hb1 eb => by
      apply hJ126
      rw [nI_clamp (by omega), nI_add, ← eb]
      refine ⟨vp_in_nI (by omega) (by omega), vp_in_nI (by omega) (by omega), ?_⟩
      rw [mup_e]
      have nx : ∀ c : Nat, pcN (hLN A pn m) (i + 1) = pcN (hLN A pn m) i + c → J145 (nI (hLf A pn m)) (nI i) (nI c) (nI (pcN (hLN A pn m) i)) (mup N 110 i (nI (hLN A pn m i))) := fun c ec => by
        apply hJ145
        rw [nI_add, ← ec, nI_1]
        refine hs _ (g1.tr (scc_up (by omega))) (fun j => ?_) (fun j hj => ?_) (fun j hj hj2 => ?_)
        · rw [mup_n (by omega)]; exact g2 j
        · by_cases e : j = i
          · rw [e, mup_e]
          · rw [mup_n (by omega)]; exact g3 j (by omega)
        · rw [mup_n (by omega)]; exact g4 j (by omega) hj2
      by_cases hz : 0 < hLN A pn m i
      · exact br_f (nI_nle hz (by omega)) (nx 1 (by rw [pc_s, if_pos hz]))
      · refine br_t ?_ (nx 0 (by rw [pc_s, if_neg hz]))
        rw [show hLN A pn m i = 0 by omega]
        decide
    by_cases hl : i < hLf A pn m
    · exact br_f (nI_ge hl (by omega)) (fin 1 (by omega) (by unfold hLN; rw [if_pos hl]))
    · exact br_t (nI_le (by omega) (by omega)) (fin 0 (by omega) (by unfold hLN; rw [if_neg hl]))) (fun N g1 g2 g3 g4 => by
    apply hJ94
    exact br_t (nI_le (Nat.le_refl _) (by omega)) (k N g1 g2 g3))
  have l2 := dn (P := fun i => ∀ N, ScC M N → (∀ j, N 109 j = M 109 j) → (∀ j, N 111 j = M 111 j) → (∀ j, j < i → N 110 j = nI (h0N A pn m j)) → J39 (nI (sN pn m)) (nI (A - sN (h0N A pn m) i)) (nI i) N) m (fun i hi hs N g1 g2 g3 g4 => by
    apply hJ39
    refine br_f (nI_ge hi (by omega)) (br_f (nI_ge (b := 4) (by omega) (by omega)) ⟨vp_in_nI (by omega) (by omega), ?_⟩)
    rw [nI_clamp (by omega), g3 i, (hp i hi).1]
    have hle := h0_le (A := A) (n := i + 1) hS (by omega)
    simp only [sN] at hle
    have hpi := (hp i hi).2.2
    have hmul : A * pn i ≤ 21600 * 100 := Nat.mul_le_mul hA hpi
    refine c_partOf (by omega) (by omega) (by omega) hS (by omega) ⟨vp_in_nI (by omega) (by omega), vp_in_nI (by omega) (by omega), ?_⟩
    rw [mup_e, nI_1]
    have e : nI (A - sN (h0N A pn m) i) - nI (A * pn i / sN pn m) = nI (A - sN (h0N A pn m) (i + 1)) := by
      have e1 : A * pn i / sN pn m = h0N A pn m i := rfl
      rw [e1, pk_sub (by omega)]
      simp only [sN]
      congr 1
      omega
    rw [e]
    refine hs _ (g1.tr (scc_up (by omega))) (fun j => ?_) (fun j => ?_) (fun j hj => ?_)
    · rw [mup_n (by omega)]; exact g2 j
    · rw [mup_n (by omega)]; exact g3 j
    · by_cases e : j = i
      · rw [e, mup_e]; rfl
      · rw [mup_n (by omega)]; exact g4 j (by omega)) (fun N g1 g2 g3 g4 => by
    apply hJ39
    refine br_t (nI_le (Nat.le_refl _) (by omega)) ?_
    apply hJ88
    exact l3 N g1 g2 (fun j hj => absurd hj (Nat.not_lt_zero _)) (fun j _ hj => g4 j hj))
  have l1 := dn (P := fun i => J5 (nI (sN pn i)) (nI i) M) m (fun i hi hs => by
    apply hJ5
    refine br_f (nI_ge hi (by omega)) (br_f (nI_ge (b := 4) (by omega) (by omega)) ⟨vp_in_nI (by omega) (by omega), ?_⟩)
    rw [nI_clamp (by omega), (hp i hi).1, nI_add, nI_1]
    exact hs) (by
    apply hJ5
    refine br_t (nI_le (Nat.le_refl _) (by omega)) ?_
    apply hJ33
    exact l2 M ScC.r (fun _ => rfl) (fun _ => rfl) (fun j hj => absurd hj (Nat.not_lt_zero _)))
  exact l1
/-- the view as the pieces are laid out -/
def hvV (V : Vw) (s f0 : Nat) (ow : Nat → Int32) (L : Nat → Nat) : Nat → Vw
  | 0 => V
  | i + 1 => if L i = 0 then hvV V s f0 ow L i else if pcN L i = 0 then shU (hvV V s f0 ow L i) s (V 19 s 0) (nI (f0 + sN L i)) (nI (f0 + sN L (i + 1))) (ow i) else adU (hvV V s f0 ow L i) (V 19 s 0) (nI (f0 + sN L i)) (nI (f0 + sN L (i + 1))) (ow i)
theorem hv_0 {V : Vw} {s f0 : Nat} {ow : Nat → Int32} {L : Nat → Nat} {i : Nat} (h : L i = 0) : hvV V s f0 ow L (i + 1) = hvV V s f0 ow L i := by simp only [hvV]; rw [if_pos h]
theorem hv_1 {V : Vw} {s f0 : Nat} {ow : Nat → Int32} {L : Nat → Nat} {i : Nat} (h : ¬ L i = 0) (g : pcN L i = 0) : hvV V s f0 ow L (i + 1) = shU (hvV V s f0 ow L i) s (V 19 s 0) (nI (f0 + sN L i)) (nI (f0 + sN L (i + 1))) (ow i) := by simp only [hvV]; rw [if_neg h, if_pos g]
theorem hv_2 {V : Vw} {s f0 : Nat} {ow : Nat → Int32} {L : Nat → Nat} {i : Nat} (h : ¬ L i = 0) (g : ¬ pcN L i = 0) : hvV V s f0 ow L (i + 1) = adU (hvV V s f0 ow L i) (V 19 s 0) (nI (f0 + sN L i)) (nI (f0 + sN L (i + 1))) (ow i) := by simp only [hvV]; rw [if_neg h, if_neg g]
/-- what holds of it on the way -/
theorem hv_inv {V : Vw} {s f0 m : Nat} {ow : Nat → Int32} {L : Nat → Nat} (h6 : I6 V) (hs : s < ns V) (hn : ns V + pcN L m ≤ 61) : ∀ i, i ≤ m → (ns (hvV V s f0 ow L i) + 1 = ns V + (if pcN L i = 0 then 1 else pcN L i)) ∧ I6 (hvV V s f0 ow L i) ∧ hvV V s f0 ow L i 19 s 0 = V 19 s 0 ∧ (∀ a x y, a ≠ 6 → ¬ (19 ≤ a ∧ a ≤ 25) → hvV V s f0 ow L i a x y = V a x y) ∧ (∀ k, 0 < hvV V s f0 ow L i 25 k 0 → 0 < V 25 k 0) := by
  intro i
  induction i with
  | zero => intro _; exact ⟨by rw [if_pos (show pcN L 0 = 0 from rfl)]; rfl, h6, rfl, fun _ _ _ _ _ => rfl, fun _ h => h⟩
  | succ i ih =>
    intro hi
    obtain ⟨i1, i2, i3, i4, i5⟩ := ih (by omega)
    have hpm : pcN L (i + 1) ≤ pcN L m := pc_mono hi
    rw [pc_s] at hpm ⊢
    by_cases h0 : L i = 0
    · rw [hv_0 h0, if_neg (show ¬ 0 < L i by omega), Nat.add_zero]
      exact ⟨i1, i2, i3, i4, i5⟩
    · rw [if_pos (show 0 < L i by omega)] at hpm ⊢
      rw [if_neg (show ¬ pcN L i + 1 = 0 by omega)]
      by_cases hp : pcN L i = 0
      · rw [if_pos hp] at i1
        rw [hv_1 h0 hp, ns_shU]
        refine ⟨by omega, I6_shU i2, shU_19, fun a x y ha hb => (shU_o hb).trans (i4 a x y ha hb), fun k hk => ?_⟩
        by_cases e : k = s
        · rw [e, shU_25] at hk
          exact absurd hk (by decide)
        · rw [shU_n e] at hk
          exact i5 k hk
      · rw [if_neg hp] at i1
        have hr : ns (hvV V s f0 ow L i) < 60 := by omega
        rw [hv_2 h0 hp, ns_adU hr]
        refine ⟨by omega, I6_adU hr, ?_, fun a x y ha hb => (adU_o ha hb).trans (i4 a x y ha hb), fun k hk => ?_⟩
        · rw [adU_s (by omega), shU_n (by omega)]
          exact i3
        · rw [adU_s (by omega)] at hk
          by_cases e : k = ns (hvV V s f0 ow L i)
          · rw [e, shU_25] at hk
            exact absurd hk (by decide)
          · rw [shU_n e] at hk
            exact i5 k hk
/-- a share's writing leaves the scratch rows as they were -/
theorem c_becomeS {M : Mem} {s : Nat} {c f t o : Int32} {Q : Mem → Prop} (hs : s < 60) (k : ∀ M', Hi M M' → (∀ k' l, (108 ≤ k' ∧ k' < 113) → M' k' l = M k' l) → VC M' = shU (VC M) s c f t o → AuC M' = au (AuC M) 1 s (-1) → Q M') : P_X4_become s c f t o M Q := by
  have h := c_become (M := M) (c := c) (f := f) (t := t) (o := o) (Q := fun M' => Hi M M' ∧ VC M' = shU (VC M) s c f t o ∧ AuC M' = au (AuC M) 1 s (-1)) hs (fun M' h1 h2 h3 => ⟨h1, h2, h3⟩)
  obtain ⟨h1, h2, h3⟩ := h
  refine k _ h1 (fun k' l hk => ?_) h2 h3
  exact (mup_n (by omega)).trans ((mup_n (by omega)).trans ((mup_n (by omega)).trans ((mup_n (by omega)).trans ((mup_n (by omega)).trans ((mup_n (by omega)).trans (mup_n (by omega)))))))
theorem c_addShareS {M : Mem} {c f t o : Int32} {Q : Mem → Prop} (h6 : I6 (VC M)) (hn : ns (VC M) < 60) (k : ∀ M', Hi M M' → (∀ k' l, (108 ≤ k' ∧ k' < 113) → M' k' l = M k' l) → VC M' = adU (VC M) c f t o → AuC M' = au (AuC M) 1 (ns (VC M)) (-1) → Q M') : P_X6_addShare c f t o M Q := by
  obtain ⟨-, en⟩ := ns_eq h6
  unfold P_X6_addShare
  rw [rc_6 M, en]
  refine br_f (nI_ge (b := 60) hn (by omega)) ⟨vp_in_nI hn (by omega), ?_⟩
  rw [nI_clamp (by omega)]
  refine c_becomeS hn (fun M1 f1 s1 v1 a1 => ?_)
  have e1 : VC M1 6 0 0 = nI (ns (VC M)) := by rw [v1]; exact en
  rw [rc_6 M1, e1, nI_1]
  refine k _ (f1.tr (hi_up (by omega))) (fun k' l hk => (mup_n (by omega)).trans (s1 k' l hk)) ?_ ?_
  · rw [uc_6, v1]; rfl
  · rw [AC_no (by unfold auxC; omega), a1]
theorem c_leaveTo {M : Mem} {s f0 m : Nat} {ow : Nat → Int32} {L : Nat → Nat} {Q : Mem → Prop} (h6 : I6 (VC M)) (hs : s < ns (VC M)) (hn : ns (VC M) + pcN L m ≤ 61) (hm : m ≤ 4) (e20 : VC M 20 s 0 = nI f0) (hb : f0 + sN L m ≤ 21600) (h1 : ∀ j, j < 4 → M 109 j = ow j) (h2 : ∀ j, j < m → M 110 j = nI (L j)) (k : ∀ N, Hi M N → VC N = hvV (VC M) s f0 ow L m → (∀ j, AuC N 0 j = AuC M 0 j) → (∀ j, 0 < VC N 25 j 0 → AuC N 1 j = AuC M 1 j) → Q N) : P_X6_leaveTo s (nI m) M Q := by
  have hn60 := (ns_eq h6).1
  have hs60 : s < 60 := by omega
  intro J17 J78 J107 hJ17 hJ78 hJ107
  have main := dn (P := fun i => ∀ N, Hi M N → (∀ k' l, (108 ≤ k' ∧ k' < 113) → N k' l = M k' l) → VC N = hvV (VC M) s f0 ow L i → (∀ j, AuC N 0 j = AuC M 0 j) → (∀ j, 0 < VC N 25 j 0 → AuC N 1 j = AuC M 1 j) → J17 (VC M 19 s 0) (nI (f0 + sN L i)) (nI (if pcN L i = 0 then 0 else 1)) (nI i) N) m (fun i hi hst N g1 g2 g3 g4 g5 => by
    have hsi : sN L (i + 1) ≤ sN L m := sN_mono _ _ (by omega)
    have hss : sN L (i + 1) = sN L i + L i := rfl
    have hpm : pcN L (i + 1) ≤ pcN L m := pc_mono (by omega)
    obtain ⟨i1, i2, i3, i4, i5⟩ := hv_inv (f0 := f0) (ow := ow) h6 hs hn i (by omega)
    apply hJ17
    refine br_f (nI_ge hi (by omega)) (br_f (nI_ge (b := 4) (by omega) (by omega)) ⟨vp_in_nI (by omega) (by omega), ?_⟩)
    rw [nI_clamp (by omega), g2 110 i (by omega), h2 i hi, g2 109 i (by omega), h1 i (by omega), nI_add, show f0 + sN L i + L i = f0 + sN L (i + 1) by omega]
    by_cases h0 : L i = 0
    · have e1 : sN L (i + 1) = sN L i := by omega
      refine br_t (nI_le (by omega) (by omega)) ?_
      apply hJ78
      refine br_t (nI_le (by omega) (by omega)) ?_
      apply hJ107
      rw [nI_1]
      have := hst N g1 g2 (by rw [hv_0 h0]; exact g3) g4 g5
      rw [pc_s, if_neg (show ¬ 0 < L i by omega), Nat.add_zero] at this
      exact this
    · refine br_f (nI_ge (by omega) (by omega)) ?_
      rw [pc_s, if_pos (show 0 < L i by omega)] at hpm
      by_cases hp : pcN L i = 0
      · rw [if_pos hp]
        refine br_t rfl ?_
        apply hJ78
        refine br_f (nI_ge (by omega) (by omega)) ⟨vp_in_nI (by omega) (by omega), ?_⟩
        rw [nI_clamp (by omega), g2 109 i (by omega), h1 i (by omega)]
        refine c_becomeS hs60 (fun N1 f1 s1 v1 a1 => ?_)
        apply hJ107
        rw [nI_1]
        have := hst N1 (g1.tr f1) (fun k' l hk' => by rw [s1 k' l hk']; exact g2 k' l hk') (by rw [v1, g3, hv_1 h0 hp]) (fun j => by rw [a1, ← g4 j]; exact if_neg (by omega)) (fun j hj => by
          rw [v1] at hj
          by_cases e : j = s
          · rw [e, shU_25] at hj
            exact absurd hj (by decide)
          · rw [shU_n e] at hj
            rw [a1, ← g5 j hj]
            exact if_neg (by omega))
        rw [pc_s, if_pos (show 0 < L i by omega), if_neg (show ¬ pcN L i + 1 = 0 by omega)] at this
        exact this
      · rw [if_neg hp] at i1 ⊢
        refine br_f (by decide) ⟨vp_in_nI (by omega) (by omega), ?_⟩
        have hr : ns (hvV (VC M) s f0 ow L i) < 60 := by omega
        refine c_addShareS (by rw [g3]; exact i2) (by rw [g3]; exact hr) (fun N1 f1 s1 v1 a1 => ?_)
        apply hJ107
        rw [nI_1]
        have := hst N1 (g1.tr f1) (fun k' l hk' => by rw [s1 k' l hk']; exact g2 k' l hk') (by rw [v1, g3, hv_2 h0 hp]) (fun j => by rw [a1, ← g4 j]; exact if_neg (by omega)) (fun j hj => by
          rw [v1, adU_s (by omega)] at hj
          by_cases e : j = ns (VC N)
          · rw [e, shU_25] at hj
            exact absurd hj (by decide)
          · rw [shU_n e] at hj
            rw [a1, ← g5 j hj]
            exact if_neg (by omega))
        rw [pc_s, if_pos (show 0 < L i by omega), if_neg (show ¬ pcN L i + 1 = 0 by omega)] at this
        exact this) (fun N g1 g2 g3 g4 g5 => by
    apply hJ17
    exact br_t (nI_le (Nat.le_refl _) (by omega)) (k N g1 g3 g4 g5))
  rw [rc_19 M hs60, rc_20 M hs60, e20]
  exact main M Hi.rfl' (fun _ _ _ => rfl) rfl (fun _ => rfl) (fun _ _ => rfl)
