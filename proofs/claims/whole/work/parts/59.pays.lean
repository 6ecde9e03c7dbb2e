/-! ===== pays ===== -/
def lnV (V : Vw) (s : Nat) : Nat := ((V 21 s 0).toInt - (V 20 s 0).toInt).toNat
def mnV (V : Vw) (c : Nat) : Nat → Nat → Nat
  | 0, _ => 0
  | n + 1, o => mnV V c n o + if V 19 n 0 = nI c ∧ V 22 n 0 = nI o then lnV V n else 0
theorem mn_s (V : Vw) (c n o : Nat) : mnV V c (n + 1) o = mnV V c n o + if V 19 n 0 = nI c ∧ V 22 n 0 = nI o then lnV V n else 0 := rfl
theorem sN_one {f : Nat → Nat} {P : Prop} [Decidable P] {x : Int32} {o0 l : Nat} (hx : x = nI o0) (h0 : o0 < 2 ^ 31) : ∀ n, n < 2 ^ 31 → sN (fun o => f o + if P ∧ x = nI o then l else 0) n = sN f n + if P ∧ o0 < n then l else 0 := by
  intro n
  induction n with
  | zero => intro _; rw [if_neg (by omega)]; rfl
  | succ n ih =>
    intro hn
    simp only [sN]
    rw [ih (by omega)]
    by_cases hP : P
    · by_cases e : o0 = n
      · rw [if_neg (by omega), if_pos ⟨hP, by rw [hx, e]⟩, if_pos ⟨hP, by omega⟩]
        omega
      · have ne : ¬ (P ∧ x = nI n) := fun h => e ((nI_eq h0 (by omega)).mp (hx.symm.trans h.2))
        rw [if_neg ne]
        by_cases hl : o0 < n
        · rw [if_pos ⟨hP, hl⟩, if_pos ⟨hP, by omega⟩]; omega
        · rw [if_neg (fun h => hl h.2), if_neg (fun h => by omega)]
          omega
    · rw [if_neg (fun h => hP h.1), if_neg (fun h => hP h.1), if_neg (fun h => hP h.1)]
      omega
/-- what a right share is in numbers -/
theorem sh_num {V : Vw} {s : Nat} (h : ISh V) (h12 : I12 V) (hs : s < ns V) : ∃ f0 o0, V 20 s 0 = nI f0 ∧ V 21 s 0 = nI (f0 + lnV V s) ∧ f0 + lnV V s ≤ 21600 ∧ 1 ≤ lnV V s ∧ V 22 s 0 = nI o0 ∧ o0 ≤ 30 := by
  obtain ⟨⟨d, d1, d2, d3, d4, d5, d6⟩, d7⟩ := h s hs
  have d8 := h12 d
  unfold rg at d8
  obtain ⟨f0, hf0, e20⟩ := rg_nI (x := V 20 s 0) (n := 21600) (by unfold rg; omega) (by omega)
  obtain ⟨g0, hg0, e21⟩ := rg_nI (x := V 21 s 0) (n := 21600) (by unfold rg; omega) (by omega)
  obtain ⟨o0, ho0, e22⟩ := rg_nI (x := V 22 s 0) (n := 30) d7 (by omega)
  have el : lnV V s = g0 - f0 := by
    unfold lnV
    rw [e20, e21, nI_toInt (by omega), nI_toInt (by omega)]
    omega
  rw [e20, e21, nI_toInt (by omega), nI_toInt (by omega)] at d5
  refine ⟨f0, o0, e20, ?_, ?_, ?_, e22, ho0⟩
  · rw [el, e21]
    congr 1
    omega
  · rw [el]; omega
  · rw [el]; omega
theorem mn_sum {V : Vw} {c : Nat} (h : ISh V) (h12 : I12 V) : ∀ n, n ≤ ns V → ((sN (mnV V c n) 31 : Nat) : Int) = smV V c n := by
  intro n
  induction n with
  | zero =>
    intro _
    have : sN (mnV V c 0) 31 = 0 := by
      have := sN_le (f := mnV V c 0) (b := 0) 31 (fun j _ => Nat.le_refl _)
      omega
    rw [this]
    rfl
  | succ n ih =>
    intro hn
    obtain ⟨f0, o0, e20, e21, hb, h1, e22, ho⟩ := sh_num h h12 (s := n) (by omega)
    have e : sN (mnV V c (n + 1)) 31 = sN (mnV V c n) 31 + if V 19 n 0 = nI c ∧ o0 < 31 then lnV V n else 0 := sN_one e22 (by omega) 31 (by omega)
    rw [e, sm_s]
    unfold ctr
    rw [e20, e21, nI_toInt (by omega), nI_toInt (by omega)]
    have := ih (by omega)
    by_cases hc : V 19 n 0 = nI c
    · rw [if_pos ⟨hc, by omega⟩, if_pos hc]
      omega
    · rw [if_neg (fun h => hc h.1), if_neg hc]
      omega
/-- weights: minutes, or 1 for each that has any -/
def wfA (V : Vw) (c n o : Nat) : Nat := if V 10 2 0 = 1 then (if 0 < mnV V c n o then 1 else 0) else mnV V c n o
def wfV (V : Vw) (c o : Nat) : Nat := wfA V c (ns V) o
theorem wf_pos {V : Vw} {c n o : Nat} : 0 < wfA V c n o ↔ 0 < mnV V c n o := by
  unfold wfA
  by_cases h : V 10 2 0 = 1
  · rw [if_pos h]
    split
    · exact ⟨fun _ => by assumption, fun _ => by omega⟩
    · exact ⟨fun h => by omega, fun h => by contradiction⟩
  · rw [if_neg h]
theorem mn_le {V : Vw} {c : Nat} (h : ISh V) (h12 : I12 V) (hsum : ISum V) (hc : c < 8) (hd : 0 < V 12 c 0) : sN (mnV V c (ns V)) 31 ≤ 21600 ∧ 0 < sN (mnV V c (ns V)) 31 ∧ V 12 c 0 = nI (sN (mnV V c (ns V)) 31) := by
  have e := mn_sum (c := c) h h12 (ns V) (Nat.le_refl _)
  rw [hsum c hc hd] at e
  have d8 := h12 c
  unfold rg at d8
  rw [i32_lt, t0] at hd
  refine ⟨by omega, by omega, ?_⟩
  obtain ⟨k, hk, ek⟩ := rg_nI (x := V 12 c 0) (n := 21600) d8 (by omega)
  rw [ek] at e ⊢
  rw [nI_toInt (by omega)] at e
  congr 1
  omega
theorem mn_1' {f : Nat → Nat} {o : Nat} : ∀ m, o < m → f o ≤ sN f m := by
  intro m
  induction m with
  | zero => intro h; omega
  | succ m ih =>
    intro h
    simp only [sN]
    by_cases e : o = m
    · rw [e]; omega
    · have := ih (by omega)
      omega
theorem mn_1 {V : Vw} {c n o : Nat} (ho : o < 31) : mnV V c n o ≤ sN (mnV V c n) 31 := mn_1' 31 ho
theorem mn_mono {V : Vw} {c o n m : Nat} (h : n ≤ m) : mnV V c n o ≤ mnV V c m o := by
  induction m with
  | zero =>
    have : n = 0 := by omega
    rw [this]
    exact Nat.le_refl _
  | succ m ih =>
    by_cases e : n = m + 1
    · rw [e]
      exact Nat.le_refl _
    · have := ih (by omega)
      rw [mn_s]
      omega
def ahN (wf : Nat → Nat) (ow i : Nat) : Nat := sN (fun o => if o < ow ∧ 0 < wf o then 1 else 0) i
theorem ah_s {wf : Nat → Nat} {ow i : Nat} : ahN wf ow (i + 1) = ahN wf ow i + if i < ow ∧ 0 < wf i then 1 else 0 := rfl
theorem ah_le {wf : Nat → Nat} {ow : Nat} : ∀ i, ahN wf ow i ≤ i := by
  intro i
  induction i with
  | zero => exact Nat.le_refl _
  | succ i ih => rw [ah_s]; split <;> omega
def pyN (wf : Nat → Nat) (R ow : Nat) : Nat := if wf ow = 0 then 0 else h0N R wf 31 ow + if ahN wf ow 31 < R - sN (h0N R wf 31) 31 then 1 else 0
theorem c_weigh {q : Nat} {M : Mem} {c : Nat} {Q : Mem → Prop} (hI : Inv q (VC M)) (hc : c < 8) (hd : 0 < VC M 12 c 0) (k : ∀ N, ScC M N → (∀ o, o < 31 → N 112 o = nI (wfV (VC M) c o)) → Q N) : P_X6_weighOwners (nI c) M Q := by
  have h6 : I6 (VC M) := hI.2.2.2.2.2.2.2.1
  have h12 : I12 (VC M) := hI.2.2.2.2.2.2.1
  have ish : ISh (VC M) := hI.2.2.2.2.2.2.2.2.1
  have isum : ISum (VC M) := hI.2.2.2.2.2.2.2.2.2.1
  have h10 : I10 (VC M) := hI.2.2.2.2.2.1
  obtain ⟨hn, en⟩ := ns_eq h6
  obtain ⟨hT, -, -⟩ := mn_le ish h12 isum hc hd
  intro J2 J36 J39 J104 J103 hJ2 hJ36 hJ39 hJ104 hJ103
  have l2 : ∀ hb : Int32, (hb = 0 ↔ ¬ VC M 10 2 0 = 1) → ∀ N, ScC M N → (∀ o, o < 31 → N 112 o = 0) → J39 hb 0 N := fun hb hhb => by
    have main := dn (P := fun i => ∀ N, ScC M N → (∀ o, o < 31 → N 112 o = nI (wfA (VC M) c i o)) → J39 hb (nI i) N) (ns (VC M)) (fun i hi hst N S w => by
      have hi60 : i < 60 := by omega
      obtain ⟨f0, o0, e20, e21, hb1, h1, e22, ho⟩ := sh_num ish h12 hi
      apply hJ39
      rw [rc_6 N, S.2.1, en]
      refine br_f (nI_ge hi (by omega)) ⟨vp_in_nI hi60 (by omega), ?_⟩
      rw [nI_clamp (by omega), rc_19 N hi60, rc_20 N hi60, rc_21 N hi60, rc_22 N hi60, S.2.1, e20, e21, e22]
      refine ⟨fun hno => ?_, fun hy => ?_⟩
      · apply hJ104
        rw [nI_1]
        refine hst N S (fun o ho' => ?_)
        rw [w o ho']
        have hsame : mnV (VC M) c (i + 1) o = mnV (VC M) c i o := by rw [mn_s, if_neg (fun h => hno h.1), Nat.add_zero]
        congr 1
        unfold wfA
        rw [hsame]
      · have hmn : mnV (VC M) c (i + 1) o0 = mnV (VC M) c i o0 + lnV (VC M) i := by rw [mn_s, if_pos ⟨hy, e22⟩]
        have hmo : ∀ o, o < 31 → o ≠ o0 → mnV (VC M) c (i + 1) o = mnV (VC M) c i o := fun o ho' ne => by
          rw [mn_s, if_neg (fun h => ne ((nI_eq (by omega) (by omega)).mp (h.2.symm.trans e22))), Nat.add_zero]
        have hmb : mnV (VC M) c (i + 1) o0 ≤ 21600 := by
          have a1 := mn_mono (V := VC M) (c := c) (o := o0) (n := i + 1) (m := ns (VC M)) (by omega)
          have a2 := mn_1 (V := VC M) (c := c) (n := ns (VC M)) (o := o0) (by omega)
          omega
        have fin : ∀ v : Int32, v = nI (wfA (VC M) c (i + 1) o0) → J103 hb (nI i) v (nI o0) N := fun v ev => by
          apply hJ103
          rw [nI_clamp (by omega)]
          refine ⟨vp_in_nI (by omega) (by omega), ?_⟩
          apply hJ104
          rw [nI_1]
          refine hst _ (S.tr (scc_up (by omega))) (fun o ho' => ?_)
          by_cases e : o = o0
          · rw [e, mup_e, ev]
          · rw [mup_n (by omega), w o ho']
            congr 1
            unfold wfA
            rw [hmo o ho' e]
        refine br_c (fun hz => ⟨vp_in_nI (by omega) (by omega), fin _ ?_⟩) (fun hz => fin 1 ?_)
        · have h1' := hhb.mp hz
          rw [nI_clamp (by omega), w o0 (by omega), nI_add, pk_sub (by omega)]
          congr 1
          unfold wfA
          rw [if_neg h1', if_neg h1', hmn]
          omega
        · have h1' : VC M 10 2 0 = 1 := Decidable.byContradiction (fun h => hz (hhb.mpr h))
          unfold wfA
          rw [if_pos h1', if_pos (by omega)]
          rfl) (fun N S w => by
      apply hJ39
      rw [rc_6 N, S.2.1, en]
      exact br_t (nI_le (Nat.le_refl _) (by omega)) (k N S w))
    intro N S w
    refine main N S (fun o ho => ?_)
    rw [w o ho]
    have : wfA (VC M) c 0 o = 0 := by
      unfold wfA
      have : mnV (VC M) c 0 o = 0 := rfl
      rw [this]
      split <;> rfl
    rw [this]
    rfl
  have l1 := dn (P := fun i => ∀ N, ScC M N → (∀ o, o < i → N 112 o = 0) → J2 (nI i) N) 31 (fun i hi hst N S w => by
    apply hJ2
    refine br_f (nI_nlt (a := 30) (by omega) (by omega)) ⟨vp_in_nI hi (by omega), ?_⟩
    rw [nI_clamp (by omega), nI_1]
    refine hst _ (S.tr (scc_up (by omega))) (fun o ho => ?_)
    by_cases e : o = i
    · rw [e, mup_e]
    · rw [mup_n (by omega)]
      exact w o (by omega)) (fun N S w => by
    apply hJ2
    refine br_t (by decide) ⟨vp_in_nI (n := 2) (by omega) (by omega), ?_⟩
    rw [show (2 : Int32) = nI 2 from rfl, nI_clamp (by omega), rc_10 N (by omega), S.2.1]
    refine ⟨fun h => ?_, fun h => ?_⟩
    · apply hJ36
      exact l2 0 ⟨fun _ => h, fun _ => rfl⟩ N S w
    · apply hJ36
      exact l2 1 ⟨fun h1 => absurd h1 (by decide), fun h1 => absurd h h1⟩ N S w)
  exact l1 M ScC.r (fun o ho => absurd ho (Nat.not_lt_zero _))
theorem c_paidBy {M : Mem} {wf : Nat → Nat} {R ow : Nat} {Q : Int32 → Mem → Prop} (hS : 0 < sN wf 31) (hS2 : sN wf 31 ≤ 21600) (hR : R ≤ 1000000) (ho : ow < 31) (hw : ∀ o, o < 31 → M 112 o = nI (wf o)) (k : Q (nI (pyN wf R ow)) M) : P_X6_paidBy (nI ow) (nI R) M Q := by
  intro J5 J37 J120 J80 hJ5 hJ37 hJ120 hJ80
  have hwb : ∀ o, o < 31 → wf o ≤ 21600 := fun o ho => by
    have := mn_1' (f := wf) (o := o) 31 ho
    omega
  have hall := h0_all (A := R) hS
  have hpart : ∀ o, o < 31 → h0N R wf 31 o ≤ R := fun o ho => by
    have := h0_le (A := R) (n := o + 1) hS (by omega)
    simp only [sN] at this
    omega
  have hmul : ∀ o, o < 31 → R * wf o < 2 ^ 63 := fun o ho => by
    have := Nat.mul_le_mul hR (hwb o ho)
    omega
  have l2 := dn (P := fun i => J37 (nI (sN wf 31)) (nI (R - sN (h0N R wf 31) i)) (nI (ahN wf ow i)) (nI i) M) 31 (fun i hi hst => by
    have hle := h0_le (A := R) (n := i + 1) hS (by omega)
    simp only [sN] at hle
    apply hJ37
    refine br_f (nI_nlt (a := 30) (by omega) (by omega)) ⟨vp_in_nI hi (by omega), ?_⟩
    rw [nI_clamp (by omega), hw i hi]
    have := hwb i hi
    refine c_partOf (by omega) (by omega) (by omega) hS (hmul i hi) ?_
    have e : nI (R - sN (h0N R wf 31) i) - nI (R * wf i / sN wf 31) = nI (R - sN (h0N R wf 31) (i + 1)) := by
      have e1 : R * wf i / sN wf 31 = h0N R wf 31 i := rfl
      rw [e1, pk_sub (by omega)]
      simp only [sN]
      congr 1
      omega
    rw [e, hw i hi]
    have nx : ∀ a : Nat, ahN wf ow (i + 1) = a → J80 (nI (sN wf 31)) (nI (R - sN (h0N R wf 31) (i + 1))) (nI a) (nI i) M := fun a ea => by
      apply hJ80
      rw [nI_1, ← ea]
      exact hst
    refine br_c (fun h => nx _ ?_) (fun h => ⟨vp_in_nI hi (by omega), br_c (fun h2 => nx _ ?_) (fun h2 => ?_)⟩)
    · rw [nI_leI (by omega) (by omega)] at h
      rw [ah_s, if_neg (by omega), Nat.add_zero]
    · rw [ah_s, if_neg, Nat.add_zero]
      intro h3
      exact nI_nle h3.2 (by omega) h2
    · rw [nI_1]
      refine nx _ ?_
      rw [nI_leI (by omega) (by omega)] at h
      have : 0 < wf i := Decidable.byContradiction (fun hz => h2 (by rw [show wf i = 0 by omega]; decide))
      rw [ah_s, if_pos ⟨by omega, this⟩]) (by
    apply hJ37
    refine br_t (by decide) ⟨vp_in_nI ho (by omega), ?_⟩
    rw [nI_clamp (by omega), hw ow ho]
    have hwo := hwb ow ho
    unfold pyN at k
    by_cases hz : wf ow = 0
    · rw [if_pos hz] at k
      exact ⟨fun h => absurd (by rw [hz]; rfl) h, fun _ => k⟩
    · rw [if_neg hz] at k
      refine ⟨fun _ => ⟨vp_in_nI ho (by omega), ?_⟩, fun h => absurd h (nI_ne0 (by omega) (by omega))⟩
      refine c_partOf (by omega) (by omega) (by omega) hS (hmul ow ho) ?_
      have e1 : R * wf ow / sN wf 31 = h0N R wf 31 ow := rfl
      have hah := ah_le (wf := wf) (ow := ow) 31
      rw [e1]
      by_cases hl : ahN wf ow 31 < R - sN (h0N R wf 31) 31
      · rw [if_pos hl] at k
        refine br_f (nI_ge hl (by omega)) ?_
        apply hJ120
        rw [nI_1]
        exact k
      · rw [if_neg hl] at k
        refine br_t (nI_le (by omega) (by omega)) ?_
        apply hJ120
        rw [Int32.add_zero]
        exact k)
  have l1 := dn (P := fun i => J5 (nI (sN wf i)) (nI i) M) 31 (fun i hi hst => by
    apply hJ5
    refine br_f (nI_nlt (a := 30) (by omega) (by omega)) ⟨vp_in_nI hi (by omega), ?_⟩
    rw [nI_clamp (by omega), hw i hi, nI_add, nI_1]
    exact hst) (by
    apply hJ5
    refine br_t (by decide) ?_
    exact l2)
  exact l1
theorem r_portion {M : Mem} {c R o H : Nat} {Q : Int64 → Mem → Prop} (hc : c < 8) (ho : o < 31) (hR : R ≤ 1000000) (mn : Nat → Nat) (hm : M 136 o = nI (mn o)) (hmb : mn o ≤ 21600) (T : Nat) (hT : VR M 12 c 0 = nI T) (hT0 : 0 < T) (hTb : T ≤ 21600) (hH : 0 < H) (hHb : H ≤ 31) (k : Q (lN (if VR M 10 2 0 = 1 then R / H else R * mn o / T)) M) : P_X7_portion (lN R) (nI o) (nI c) (nI H) M Q := by
  unfold P_X7_portion
  rw [show (2 : Int32) = nI 2 from rfl, nI_clamp (by omega), nI_clamp (by omega), nI_clamp (by omega), rr_10 M (by omega), rr_12 M hc, hT, hm, nI_l (by omega), nI_l (by omega), nI_l (by omega)]
  refine ⟨vp_in_nI (by omega) (by omega), fun h => ⟨vp_in_nI ho (by omega), vp_in_nI hc (by omega), fun hz => ?_, ?_⟩, fun h => ⟨fun hz => ?_, ?_⟩⟩
  · have := (pk_lEQ (a := T) (b := 0) (by omega) (by omega)).mp hz
    omega
  · rw [if_neg h] at k
    have := Nat.mul_le_mul hR hmb
    rw [lN_mul, pk_lDiv (by omega) hT0 (by omega)]
    exact k
  · have := (pk_lEQ (a := H) (b := 0) (by omega) (by omega)).mp hz
    omega
  · rw [if_pos h] at k
    rw [pk_lDiv (by omega) hH (by omega)]
    exact k
