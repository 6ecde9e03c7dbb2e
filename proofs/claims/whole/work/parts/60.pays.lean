/-! ===== pays: the reference's side, and both ===== -/
def rsN (V : Vw) (K : Nat) : Nat := K - K * (V 10 3 0).toNatClampNeg / 100
theorem wf_S {V : Vw} {c : Nat} (h : ISh V) (h12 : I12 V) (hsum : ISum V) (hc : c < 8) (hd : 0 < V 12 c 0) : 0 < sN (wfV V c) 31 ∧ sN (wfV V c) 31 ≤ 21600 := by
  obtain ⟨h1, h2, h3⟩ := mn_le h h12 hsum hc hd
  by_cases hh : V 10 2 0 = 1
  · have e : wfV V c = fun o => if 0 < mnV V c (ns V) o then 1 else 0 := by
      funext o
      unfold wfV wfA
      rw [if_pos hh]
    have e2 : sN (wfV V c) 31 = pcN (mnV V c (ns V)) 31 := by rw [e]; rfl
    rw [e2]
    have := pc_le (f := mnV V c (ns V)) 31
    have hz := (pc_z (f := mnV V c (ns V)) 31)
    refine ⟨?_, by omega⟩
    rcases Nat.eq_zero_or_pos (pcN (mnV V c (ns V)) 31) with h0 | h0
    · have := hz.mp h0
      omega
    · exact h0
  · have e : wfV V c = mnV V c (ns V) := by
      funext o
      unfold wfV wfA
      rw [if_neg hh]
    rw [e]
    exact ⟨h2, h1⟩
theorem wf_part {V : Vw} {c R o : Nat} (hp : 0 < mnV V c (ns V) o) : (if V 10 2 0 = 1 then R / pcN (mnV V c (ns V)) 31 else R * mnV V c (ns V) o / sN (mnV V c (ns V)) 31) = h0N R (wfV V c) 31 o := by
  unfold h0N
  by_cases hh : V 10 2 0 = 1
  · have e : wfV V c = fun o => if 0 < mnV V c (ns V) o then 1 else 0 := by
      funext o
      unfold wfV wfA
      rw [if_pos hh]
    have e2 : sN (wfV V c) 31 = pcN (mnV V c (ns V)) 31 := by rw [e]; rfl
    have e3 : wfV V c o = 1 := by rw [e]; exact if_pos hp
    rw [if_pos hh, e2, e3, Nat.mul_one]
  · have e : wfV V c = mnV V c (ns V) := by
      funext o
      unfold wfV wfA
      rw [if_neg hh]
    rw [if_neg hh, e]
theorem r_pays {q : Nat} {M : Mem} {c : Nat} {p2 p3 : Int32} {Q : Int32 → Mem → Prop} (hI : Inv q (VR M)) (hD : Dg M) (hc : c < nc (VR M)) (hd : 0 < VR M 12 c 0)
    (kb : (p2 < 0 ∨ 30 < p2) ∨ (p3 < 0 ∨ 1000000 < p3) → ∀ N, Lo M N → VR N = VR M → AuR N = AuR M → N 118 0 = 3 → Q 0 N)
    (kg : ∀ ow K, ow < 31 → p2 = nI ow → p3 = nI K → K ≤ 1000000 → ∀ N, Lo M N → VR N = VR M → AuR N = AuR M → N 118 0 = 0 → Q (nI (pyN (wfV (VR M) c) (rsN (VR M) K) ow)) N) : P_X7_pays (nI c) p2 p3 M Q := by
  have h6 : I6 (VR M) := hI.2.2.2.2.2.2.2.1
  have h12 : I12 (VR M) := hI.2.2.2.2.2.2.1
  have ish : ISh (VR M) := hI.2.2.2.2.2.2.2.2.1
  have isum : ISum (VR M) := hI.2.2.2.2.2.2.2.2.2.1
  have h10 : I10 (VR M) := hI.2.2.2.2.2.1
  have hk := (nc_eq hI.1).1
  have hc8 : c < 8 := by omega
  obtain ⟨hn, en⟩ := ns_eq h6
  obtain ⟨hT, hT0, eT⟩ := mn_le ish h12 isum hc8 hd
  obtain ⟨hS, hS2⟩ := wf_S ish h12 isum hc8 hd
  intro J33 J58 J63 J75 J99 J193 J167 J264 J229 J232 J327 J297 hJ33 hJ58 hJ63 hJ75 hJ99 hJ193 hJ167 hJ264 hJ229 hJ232 hJ327 hJ297
  refine wr_thr (fun M1 f1 v1 a1 t1 => r_noCh1 (by rw [v1]; exact hI.1) (by rw [v1]; exact hc) (thr0 ⟨fun h => absurd rfl h, fun _ => ⟨vp_in_nI (by omega) (by omega), ?_⟩⟩))
  rw [nI_clamp (by omega), dg_y hD v1 a1 hc8 hd]
  refine ⟨fun _ => ?_, fun h => absurd h (by decide)⟩
  apply hJ33
  refine thr0 ⟨fun h => absurd rfl h, fun _ => ?_⟩
  have bad : (p2 < 0 ∨ 30 < p2) ∨ (p3 < 0 ∨ 1000000 < p3) → J58 M1 := fun hb => by
    apply hJ58
    apply hJ63
    exact thr1 (wr_thr (fun M2 f2 v2 a2 t2 => br_f (by decide) (kb hb M2 (f1.tr f2) (v2.trans v1) (a2.trans a1) t2)))
  by_cases g1 : p2 < 0 ∨ 30 < p2
  · exact no1 g1 ⟨fun _ => bad (Or.inl g1), fun h => absurd h (by decide)⟩
  refine no0 (fun h => g1 (Or.inl h)) (fun h => g1 (Or.inr h)) ⟨fun h => absurd rfl h, fun _ => ?_⟩
  by_cases g2 : p3 < 0 ∨ 1000000 < p3
  · exact in0 g2 ⟨fun h => absurd rfl h, fun _ => bad (Or.inr g2)⟩
  refine in1 (fun h => g2 (Or.inl h)) (fun h => g2 (Or.inr h)) ⟨fun _ => ?_, fun h => absurd h (by decide)⟩
  have e30 : (30 : Int32).toInt = 30 := rfl
  have eM : (1000000 : Int32).toInt = 1000000 := rfl
  rw [i32_lt, i32_lt, t0, e30] at g1
  rw [i32_lt, i32_lt, t0, eM] at g2
  obtain ⟨ow, how, ep2⟩ := rg_nI (x := p2) (n := 30) (by unfold rg; omega) (by omega)
  obtain ⟨K, hK, ep3⟩ := rg_nI (x := p3) (n := 1000000) (by unfold rg; omega) (by omega)
  subst ep2
  subst ep3
  have kg := kg ow K (by omega) rfl rfl hK
  obtain ⟨F, hF, eF⟩ := rg_nI (x := VR M 10 3 0) (n := 100) h10.2.2.2 (by omega)
  have eR : rsN (VR M) K = K - K * F / 100 := by unfold rsN; rw [eF, nI_clamp (by omega)]
  have hKF : K * F ≤ 1000000 * 100 := Nat.mul_le_mul hK hF
  have hKF2 : K * F / 100 ≤ K := by
    have := Nat.mul_le_mul (Nat.le_refl K) hF
    omega
  have hRb : rsN (VR M) K ≤ 1000000 := by rw [eR]; omega
  generalize hRR : rsN (VR M) K = R at *
  have kg : ∀ N, ScR M1 N → Q (nI (pyN (wfV (VR M) c) R ow)) N := fun N S => kg N (f1.tr S.1) (S.2.1.trans v1) (S.2.2.1.trans a1) (S.2.2.2.trans t1)
  have hmb : ∀ o, o < 31 → mnV (VR M) c (ns (VR M)) o ≤ 21600 := fun o ho => by
    have := mn_1 (V := VR M) (c := c) (n := ns (VR M)) ho
    omega
  have hwp : ∀ o, (0 < wfV (VR M) c o ↔ 0 < mnV (VR M) c (ns (VR M)) o) := fun o => wf_pos
  have hH0 : 0 < pcN (mnV (VR M) c (ns (VR M))) 31 := by
    rcases Nat.eq_zero_or_pos (pcN (mnV (VR M) c (ns (VR M))) 31) with h0 | h0
    · have := (pc_z _).mp h0
      omega
    · exact h0
  have hH1 := pc_le (f := mnV (VR M) c (ns (VR M))) 31
  have hprt : ∀ o, 0 < mnV (VR M) c (ns (VR M)) o → (if VR M 10 2 0 = 1 then R / pcN (mnV (VR M) c (ns (VR M))) 31 else R * mnV (VR M) c (ns (VR M)) o / sN (mnV (VR M) c (ns (VR M))) 31) = h0N R (wfV (VR M) c) 31 o := fun o ho => wf_part ho
  have hall := h0_all (A := R) hS
  have hah := ah_le (wf := wfV (VR M) c) (ow := ow) 31
  -- the last loop
  have l4 : ∀ N, ScR M1 N → (∀ o, o < 31 → N 136 o = nI (mnV (VR M) c (ns (VR M)) o)) → 0 < mnV (VR M) c (ns (VR M)) ow → J264 (nI (pcN (mnV (VR M) c (ns (VR M))) 31)) (nI (ahN (wfV (VR M) c) ow 31)) (lN R) (lN R) 0 N := fun N S w hpo => by
    have vN : VR N = VR M := S.2.1.trans v1
    have main := dn (P := fun i => J264 (nI (pcN (mnV (VR M) c (ns (VR M))) 31)) (nI (ahN (wfV (VR M) c) ow 31)) (lN R) (lN (R - sN (h0N R (wfV (VR M) c) 31) i)) (nI i) N) 31 (fun i hi hst => by
      have hle := h0_le (A := R) (n := i + 1) hS (by omega)
      have hss : sN (h0N R (wfV (VR M) c) 31) (i + 1) = sN (h0N R (wfV (VR M) c) 31) i + h0N R (wfV (VR M) c) 31 i := rfl
      apply hJ264
      refine br_f (nI_ge (b := 31) hi (by omega)) ⟨vp_in_nI hi (by omega), ?_⟩
      rw [nI_clamp (by omega), w i hi]
      by_cases hz : 0 < mnV (VR M) c (ns (VR M)) i
      · refine br_f (nI_nle hz (by have := hmb i hi; omega)) ?_
        refine r_portion hc8 hi hRb (mnV (VR M) c (ns (VR M))) (w i hi) (hmb i hi) _ (by rw [vN]; exact eT) hT0 hT hH0 hH1 ?_
        rw [vN, hprt i hz]
        apply hJ297
        rw [lN_sub (by omega), nI_1, show R - sN (h0N R (wfV (VR M) c) 31) i - h0N R (wfV (VR M) c) 31 i = R - sN (h0N R (wfV (VR M) c) 31) (i + 1) by omega]
        exact hst
      · refine br_t (by rw [show mnV (VR M) c (ns (VR M)) i = 0 by omega]; decide) ?_
        apply hJ297
        have hwz : wfV (VR M) c i = 0 := by
          have := hwp i
          omega
        have hpz : h0N R (wfV (VR M) c) 31 i = 0 := by
          unfold h0N
          rw [hwz, Nat.mul_zero, Nat.zero_div]
        rw [nI_1]
        rw [hss, hpz, Nat.add_zero] at hst
        exact hst) (by
      apply hJ264
      refine br_t (by decide) ?_
      refine r_portion hc8 (by omega) hRb (mnV (VR M) c (ns (VR M))) (w ow (by omega)) (hmb ow (by omega)) _ (by rw [vN]; exact eT) hT0 hT hH0 hH1 ?_
      rw [vN, hprt ow hpo]
      have hwo : ¬ wfV (VR M) c ow = 0 := by
        have := hwp ow
        omega
      have kN := kg N S
      unfold pyN at kN
      rw [if_neg hwo] at kN
      rw [nI_l (by omega), lg_cmp_ge, pk_lLE (by omega) (by omega)]
      by_cases hl : ahN (wfV (VR M) c) ow 31 < R - sN (h0N R (wfV (VR M) c) 31) 31
      · rw [if_pos hl] at kN
        refine br_f (by omega) ?_
        apply hJ327
        rw [lN_1, lN_i]
        exact kN
      · rw [if_neg hl, Nat.add_zero] at kN
        refine br_t (by omega) ?_
        apply hJ327
        rw [show (0 : Int64) = lN 0 from rfl, lN_add, lN_i]
        exact kN)
    exact main
  have l3 : ∀ N, ScR M1 N → (∀ o, o < 31 → N 136 o = nI (mnV (VR M) c (ns (VR M)) o)) → 0 < mnV (VR M) c (ns (VR M)) ow → J193 0 0 0 N := fun N S w hpo => by
    have vN : VR N = VR M := S.2.1.trans v1
    have main := dn (P := fun i => J193 (nI (pcN (mnV (VR M) c (ns (VR M))) i)) (nI (ahN (wfV (VR M) c) ow i)) (nI i) N) 31 (fun i hi hst => by
      apply hJ193
      refine br_f (nI_ge (b := 31) hi (by omega)) ⟨vp_in_nI hi (by omega), ?_⟩
      rw [nI_clamp (by omega), w i hi]
      have hwi := hwp i
      by_cases hz : mnV (VR M) c (ns (VR M)) i = 0
      · refine ⟨fun h => absurd (by rw [hz]; rfl) h, fun _ => ?_⟩
        apply hJ232
        rw [nI_1]
        rw [pc_s, if_neg (show ¬ 0 < mnV (VR M) c (ns (VR M)) i by omega), Nat.add_zero, ah_s, if_neg (show ¬ (i < ow ∧ 0 < wfV (VR M) c i) by omega), Nat.add_zero] at hst
        exact hst
      · refine ⟨fun _ => ?_, fun h => absurd h (nI_ne0 (by omega) (by have := hmb i hi; omega))⟩
        rw [nI_1]
        rw [pc_s, if_pos (show 0 < mnV (VR M) c (ns (VR M)) i by omega), ah_s] at hst
        refine br_c (fun h => ?_) (fun h => ?_)
        · rw [nI_leI (by omega) (by omega)] at h
          rw [if_neg (show ¬ (i < ow ∧ 0 < wfV (VR M) c i) by omega)] at hst
          apply hJ229
          apply hJ232
          rw [nI_1, show (0 : Int32) = nI 0 from rfl, nI_add]
          exact hst
        · rw [nI_leI (by omega) (by omega)] at h
          rw [if_pos (show (i < ow ∧ 0 < wfV (VR M) c i) by omega)] at hst
          apply hJ229
          apply hJ232
          rw [nI_1, nI_1]
          exact hst) (by
      apply hJ193
      refine br_t (by decide) ⟨vp_in_nI (n := 3) (by omega) (by omega), ?_⟩
      rw [show (3 : Int32) = nI 3 from rfl, nI_clamp (by omega), rr_10 N (by omega), vN, eF, nI_l (by omega), nI_l (by omega), lN_mul, show (100 : Int64) = lN 100 from rfl, pk_lDiv (by omega) (by omega) (by omega), lN_sub hKF2, ← eR]
      exact l4 N S w hpo)
    exact main
  have l2 : ∀ N, ScR M1 N → (∀ o, o < 31 → N 136 o = 0) → J99 0 N := fun N S w => by
    have main := dn (P := fun i => ∀ N, ScR M1 N → (∀ o, o < 31 → N 136 o = nI (mnV (VR M) c i o)) → J99 (nI i) N) (ns (VR M)) (fun i hi hst N S w => by
      have vN : VR N = VR M := S.2.1.trans v1
      have hi60 : i < 60 := by omega
      obtain ⟨f0, o0, e20, e21, hb1, h1, e22, ho⟩ := sh_num ish h12 hi
      apply hJ99
      rw [rr_6 N, vN, en]
      refine br_f (nI_ge hi (by omega)) ?_
      rw [show (1 : Int32) = nI 1 from rfl, show (2 : Int32) = nI 2 from rfl, show (3 : Int32) = nI 3 from rfl, ix7, ix7, ix7, ix7a, nI_clamp (by omega), nI_clamp (by omega), nI_clamp (by omega), nI_clamp (by omega), rr_19 N hi60, rr_20 N hi60, rr_21 N hi60, rr_22 N hi60, vN, e20, e21, e22, nI_clamp (by omega)]
      refine ⟨vp_in_nI (by omega) (by omega), fun hno => ?_, fun hy => ⟨vp_in_nI (by omega) (by omega), vp_in_nI (by omega) (by omega), vp_in_nI (by omega) (by omega), vp_in_nI (by omega) (by omega), vp_in_nI (by omega) (by omega), ?_⟩⟩
      · apply hJ167
        rw [nI_1]
        refine hst N S (fun o ho' => ?_)
        rw [w o ho', mn_s, if_neg (fun h => hno h.1), Nat.add_zero]
      · have hmn : mnV (VR M) c (i + 1) o0 = mnV (VR M) c i o0 + lnV (VR M) i := by rw [mn_s, if_pos ⟨hy, e22⟩]
        have hmo : ∀ o, o < 31 → o ≠ o0 → mnV (VR M) c (i + 1) o = mnV (VR M) c i o := fun o ho' ne => by
          rw [mn_s, if_neg (fun h => ne ((nI_eq (by omega) (by omega)).mp (h.2.symm.trans e22))), Nat.add_zero]
        rw [w o0 (by omega), pk_sub (by omega), show f0 + lnV (VR M) i - f0 = lnV (VR M) i by omega, nI_add, ← hmn]
        apply hJ167
        rw [nI_1]
        refine hst _ (S.tr (scr_up (by omega))) (fun o ho' => ?_)
        by_cases e : o = o0
        · rw [e, mup_e]
        · rw [mup_n (by omega), w o ho', hmo o ho' e]) (fun N S w => by
      have vN : VR N = VR M := S.2.1.trans v1
      apply hJ99
      rw [rr_6 N, vN, en]
      refine br_t (nI_le (Nat.le_refl _) (by omega)) ⟨vp_in_nI (by omega) (by omega), ?_⟩
      rw [nI_clamp (by omega), w ow (by omega)]
      have hwi := hwp ow
      by_cases hz : mnV (VR M) c (ns (VR M)) ow = 0
      · refine ⟨fun h => absurd (by rw [hz]; rfl) h, fun _ => ?_⟩
        have kN := kg N S
        unfold pyN at kN
        rw [if_pos (show wfV (VR M) c ow = 0 by omega)] at kN
        exact kN
      · exact ⟨fun _ => l3 N S w (by omega), fun h => absurd h (nI_ne0 (by omega) (by have := hmb ow (by omega); omega))⟩)
    exact main N S (fun o ho => (w o ho).trans rfl)
  apply hJ63
  refine thr0 (br_t rfl ?_)
  have l1 := dn (P := fun i => ∀ N, ScR M1 N → (∀ o, o < i → N 136 o = 0) → J75 (nI i) N) 31 (fun i hi hst N S w => by
    apply hJ75
    refine br_f (nI_ge (b := 31) hi (by omega)) ⟨vp_in_nI hi (by omega), ?_⟩
    rw [nI_clamp (by omega), nI_1]
    refine hst _ (S.tr (scr_up (by omega))) (fun o ho => ?_)
    by_cases e : o = i
    · rw [e, mup_e]
    · rw [mup_n (by omega)]
      exact w o (by omega)) (fun N S w => by
    apply hJ75
    exact br_t (by decide) (l2 N S w))
  exact l1 M1 ScR.r (fun o ho => absurd ho (Nat.not_lt_zero _))
theorem T_pays {q : Nat} {M : Mem} {p p2 p3 : Int32} (h : Ok q M) (hq : q < 512) : P_X6_pays p p2 p3 M (fun r M1 => P_X7_pays p p2 p3 M1 (fun r' M2 => M2 118 0 = 0 ∧ r = r' ∧ Ok (q + 1) M2)) (fun E M1 => (E = "java/lang/IndexOutOfBoundsException" ∧ P_X7_pays p p2 p3 M1 (fun _ M2 => M2 118 0 = 1 ∧ Ok (q + 1) M2)) ∨ (E = "java/lang/IllegalStateException" ∧ P_X7_pays p p2 p3 M1 (fun _ M2 => M2 118 0 = 2 ∧ Ok (q + 1) M2)) ∨ (E = "java/lang/IllegalArgumentException" ∧ P_X7_pays p p2 p3 M1 (fun _ M2 => M2 118 0 = 3 ∧ Ok (q + 1) M2))) := by
  have hV := h.2.1.1
  have hic := h.ic
  have c0 := h.ic.1
  have h0 := h.2.2.1
  have hn := (nc_eq h0).1
  refine ix_cases p (n := nc (VR M)) (by omega) (fun g => ?_) (fun c hc e => ?_)
  · refine c_dg0 c0 (by rw [hV]; exact g) (Or.inl ⟨rfl, ?_⟩)
    intro J33 J58 J63 J75 J99 J193 J167 J264 J229 J232 J327 J297 hJ33 hJ58 hJ63 hJ75 hJ99 hJ193 hJ167 hJ264 hJ229 hJ232 hJ327 hJ297
    exact wr_thr (fun M1 f1 v1 a1 t1 => r_noCh0 (by rw [v1]; exact h0) (by rw [v1]; exact g) (fl1 h hq f1 v1 a1 (fun M3 h3 => ⟨fun _ => h3, fun h => absurd h (by decide)⟩)))
  · subst e
    have hc8 : c < 8 := by omega
    by_cases hd : 0 < VR M 12 c 0
    rotate_left
    · refine c_dg1 c0 (by rw [hV]; exact hc) (by rw [hV]; exact hd) (Or.inr (Or.inl ⟨rfl, ?_⟩))
      intro J33 J58 J63 J75 J99 J193 J167 J264 J229 J232 J327 J297 hJ33 hJ58 hJ63 hJ75 hJ99 hJ193 hJ167 hJ264 hJ229 hJ232 hJ327 hJ297
      refine wr_thr (fun M1 f1 v1 a1 t1 => r_noCh1 (by rw [v1]; exact h0) (by rw [v1]; exact hc) (thr0 ⟨fun h => absurd rfl h, fun _ => ⟨vp_in_nI (by omega) (by omega), ?_⟩⟩))
      rw [nI_clamp (by omega), dg_n h.dg v1 a1 hc8 hd]
      refine ⟨fun h => absurd rfl h, fun _ => ?_⟩
      apply hJ33
      exact fl1 h hq f1 v1 a1 (fun M3 h3 => ⟨fun _ => h3, fun h => absurd h (by decide)⟩)
    · have bad : (p2 < 0 ∨ 30 < p2) ∨ (p3 < 0 ∨ 1000000 < p3) → P_X7_pays (nI c) p2 p3 M (fun _ M2 => M2 118 0 = 3 ∧ Ok (q + 1) M2) := fun hb =>
        r_pays h.2.2 h.dg hc hd (fun _ M2 f2 v2 a2 t2 => ⟨t2, h.same hq f2 v2 a2⟩) (fun ow K ho e2 e3 hK => by
          exfalso
          rw [e2, e3] at hb
          rcases hb with (hb | hb) | (hb | hb)
          · exact nI_pos (by omega) hb
          · exact nI_nlt (a := 30) (by omega) (by omega) hb
          · exact nI_pos (by omega) hb
          · exact nI_nlt (a := 1000000) hK (by omega) hb)
      refine c_dg2 c0 (by rw [hV]; exact hc) (by rw [hV]; exact hd) ?_
      by_cases g1 : p2 < 0 ∨ 30 < p2
      · exact ow0 g1 (br_t rfl (Or.inr (Or.inr ⟨rfl, bad (Or.inl g1)⟩)))
      refine ow1 (fun h => g1 (Or.inl h)) (fun h => g1 (Or.inr h)) (br_f (by decide) ?_)
      by_cases g2 : p3 < 0 ∨ 1000000 < p3
      · exact wi0 g2 ⟨fun h => absurd rfl h, fun _ => Or.inr (Or.inr ⟨rfl, bad (Or.inr g2)⟩)⟩
      refine wi1 (fun h => g2 (Or.inl h)) (fun h => g2 (Or.inr h)) ⟨fun _ => ?_, fun h => absurd h (by decide)⟩
      have e30 : (30 : Int32).toInt = 30 := rfl
      have eM : (1000000 : Int32).toInt = 1000000 := rfl
      rw [i32_lt, i32_lt, t0, e30] at g1
      rw [i32_lt, i32_lt, t0, eM] at g2
      obtain ⟨ow, how, ep2⟩ := rg_nI (x := p2) (n := 30) (by unfold rg; omega) (by omega)
      obtain ⟨K, hK, ep3⟩ := rg_nI (x := p3) (n := 1000000) (by unfold rg; omega) (by omega)
      subst ep2
      subst ep3
      refine c_weigh hic hc8 (by rw [hV]; exact hd) (fun N S w => ⟨vp_in_nI (n := 3) (by omega) (by omega), ?_⟩)
      rw [hV] at w
      obtain ⟨F, hF, eF⟩ := rg_nI (x := VR M 10 3 0) (n := 100) h.2.2.2.2.2.2.2.1.2.2.2 (by omega)
      have hKF : K * F ≤ 1000000 * 100 := Nat.mul_le_mul hK hF
      have hKF2 : K * F / 100 ≤ K := by
        have := Nat.mul_le_mul (Nat.le_refl K) hF
        omega
      rw [show (3 : Int32) = nI 3 from rfl, nI_clamp (by omega), rc_10 N (by omega), S.2.1, hV, eF, show (100 : Int32) = nI 100 from rfl]
      refine c_partOf (by omega) (by omega) (by omega) (by omega) (by omega) ?_
      rw [pk_sub hKF2]
      have eR : rsN (VR M) K = K - K * F / 100 := by unfold rsN; rw [eF, nI_clamp (by omega)]
      rw [← eR]
      obtain ⟨hS, hS2⟩ := wf_S h.2.2.2.2.2.2.2.2.2.2.1 h.2.2.2.2.2.2.2.2.1 h.2.2.2.2.2.2.2.2.2.2.2.1 hc8 hd
      refine c_paidBy hS hS2 (by rw [eR]; omega) (by omega) w ?_
      have h' := h.scC S
      have e1 := hi_VR S.1
      refine r_pays h'.2.2 h'.dg (by rw [e1]; exact hc) (by rw [e1]; exact hd) (fun hb => ?_) (fun ow' K' ho' e2 e3 hK' M2 f2 v2 a2 t2 => ⟨t2, ?_, h'.same hq f2 v2 a2⟩)
      · exfalso
        rcases hb with (hb | hb) | (hb | hb)
        · exact nI_pos (by omega) hb
        · exact nI_nlt (a := 30) (by omega) (by omega) hb
        · exact nI_pos (by omega) hb
        · exact nI_nlt (a := 1000000) hK (by omega) hb
      · have x1 := (nI_eq (by omega) (by omega)).mp e2
        have x2 := (nI_eq (by omega) (by omega)).mp e3
        subst x1
        subst x2
        rw [e1]
