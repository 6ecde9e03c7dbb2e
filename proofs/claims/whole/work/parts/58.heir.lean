/-! ===== heirs: the reference's side, and both ===== -/
theorem r_setsS {M : Mem} {s : Nat} {f t o : Int32} {Q : Mem → Prop} (hs : s < 60) (k : ∀ M', Lo M M' → (∀ k' l, (129 ≤ k' ∧ k' < 132) → M' k' l = M k' l) → VR M' = shU (VR M) s (VR M 19 s 0) f t o → AuR M' = AuR M → M' 118 0 = M 118 0 → Q M') : P_X7_sets (nI s) f t o M Q := by
  have h := r_sets (M := M) (f := f) (t := t) (o := o) (Q := fun M' => Lo M M' ∧ VR M' = shU (VR M) s (VR M 19 s 0) f t o ∧ AuR M' = AuR M ∧ M' 118 0 = M 118 0) hs (fun M' h1 h2 h3 h4 => ⟨h1, h2, h3, h4⟩)
  obtain ⟨b1, b2, b3, b4, b5, h1, h2, h3, h4⟩ := h
  refine ⟨b1, b2, b3, b4, b5, k _ h1 (fun k' l hk => ?_) h2 h3 h4⟩
  exact (mup_n (by omega)).trans ((mup_n (by omega)).trans ((mup_n (by omega)).trans ((mup_n (by omega)).trans (mup_n (by omega)))))
theorem r_addsS {M : Mem} {c f t o : Int32} {Q : Mem → Prop} (h6 : I6 (VR M)) (hn : ns (VR M) < 60) (k : ∀ M', Lo M M' → (∀ k' l, (129 ≤ k' ∧ k' < 132) → M' k' l = M k' l) → VR M' = adU (VR M) c f t o → AuR M' = AuR M → M' 118 0 = M 118 0 → Q M') : P_X7_adds c f t o M Q := by
  obtain ⟨-, en⟩ := ns_eq h6
  unfold P_X7_adds
  rw [rr_6 M, en, ix7a, nI_clamp (by omega)]
  refine ⟨vp_in_nI (by omega) (by omega), ?_⟩
  have v1 : VR (mup M 128 (7 * ns (VR M)) c) = vu (VR M) 19 (ns (VR M)) 0 c := ur_19 hn
  have a1 : AuR (mup M 128 (7 * ns (VR M)) c) = AuR M := AR_no (by unfold auxR; omega)
  have f1 : Lo M (mup M 128 (7 * ns (VR M)) c) := lo_up (by omega)
  have s1 : ∀ k' l, (129 ≤ k' ∧ k' < 132) → mup M 128 (7 * ns (VR M)) c k' l = M k' l := fun k' l hk => mup_n (by omega)
  have t1 : mup M 128 (7 * ns (VR M)) c 118 0 = M 118 0 := mup_n (by omega)
  show P_X7_sets (mup M 128 (7 * ns (VR M)) c 118 17) f t o (mup M 128 (7 * ns (VR M)) c) _
  generalize mup M 128 (7 * ns (VR M)) c = M1 at *
  have e1 : VR M1 6 0 0 = nI (ns (VR M)) := by rw [v1]; exact en
  rw [rr_6 M1, e1]
  refine r_setsS hn (fun M2 f2 s2 v2 a2 t2 => ?_)
  have e2 : VR M2 6 0 0 = nI (ns (VR M)) := by rw [v2]; exact e1
  rw [rr_6 M2, e2, nI_1]
  refine k _ (f1.tr (f2.tr (lo_up (by omega)))) (fun k' l hk => (mup_n (by omega)).trans ((s2 k' l hk).trans (s1 k' l hk))) ?_ ?_ ?_
  · rw [ur_6, v2, v1]
    unfold adU shU
    rw [vu_same]
  · rw [AR_no (by unfold auxR; omega), a2, a1]
  · rw [mup_n (by omega), t2, t1]
def pnf (pt : Nat → Int32) (j : Nat) : Nat := (pt j).toNatClampNeg
theorem r_heirs {M : Mem} {s f0 A : Nat} {p2 : Int32} {a pa b pb c pc d pd : Int32} {Q : Int32 → Mem → Prop} (h6 : I6 (VR M)) (hs : s < ns (VR M)) (hl : ¬ ltV (VR M) s) (e20 : VR M 20 s 0 = nI f0) (e21 : VR M 21 s 0 = nI (f0 + A)) (hb : f0 + A ≤ 21600)
    (kb : ¬ (∃ m, 2 ≤ m ∧ m ≤ 4 ∧ p2 = nI m ∧ GH (fv4 a b c d) (fv4 pa pb pc pd) m) → ∀ N, Lo M N → VR N = VR M → AuR N = AuR M → N 118 0 = 3 → Q 0 N)
    (km : ∀ m, 2 ≤ m → m ≤ 4 → p2 = nI m → GH (fv4 a b c d) (fv4 pa pb pc pd) m → 61 < ns (VR M) + pcN (hLN A (pnf (fv4 pa pb pc pd)) m) m → ∀ N, Lo M N → VR N = VR M → AuR N = AuR M → N 118 0 = 4 → Q 0 N)
    (kg : ∀ m, 2 ≤ m → m ≤ 4 → p2 = nI m → GH (fv4 a b c d) (fv4 pa pb pc pd) m → ns (VR M) + pcN (hLN A (pnf (fv4 pa pb pc pd)) m) m ≤ 61 → ∀ N, Lo M N → VR N = hvV (VR M) s f0 (fv4 a b c d) (hLN A (pnf (fv4 pa pb pc pd)) m) m → AuR N = AuR M → N 118 0 = 0 → Q (nI (pcN (hLN A (pnf (fv4 pa pb pc pd)) m) m)) N) : P_X7_heirs (nI s) p2 a pa b pb c pc d pd M Q := by
  obtain ⟨hn, en⟩ := ns_eq h6
  have hs60 : s < 60 := by omega
  intro J107 J160 J151 J152 J171 J217 J248 J298 J372 J324 J387 J343 J468 J483 hJ107 hJ160 hJ151 hJ152 hJ171 hJ217 hJ248 hJ298 hJ372 hJ324 hJ387 hJ343 hJ468 hJ483
  refine wr_thr (fun M1 f1 v1 a1 t1 => r_noSh1 (by rw [v1]; exact h6) (by rw [v1]; exact hs) (thr0 ⟨fun h => absurd rfl h, fun _ => r_let hs60 (fun hy => absurd (by rw [v1] at hy; exact hy) hl) (fun _ => thr0 (br_t rfl ⟨vp_in_nI (n := 0) (by omega) (by omega), vp_in_nI (n := 1) (by omega) (by omega), vp_in_nI (n := 2) (by omega) (by omega), vp_in_nI (n := 3) (by omega) (by omega), vp_in_nI (n := 0) (by omega) (by omega), vp_in_nI (n := 1) (by omega) (by omega), vp_in_nI (n := 2) (by omega) (by omega), vp_in_nI (n := 3) (by omega) (by omega), ?_⟩))⟩))
  -- the rows of names
  show P_X7_in p2 (2 : Int32) (4 : Int32) (mup (mup (mup (mup (mup (mup (mup (mup M1 129 (0 : Int32).toNatClampNeg a) 129 (1 : Int32).toNatClampNeg b) 129 (2 : Int32).toNatClampNeg c) 129 (3 : Int32).toNatClampNeg d) 130 (0 : Int32).toNatClampNeg pa) 130 (1 : Int32).toNatClampNeg pb) 130 (2 : Int32).toNatClampNeg pc) 130 (3 : Int32).toNatClampNeg pd) (fun r23 M22 => J107 r23 (0 : Int32) M22)
  generalize hN0 : mup (mup (mup (mup (mup (mup (mup (mup M1 129 (0 : Int32).toNatClampNeg a) 129 (1 : Int32).toNatClampNeg b) 129 (2 : Int32).toNatClampNeg c) 129 (3 : Int32).toNatClampNeg d) 130 (0 : Int32).toNatClampNeg pa) 130 (1 : Int32).toNatClampNeg pb) 130 (2 : Int32).toNatClampNeg pc) 130 (3 : Int32).toNatClampNeg pd = N0
  have S1 : ScR M1 N0 := by
    rw [← hN0]
    exact (scr_up (by omega)).tr ((scr_up (by omega)).tr ((scr_up (by omega)).tr ((scr_up (by omega)).tr ((scr_up (by omega)).tr ((scr_up (by omega)).tr ((scr_up (by omega)).tr (scr_up (by omega))))))))
  have w0 : ∀ j, j < 4 → N0 129 j = fv4 a b c d j := fun j hj => by
    rw [← hN0]
    rcases (show j = 0 ∨ j = 1 ∨ j = 2 ∨ j = 3 by omega) with rfl | rfl | rfl | rfl <;> rfl
  have q0 : ∀ j, j < 4 → N0 130 j = fv4 pa pb pc pd j := fun j hj => by
    rw [← hN0]
    rcases (show j = 0 ∨ j = 1 ∨ j = 2 ∨ j = 3 by omega) with rfl | rfl | rfl | rfl <;> rfl
  have fL : Lo M N0 := f1.tr S1.1
  have fV : VR N0 = VR M := S1.2.1.trans v1
  have fA : AuR N0 = AuR M := S1.2.2.1.trans a1
  have fT : N0 118 0 = 0 := S1.2.2.2.trans t1
  have bad : ¬ (∃ m, 2 ≤ m ∧ m ≤ 4 ∧ p2 = nI m ∧ GH (fv4 a b c d) (fv4 pa pb pc pd) m) → J160 0 N0 := fun hno => by
    apply hJ160
    refine ⟨fun h => absurd rfl h, fun _ => ?_⟩
    apply hJ171
    exact thr1 (wr_thr (fun M2 f2 v2 a2 t2 => br_f (by decide) (kb hno M2 (fL.tr f2) (v2.trans fV) (a2.trans fA) t2)))
  by_cases g2 : p2 < 2 ∨ 4 < p2
  · refine in0 g2 ?_
    apply hJ107
    refine br_t rfl (bad (fun ⟨m, m1, m2, m3, _⟩ => ?_))
    rw [m3] at g2
    rcases g2 with g2 | g2
    · exact nI_nlt (b := 2) m1 (by omega) g2
    · exact nI_nlt (a := 4) m2 (by omega) g2
  obtain ⟨m, hm4, e2⟩ : ∃ m, m ≤ 4 ∧ p2 = nI m := nI_of2 (M := 4) (n := 4) rfl (fun h => g2 (Or.inl (by rw [i32_lt] at h ⊢; have : (2 : Int32).toInt = 2 := rfl; rw [t0] at h; omega))) (by rw [i32_le]; have this : ¬ (4 : Int32) < p2 := fun h => g2 (Or.inr h); rw [i32_lt] at this; omega)
  have hm2 : 2 ≤ m := Decidable.byContradiction (fun h => g2 (Or.inl (by rw [e2]; exact nI_lt (b := 2) (by omega) (by omega))))
  subst e2
  refine in1 (fun h => g2 (Or.inl h)) (fun h => g2 (Or.inr h)) ?_
  -- the pieces
  have pieces : GH (fv4 a b c d) (fv4 pa pb pc pd) m → ns (VR M) + pcN (hLN A (pnf (fv4 pa pb pc pd)) m) m ≤ 61 → f0 + sN (hLN A (pnf (fv4 pa pb pc pd)) m) m ≤ 21600 → ∀ N, Lo M N → VR N = VR M → AuR N = AuR M → N 118 0 = 0 → (∀ j, j < 4 → N 129 j = fv4 a b c d j) → (∀ j, j < m → N 131 j = nI (hLN A (pnf (fv4 pa pb pc pd)) m j)) → J387 (nI (7 * s)) (nI f0) (nI (pcN (hLN A (pnf (fv4 pa pb pc pd)) m) m)) 1 0 N := fun hG hr hbA N b1 b2 b3 b4 b5 b6 => by
    have kg := kg m hm2 hm4 rfl hG hr
    generalize hLN A (pnf (fv4 pa pb pc pd)) m = L at *
    generalize fv4 a b c d = ow at *
    have main := dn (P := fun i => ∀ N', Lo N N' → (∀ k' l, (129 ≤ k' ∧ k' < 132) → N' k' l = N k' l) → VR N' = hvV (VR M) s f0 ow L i → AuR N' = AuR M → N' 118 0 = 0 → J387 (nI (7 * s)) (nI (f0 + sN L i)) (nI (pcN L m)) (nI (if pcN L i = 0 then 1 else 0)) (nI i) N') m (fun i hi hst N' g1 g2 g3 g4 g5 => by
      have hsi : sN L (i + 1) ≤ sN L m := sN_mono _ _ (by omega)
      have hss : sN L (i + 1) = sN L i + L i := rfl
      have hpm : pcN L (i + 1) ≤ pcN L m := pc_mono (by omega)
      obtain ⟨i1, i2, i3, i4, i5⟩ := hv_inv (f0 := f0) (ow := ow) h6 hs hr i (by omega)
      apply hJ387
      refine br_f (nI_ge hi (by omega)) ⟨vp_in_nI (by omega) (by omega), ?_⟩
      rw [nI_clamp (by omega), g2 131 i (by omega), b6 i hi, g2 129 i (by omega), b5 i (by omega), nI_add, show f0 + sN L i + L i = f0 + sN L (i + 1) by omega]
      by_cases h0 : L i = 0
      · refine ⟨fun h => absurd (by rw [h0]; rfl) h, fun _ => ?_⟩
        apply hJ483
        rw [nI_1]
        have := hst N' g1 g2 (by rw [hv_0 h0]; exact g3) g4 g5
        rw [pc_s, if_neg (show ¬ 0 < L i by omega), Nat.add_zero, hss, h0, Nat.add_zero] at this
        exact this
      · refine ⟨fun _ => ?_, fun h => absurd h (nI_ne0 (by omega) (by omega))⟩
        rw [pc_s, if_pos (show 0 < L i by omega)] at hpm
        have nxt : ∀ N1 : Mem, Lo N' N1 → (∀ k' l, (129 ≤ k' ∧ k' < 132) → N1 k' l = N' k' l) → VR N1 = hvV (VR M) s f0 ow L (i + 1) → AuR N1 = AuR M → N1 118 0 = 0 → J468 (nI (7 * s)) (nI (f0 + sN L i)) (nI (pcN L m)) (nI i) N1 := fun N1 c1 c2 c3 c4 c5 => by
          apply hJ468
          rw [nI_clamp (by omega), c2 131 i (by omega), g2 131 i (by omega), b6 i hi, nI_add, show f0 + sN L i + L i = f0 + sN L (i + 1) by omega]
          refine ⟨vp_in_nI (by omega) (by omega), ?_⟩
          apply hJ483
          rw [nI_1]
          have := hst N1 (g1.tr c1) (fun k' l hk => (c2 k' l hk).trans (g2 k' l hk)) c3 c4 c5
          rw [pc_s, if_pos (show 0 < L i by omega), if_neg (show ¬ pcN L i + 1 = 0 by omega)] at this
          exact this
        by_cases hp : pcN L i = 0
        · rw [if_pos hp]
          refine br_f (by decide) ⟨vp_in_nI (by omega) (by omega), vp_in_nI (by omega) (by omega), ?_⟩
          refine r_setsS hs60 (fun N1 c1 c2 c3 c4 c5 => nxt N1 c1 c2 ?_ (c4.trans g4) (c5.trans g5))
          rw [c3, g3, i3, hv_1 h0 hp]
        · rw [if_neg hp] at i1 ⊢
          refine br_t rfl ⟨vp_in_nI (by omega) (by omega), vp_in_nI (by omega) (by omega), vp_in_nI (by omega) (by omega), ?_⟩
          rw [nI_clamp (by omega), rr_19 N' hs60, g3, i3]
          refine r_addsS (by rw [g3]; exact i2) (by rw [g3]; omega) (fun N1 c1 c2 c3 c4 c5 => nxt N1 c1 c2 ?_ (c4.trans g4) (c5.trans g5))
          rw [c3, g3, hv_2 h0 hp]) (fun N' g1 g2 g3 g4 g5 => by
      apply hJ387
      exact br_t (nI_le (Nat.le_refl _) (by omega)) (kg N' (b1.tr g1) g3 g4 g5))
    exact main N Lo.rfl' (fun _ _ _ => rfl) b2 b3 b4
  -- the lengths
  have lengths : GH (fv4 a b c d) (fv4 pa pb pc pd) m → J171 0 N0 := fun hG => by
    have hp : ∀ j, j < m → N0 130 j = nI (pnf (fv4 pa pb pc pd) j) ∧ 1 ≤ pnf (fv4 pa pb pc pd) j ∧ pnf (fv4 pa pb pc pd) j ≤ 100 := fun j hj => by
      obtain ⟨x1, x2, x3⟩ := gH_p (hG j hj)
      exact ⟨(q0 j (by omega)).trans x1, x2, x3⟩
    have pieces := pieces hG
    have km := km m hm2 hm4 rfl hG
    generalize pnf (fv4 pa pb pc pd) = pn at *
    have hS1 : m ≤ sN pn m := sN_ge m (fun j hj => (hp j hj).2.1)
    have hS2 : sN pn m ≤ m * 100 := sN_le m (fun j hj => (hp j hj).2.2)
    have hS : 0 < sN pn m := by omega
    have hA' := h0_all (A := A) hS
    have hlf : hLf A pn m ≤ m := by unfold hLf; omega
    have hsum := hL_all (A := A) hS
    apply hJ171
    refine thr0 (br_t rfl ?_)
    rw [show (1 : Int32) = nI 1 from rfl, show (2 : Int32) = nI 2 from rfl, ix7, ix7, ix7a, nI_clamp (by omega), nI_clamp (by omega), rr_20 N0 hs60, rr_21 N0 hs60, fV, e20, e21, pk_sub (by omega), show f0 + A - f0 = A by omega]
    refine ⟨vp_in_nI (by omega) (by omega), vp_in_nI (by omega) (by omega), ?_⟩
    have l3 := dn (P := fun i => ∀ N, ScR N0 N → (∀ j, N 129 j = N0 129 j) → (∀ j, j < i → N 131 j = nI (hLN A pn m j)) → (∀ j, i ≤ j → j < m → N 131 j = nI (h0N A pn m j)) → J298 (nI (7 * s)) (nI f0) (nI (hLf A pn m)) (nI (pcN (hLN A pn m) i)) (nI i) N) m (fun i hi hst N g1 g2 g3 g4 => by
      apply hJ298
      refine br_f (nI_ge hi (by omega)) ⟨vp_in_nI (by omega) (by omega), ?_⟩
      rw [nI_clamp (by omega), g4 i (Nat.le_refl _) hi]
      have hb : h0N A pn m i ≤ A := by
        have := h0_le (A := A) (n := i + 1) hS (by omega)
        simp only [sN] at this
        omega
      have fin : ∀ b : Nat, b ≤ 1 → hLN A pn m i = h0N A pn m i + b → J324 (nI (7 * s)) (nI f0) (nI (hLf A pn m)) (nI (pcN (hLN A pn m) i)) (nI i) (nI b) (nI (h0N A pn m i)) (nI i) N := fun b hb1 eb => by
        apply hJ324
        rw [nI_clamp (by omega), nI_add, ← eb]
        refine ⟨vp_in_nI (by omega) (by omega), vp_in_nI (by omega) (by omega), ?_⟩
        rw [mup_e]
        have nx : ∀ c : Nat, pcN (hLN A pn m) (i + 1) = pcN (hLN A pn m) i + c → J343 (nI (7 * s)) (nI f0) (nI (hLf A pn m)) (nI i) (nI c) (nI (pcN (hLN A pn m) i)) (mup N 131 i (nI (hLN A pn m i))) := fun c ec => by
          apply hJ343
          rw [nI_add, ← ec, nI_1]
          refine hst _ (g1.tr (scr_up (by omega))) (fun j => ?_) (fun j hj => ?_) (fun j hj hj2 => ?_)
          · rw [mup_n (by omega)]; exact g2 j
          · by_cases e : j = i
            · rw [e, mup_e]
            · rw [mup_n (by omega)]; exact g3 j (by omega)
          · rw [mup_n (by omega)]; exact g4 j (by omega) hj2
        by_cases hz : 0 < hLN A pn m i
        · exact br_f (nI_nle hz (by omega)) (nx 1 (by rw [pc_s, if_pos hz]))
        · refine br_t ?_ (nx 0 (by rw [pc_s, if_neg hz]))
          rw [show hLN A pn m i = 0 by omega]
          decide
      by_cases hl : i < hLf A pn m
      · exact br_f (nI_ge hl (by omega)) (fin 1 (by omega) (by unfold hLN; rw [if_pos hl]))
      · exact br_t (nI_le (by omega) (by omega)) (fin 0 (by omega) (by unfold hLN; rw [if_neg hl]))) (fun N g1 g2 g3 g4 => by
      apply hJ298
      refine br_t (nI_le (Nat.le_refl _) (by omega)) ?_
      have vN : VR N = VR M := g1.2.1.trans fV
      have aN : AuR N = AuR M := g1.2.2.1.trans fA
      have lN' : Lo M N := fL.tr g1.1
      have tN : N 118 0 = 0 := g1.2.2.2.trans fT
      have hpc := pc_le (f := hLN A pn m) m
      have hpz : 0 < pcN (hLN A pn m) m ∨ pcN (hLN A pn m) m = 0 := by omega
      rw [rr_6 N, vN, en, nI_add]
      have key : (nI (ns (VR M) + pcN (hLN A pn m) m) - 1 ≤ 60) ↔ ns (VR M) + pcN (hLN A pn m) m ≤ 61 := by
        have e : (nI (ns (VR M) + pcN (hLN A pn m) m) - nI 1).toInt = ((ns (VR M) + pcN (hLN A pn m) m : Nat) : Int) - (1 : Nat) := pk_sub_toInt (by omega) (by omega)
        have e60 : (60 : Int32).toInt = 60 := rfl
        rw [i32_le, e60]
        rw [show (1 : Int32) = nI 1 from rfl, e]
        omega
      by_cases hr : ns (VR M) + pcN (hLN A pn m) m ≤ 61
      · refine br_t (key.mpr hr) ?_
        apply hJ372
        refine thr0 (br_t rfl ?_)
        exact pieces hr (by rw [hsum]; exact hb) N lN' vN aN tN (fun j hj => (g2 j).trans (w0 j hj)) g3
      · refine br_f (fun h => hr (key.mp h)) ?_
        apply hJ372
        exact thr1 (wr_thr (fun M2 f2 v2 a2 t2 => br_f (by decide) (km (by omega) M2 (lN'.tr f2) (v2.trans vN) (a2.trans aN) t2))))
    have l2 := dn (P := fun i => ∀ N, ScR N0 N → (∀ j, N 129 j = N0 129 j) → (∀ j, N 130 j = N0 130 j) → (∀ j, j < i → N 131 j = nI (h0N A pn m j)) → J248 (nI (7 * s)) (nI f0) (nI A) (nI (sN pn m)) (nI (A - sN (h0N A pn m) i)) (nI i) N) m (fun i hi hst N g1 g2 g3 g4 => by
      apply hJ248
      refine br_f (nI_ge hi (by omega)) ⟨vp_in_nI (by omega) (by omega), nI_ne0 hS (by omega), vp_in_nI (by omega) (by omega), ?_⟩
      have hpi := (hp i hi).2.2
      have hmul : A * pn i ≤ 21600 * 100 := Nat.mul_le_mul (by omega) hpi
      have hle := h0_le (A := A) (n := i + 1) hS (by omega)
      simp only [sN] at hle
      rw [nI_clamp (by omega), g3 i, (hp i hi).1, pk_mul, pk_div (by omega) hS (by omega)]
      refine ⟨vp_in_nI (by omega) (by omega), ?_⟩
      rw [mup_e, nI_1]
      have e : nI (A - sN (h0N A pn m) i) - nI (A * pn i / sN pn m) = nI (A - sN (h0N A pn m) (i + 1)) := by
        have e1 : A * pn i / sN pn m = h0N A pn m i := rfl
        rw [e1, pk_sub (by omega)]
        simp only [sN]
        congr 1
        omega
      rw [e]
      refine hst _ (g1.tr (scr_up (by omega))) (fun j => ?_) (fun j => ?_) (fun j hj => ?_)
      · rw [mup_n (by omega)]; exact g2 j
      · rw [mup_n (by omega)]; exact g3 j
      · by_cases e : j = i
        · rw [e, mup_e]; rfl
        · rw [mup_n (by omega)]; exact g4 j (by omega)) (fun N g1 g2 g3 g4 => by
      apply hJ248
      refine br_t (nI_le (Nat.le_refl _) (by omega)) ?_
      exact l3 N g1 g2 (fun j hj => absurd hj (Nat.not_lt_zero _)) (fun j _ hj => g4 j hj))
    have l1 := dn (P := fun i => J217 (nI (7 * s)) (nI f0) (nI A) (nI (sN pn i)) (nI i) N0) m (fun i hi hst => by
      apply hJ217
      refine br_f (nI_ge hi (by omega)) ⟨vp_in_nI (by omega) (by omega), ?_⟩
      rw [nI_clamp (by omega), (hp i hi).1, nI_add, nI_1]
      exact hst) (by
      apply hJ217
      refine br_t (nI_le (Nat.le_refl _) (by omega)) ?_
      exact l2 N0 ScR.r (fun _ => rfl) (fun _ => rfl) (fun j hj => absurd hj (Nat.not_lt_zero _)))
    exact l1
  -- whether all of them stand
  have := dn (P := fun i => GH (fv4 a b c d) (fv4 pa pb pc pd) i → J107 1 (nI i) N0) m (fun i hi hst hg => by
    apply hJ107
    refine br_f (by decide) (br_f (nI_ge hi (by omega)) ⟨vp_in_nI (by omega) (by omega), ?_⟩)
    rw [nI_clamp (by omega), w0 i (by omega)]
    have no : ¬ gH (fv4 a b c d) (fv4 pa pb pc pd) i → J151 (nI i) N0 := fun hno => by
      apply hJ151
      apply hJ152
      apply hJ107
      refine br_t rfl (bad (fun ⟨m', m1, m2, m3, m4⟩ => ?_))
      have := (nI_eq (by omega) (by omega)).mp m3
      exact hno (m4 i (by omega))
    by_cases g1 : fv4 a b c d i < 0 ∨ 30 < fv4 a b c d i
    · exact no1 g1 ⟨fun _ => no (fun h => h.1 g1), fun h => absurd h (by decide)⟩
    · refine no0 (fun h => g1 (Or.inl h)) (fun h => g1 (Or.inr h)) ⟨fun h => absurd rfl h, fun _ => ⟨vp_in_nI (by omega) (by omega), ?_⟩⟩
      rw [q0 i (by omega)]
      by_cases g3 : fv4 pa pb pc pd i < 1 ∨ 100 < fv4 pa pb pc pd i
      · exact in0 g3 (br_t rfl (no (fun h => h.2 g3)))
      · refine in1 (fun h => g3 (Or.inl h)) (fun h => g3 (Or.inr h)) (br_f (by decide) ?_)
        apply hJ152
        rw [nI_1]
        refine hst (fun j hj => ?_)
        by_cases e : j = i
        · rw [e]; exact ⟨g1, g3⟩
        · exact hg j (by omega)) (fun hg => by
    apply hJ107
    refine br_f (by decide) (br_t (nI_le (Nat.le_refl _) (by omega)) ?_)
    apply hJ160
    exact ⟨fun _ => lengths hg, fun h => absurd h (by decide)⟩)
  exact this (fun j hj => absurd hj (Nat.not_lt_zero _))
theorem c_heirs {M : Mem} {s f0 A : Nat} {p2 : Int32} {a pa b pb c pc d pd : Int32} {Q : Int32 → Mem → Prop} {X : String → Mem → Prop} (h6 : I6 (VC M)) (hs : s < ns (VC M)) (hl : ¬ ltV (VC M) s) (e20 : VC M 20 s 0 = nI f0) (e21 : VC M 21 s 0 = nI (f0 + A)) (hb : f0 + A ≤ 21600)
    (kb : ¬ (∃ m, 2 ≤ m ∧ m ≤ 4 ∧ p2 = nI m ∧ GH (fv4 a b c d) (fv4 pa pb pc pd) m) → ∀ N, ScC M N → X "java/lang/IllegalArgumentException" N)
    (km : ∀ m, 2 ≤ m → m ≤ 4 → p2 = nI m → GH (fv4 a b c d) (fv4 pa pb pc pd) m → 61 < ns (VC M) + pcN (hLN A (pnf (fv4 pa pb pc pd)) m) m → ∀ N, ScC M N → X "java/lang/UnsupportedOperationException" N)
    (kg : ∀ m, 2 ≤ m → m ≤ 4 → p2 = nI m → GH (fv4 a b c d) (fv4 pa pb pc pd) m → ns (VC M) + pcN (hLN A (pnf (fv4 pa pb pc pd)) m) m ≤ 61 → ∀ N, Hi M N → VC N = hvV (VC M) s f0 (fv4 a b c d) (hLN A (pnf (fv4 pa pb pc pd)) m) m → (∀ j, AuC N 0 j = AuC M 0 j) → (∀ j, 0 < VC N 25 j 0 → AuC N 1 j = AuC M 1 j) → Q (nI (pcN (hLN A (pnf (fv4 pa pb pc pd)) m) m)) N) : P_X6_heirs (nI s) p2 a pa b pb c pc d pd M Q X := by
  obtain ⟨hn, en⟩ := ns_eq h6
  have hs60 : s < 60 := by omega
  refine c_ul2 h6 hs hl ?_
  refine c_name (j := 0) (by omega) (fun M1 s1 x1 y1 => c_name (j := 1) (by omega) (fun M2 s2 x2 y2 => c_name (j := 2) (by omega) (fun M3 s3 x3 y3 => c_name (j := 3) (by omega) (fun N0 s4 x4 y4 => ?_))))
  have S0 : ScC M N0 := s1.tr (s2.tr (s3.tr s4))
  have w0 : ∀ j, j < 4 → N0 109 j = fv4 a b c d j := fun j hj => by
    rw [x4, x3, x2, x1]
    rcases (show j = 0 ∨ j = 1 ∨ j = 2 ∨ j = 3 by omega) with rfl | rfl | rfl | rfl <;> rfl
  have q0 : ∀ j, j < 4 → N0 111 j = fv4 pa pb pc pd j := fun j hj => by
    rw [y4, y3, y2, y1]
    rcases (show j = 0 ∨ j = 1 ∨ j = 2 ∨ j = 3 by omega) with rfl | rfl | rfl | rfl <;> rfl
  by_cases g2 : p2 < 2 ∨ 4 < p2
  · refine wi0 g2 (br_t rfl (kb (fun ⟨m, m1, m2, m3, _⟩ => ?_) N0 S0))
    rw [m3] at g2
    rcases g2 with g2 | g2
    · exact nI_nlt (b := 2) m1 (by omega) g2
    · exact nI_nlt (a := 4) m2 (by omega) g2
  obtain ⟨m, hm4, e2⟩ : ∃ m, m ≤ 4 ∧ p2 = nI m := nI_of2 (M := 4) (n := 4) rfl (fun h => g2 (Or.inl (by rw [i32_lt] at h ⊢; have : (2 : Int32).toInt = 2 := rfl; rw [t0] at h; omega))) (by rw [i32_le]; have this : ¬ (4 : Int32) < p2 := fun h => g2 (Or.inr h); rw [i32_lt] at this; omega)
  have hm2 : 2 ≤ m := Decidable.byContradiction (fun h => g2 (Or.inl (by rw [e2]; exact nI_lt (b := 2) (by omega) (by omega))))
  subst e2
  refine wi1 (fun h => g2 (Or.inl h)) (fun h => g2 (Or.inr h)) (br_f (by decide) ?_)
  refine c_first hm4 w0 q0 (fun hG => ⟨fun _ => ?_, fun h => absurd h (by decide)⟩) (fun hG => ⟨fun h => absurd rfl h, fun _ => kb (fun ⟨m', m1, m2, m3, m4⟩ => ?_) N0 S0⟩)
  rotate_left
  · have := (nI_eq (by omega) (by omega)).mp m3
    rw [← this] at m4
    exact hG m4
  have hp : ∀ j, j < m → N0 111 j = nI (pnf (fv4 pa pb pc pd) j) ∧ 1 ≤ pnf (fv4 pa pb pc pd) j ∧ pnf (fv4 pa pb pc pd) j ≤ 100 := fun j hj => by
    obtain ⟨x1, x2, x3⟩ := gH_p (hG j hj)
    exact ⟨(q0 j (by omega)).trans x1, x2, x3⟩
  have km := km m hm2 hm4 rfl hG
  have kg := kg m hm2 hm4 rfl hG
  generalize pnf (fv4 pa pb pc pd) = pn at *
  have hS1 : m ≤ sN pn m := sN_ge m (fun j hj => (hp j hj).2.1)
  have hsum := hL_all (A := A) (pn := pn) (m := m) (by omega)
  rw [rc_20 N0 hs60, rc_21 N0 hs60, S0.2.1, e20, e21, pk_sub (by omega), show f0 + A - f0 = A by omega]
  refine c_partLength (by omega) hm4 (by omega) hp (fun N T1 T2 T3 => ?_)
  have S1 : ScC M N := S0.tr T1
  have hpc := pc_le (f := hLN A pn m) m
  rw [rc_6 N, S1.2.1, en, nI_add]
  have key : (nI (ns (VC M) + pcN (hLN A pn m) m) - 1 ≤ 60) ↔ ns (VC M) + pcN (hLN A pn m) m ≤ 61 := by
    have e : (nI (ns (VC M) + pcN (hLN A pn m) m) - nI 1).toInt = ((ns (VC M) + pcN (hLN A pn m) m : Nat) : Int) - (1 : Nat) := pk_sub_toInt (by omega) (by omega)
    have e60 : (60 : Int32).toInt = 60 := rfl
    rw [i32_le, e60]
    rw [show (1 : Int32) = nI 1 from rfl, e]
    omega
  by_cases hr : ns (VC M) + pcN (hLN A pn m) m ≤ 61
  · refine br_t (key.mpr hr) ?_
    refine c_leaveTo (f0 := f0) (L := hLN A pn m) (by rw [S1.2.1]; exact h6) (by rw [S1.2.1]; exact hs) (by rw [S1.2.1]; exact hr) hm4 (by rw [S1.2.1]; exact e20) (by rw [hsum]; exact hb) (fun j hj => (T2 j).trans (w0 j hj)) T3 (fun N1 g1 g2 g3 g4 => ?_)
    exact kg hr N1 (S1.1.tr g1) (by rw [g2, S1.2.1]) (fun j => by rw [g3, S1.2.2]) (fun j hj => by rw [g4 j hj, S1.2.2])
  · exact br_f (fun h => hr (key.mp h)) (km (by omega) N S1)
theorem hv_same {V : Vw} {s f0 : Nat} {ow : Nat → Int32} {L : Nat → Nat} : ∀ {i : Nat}, pcN L i = 0 → hvV V s f0 ow L i = V := by
  intro i
  induction i with
  | zero => intro _; rfl
  | succ i ih =>
    intro h
    rw [pc_s] at h
    by_cases h0 : L i = 0
    · rw [hv_0 h0]
      exact ih (by omega)
    · rw [if_pos (show 0 < L i by omega)] at h
      omega
theorem Inv_heirs {q : Nat} {V : Vw} {s f0 A m : Nat} {ow : Nat → Int32} {L : Nat → Nat} (h : Inv q V) (hs : s < ns V) (e20 : V 20 s 0 = nI f0) (e21 : V 21 s 0 = nI (f0 + A)) (hb : f0 + A ≤ 21600) (hA : 1 ≤ A) (hsum : sN L m = A) (hn : ns V + pcN L m ≤ 61) (how : ∀ j, j < m → rg (ow j) 0 30) : Inv q (hvV V s f0 ow L m) := by
  have h6 : I6 V := h.2.2.2.2.2.2.2.1
  have ish : ISh V := h.2.2.2.2.2.2.2.2.1
  have isum : ISum V := h.2.2.2.2.2.2.2.2.2.1
  obtain ⟨⟨d, d1, d2, d3, d4, d5, d6⟩, d7⟩ := ish s hs
  rw [e20, nI_toInt (by omega)] at d4 d5
  rw [e21, nI_toInt (by omega)] at d5 d6
  have hv := fun i hi => hv_inv (f0 := f0) (ow := ow) h6 hs hn i hi
  have all : ∀ i, i ≤ m → ISh (hvV V s f0 ow L i) ∧ ∀ c, smV (hvV V s f0 ow L i) c (ns (hvV V s f0 ow L i)) = if pcN L i = 0 then smV V c (ns V) else smV V c (ns V) - ctr V c s + (if V 19 s 0 = nI c then (sN L i : Int) else 0) := by
    intro i
    induction i with
    | zero => intro _; exact ⟨ish, fun c => by rw [if_pos (show pcN L 0 = 0 from rfl)]; rfl⟩
    | succ i ih =>
      intro hi
      obtain ⟨j1, j2⟩ := ih (by omega)
      obtain ⟨i1, i2, i3, i4, i5⟩ := hv i (by omega)
      have hsi : sN L (i + 1) ≤ sN L m := sN_mono _ _ hi
      have hss : sN L (i + 1) = sN L i + L i := rfl
      have hpm : pcN L (i + 1) ≤ pcN L m := pc_mono hi
      by_cases h0 : L i = 0
      · rw [hv_0 h0, pc_s, if_neg (show ¬ 0 < L i by omega), Nat.add_zero, hss, h0, Nat.add_zero]
        exact ⟨j1, j2⟩
      · have gs : GS (hvV V s f0 ow L i) (V 19 s 0) (nI (f0 + sN L i)) (nI (f0 + sN L (i + 1))) (ow i) := by
          refine GS.to (V := V) ⟨⟨d, d1, d2, d3, ?_, ?_, ?_⟩, how i (by omega)⟩ (fun d => i4 12 d 0 (by omega) (by omega))
          · rw [nI_toInt (by omega)]; omega
          · rw [nI_toInt (by omega), nI_toInt (by omega)]; omega
          · rw [nI_toInt (by omega)]; omega
        rw [pc_s, if_pos (show 0 < L i by omega)] at hpm
        have eN : ∀ c, ctN c (V 19 s 0) (nI (f0 + sN L i)) (nI (f0 + sN L (i + 1))) = if V 19 s 0 = nI c then (L i : Int) else 0 := fun c => by
          unfold ctN
          rw [nI_toInt (by omega), nI_toInt (by omega)]
          split
          · omega
          · rfl
        by_cases hp : pcN L i = 0
        · rw [hv_1 h0 hp]
          refine ⟨ISh_shU j1 gs, fun c => ?_⟩
          rw [if_pos hp] at i1
          have hz := (pc_z i).mp hp
          have e2 := j2 c
          rw [if_pos hp] at e2
          rw [D_shU (by omega), pc_s, if_pos (show 0 < L i by omega), if_neg (show ¬ pcN L i + 1 = 0 by omega), e2, eN c, hss, hz]
          have ec : ctr (hvV V s f0 ow L i) c s = ctr V c s := by
            have : hvV V s f0 ow L i = V := hv_same hp
            rw [this]
          rw [ec]
          split <;> omega
        · rw [if_neg hp] at i1
          have hr : ns (hvV V s f0 ow L i) < 60 := by omega
          rw [hv_2 h0 hp]
          refine ⟨ISh_adU j1 hr gs, fun c => ?_⟩
          have e2 := j2 c
          rw [if_neg hp] at e2
          rw [D_adU hr, pc_s, if_pos (show 0 < L i by omega), if_neg (show ¬ pcN L i + 1 = 0 by omega), e2, eN c, hss]
          split <;> omega
  obtain ⟨i1, i2, i3, i4, i5⟩ := hv m (Nat.le_refl _)
  obtain ⟨a1, a2⟩ := all m (Nat.le_refl _)
  refine h.shr i4 i2 a1 (fun c hc hd => ?_)
  rw [i4 12 c 0 (by omega) (by omega)] at hd ⊢
  have hpz : ¬ pcN L m = 0 := fun h => by
    have := (pc_z m).mp h
    omega
  rw [a2 c, if_neg hpz, isum c hc hd, hsum]
  unfold ctr
  rw [e20, e21, nI_toInt (by omega), nI_toInt (by omega)]
  split <;> omega
theorem T_heirs {q : Nat} {M : Mem} {p1 p2 a pa b pb c pc d pd : Int32} (h : Ok q M) (hq : q < 512) : P_X6_heirs p1 p2 a pa b pb c pc d pd M (fun r M1 => P_X7_heirs p1 p2 a pa b pb c pc d pd M1 (fun r' M2 => M2 118 0 = 0 ∧ r = r' ∧ Ok (q + 1) M2)) (fun E M1 => (E = "java/lang/IndexOutOfBoundsException" ∧ P_X7_heirs p1 p2 a pa b pb c pc d pd M1 (fun _ M2 => M2 118 0 = 1 ∧ Ok (q + 1) M2)) ∨ (E = "java/lang/IllegalStateException" ∧ P_X7_heirs p1 p2 a pa b pb c pc d pd M1 (fun _ M2 => M2 118 0 = 2 ∧ Ok (q + 1) M2)) ∨ (E = "java/lang/IllegalArgumentException" ∧ P_X7_heirs p1 p2 a pa b pb c pc d pd M1 (fun _ M2 => M2 118 0 = 3 ∧ Ok (q + 1) M2)) ∨ (E = "java/lang/UnsupportedOperationException" ∧ P_X7_heirs p1 p2 a pa b pb c pc d pd M1 (fun _ M2 => M2 118 0 = 4 ∧ Ok (q + 1) M2))) := by
  have hV := h.2.1.1
  have h6 : I6 (VR M) := h.2.2.2.2.2.2.2.2.2.1
  have ish : ISh (VR M) := h.2.2.2.2.2.2.2.2.2.2.1
  have i12 : I12 (VR M) := h.2.2.2.2.2.2.2.2.1
  have c6 : I6 (VC M) := by rw [hV]; exact h6
  have hn := (ns_eq h6).1
  refine ix_cases p1 (n := ns (VR M)) (by omega) (fun g => ?_) (fun s hs e => ?_)
  · refine c_ul0 c6 (by rw [hV]; exact g) (Or.inl ⟨rfl, ?_⟩)
    intro J107 J160 J151 J152 J171 J217 J248 J298 J372 J324 J387 J343 J468 J483 hJ107 hJ160 hJ151 hJ152 hJ171 hJ217 hJ248 hJ298 hJ372 hJ324 hJ387 hJ343 hJ468 hJ483
    exact wr_thr (fun M1 f1 v1 a1 t1 => r_noSh0 (by rw [v1]; exact h6) (by rw [v1]; exact g) (fl1 h hq f1 v1 a1 (fun M3 h3 => ⟨fun _ => h3, fun h => absurd h (by decide)⟩)))
  · subst e
    have hs60 : s < 60 := by omega
    by_cases hl : ltV (VR M) s
    · refine c_ul1 c6 (by rw [hV]; exact hs) (by rw [hV]; exact hl) (Or.inr (Or.inl ⟨rfl, ?_⟩))
      intro J107 J160 J151 J152 J171 J217 J248 J298 J372 J324 J387 J343 J468 J483 hJ107 hJ160 hJ151 hJ152 hJ171 hJ217 hJ248 hJ298 hJ372 hJ324 hJ387 hJ343 hJ468 hJ483
      exact wr_thr (fun M1 f1 v1 a1 t1 => r_noSh1 (by rw [v1]; exact h6) (by rw [v1]; exact hs) (thr0 ⟨fun h => absurd rfl h, fun _ => r_let hs60 (fun _ => fl1 h hq f1 v1 a1 (fun M3 h3 => br_f (by decide) h3)) (fun hn => absurd (by rw [v1]; exact hl) hn)⟩))
    · obtain ⟨⟨dd, d1, d2, d3, d4, d5, d6⟩, d7⟩ := ish s hs
      have d8 := i12 dd
      unfold rg at d8
      obtain ⟨f0, hf0, e20⟩ := rg_nI (x := VR M 20 s 0) (n := 21600) (by unfold rg; omega) (by omega)
      obtain ⟨t0', ht0, e21⟩ := rg_nI (x := VR M 21 s 0) (n := 21600) (by unfold rg; omega) (by omega)
      rw [e20, e21, nI_toInt (by omega), nI_toInt (by omega)] at d5
      obtain ⟨A, eA⟩ : ∃ A, t0' = f0 + A := ⟨t0' - f0, by omega⟩
      subst eA
      refine c_heirs (f0 := f0) (A := A) c6 (by rw [hV]; exact hs) (by rw [hV]; exact hl) (by rw [hV]; exact e20) (by rw [hV]; exact e21) ht0 (fun hb N S => Or.inr (Or.inr (Or.inl ⟨rfl, ?_⟩))) (fun m m2 m4 em hG hr N S => Or.inr (Or.inr (Or.inr ⟨rfl, ?_⟩))) (fun m m2 m4 em hG hr N f1 v1 a1 b1 => ?_)
      · have h' := h.scC S
        have e1 := hi_VR S.1
        exact r_heirs (f0 := f0) (A := A) (by rw [e1]; exact h6) (by rw [e1]; exact hs) (by rw [e1]; exact hl) (by rw [e1]; exact e20) (by rw [e1]; exact e21) ht0 (fun _ M2 f2 v2 a2 t2 => ⟨t2, h'.same hq f2 v2 a2⟩) (fun m m2 m4 em hG => absurd ⟨m, m2, m4, em, hG⟩ hb) (fun m m2 m4 em hG => absurd ⟨m, m2, m4, em, hG⟩ hb)
      · have h' := h.scC S
        have e1 := hi_VR S.1
        rw [hV] at hr
        refine r_heirs (f0 := f0) (A := A) (by rw [e1]; exact h6) (by rw [e1]; exact hs) (by rw [e1]; exact hl) (by rw [e1]; exact e20) (by rw [e1]; exact e21) ht0 (fun hb => absurd ⟨m, m2, m4, em, hG⟩ hb) (fun m' m2' m4' em' hG' hr' M2 f2 v2 a2 t2 => ⟨t2, h'.same hq f2 v2 a2⟩) (fun m' m2' m4' em' hG' hr' => ?_)
        have e3 : m' = m := (nI_eq (by omega) (by omega)).mp (em'.symm.trans em)
        subst e3
        rw [e1] at hr'
        omega
      · have e1 := hi_VR f1
        rw [hV] at hr v1
        refine r_heirs (f0 := f0) (A := A) (by rw [e1]; exact h6) (by rw [e1]; exact hs) (by rw [e1]; exact hl) (by rw [e1]; exact e20) (by rw [e1]; exact e21) ht0 (fun hb => absurd ⟨m, m2, m4, em, hG⟩ hb) (fun m' m2' m4' em' hG' hr' => ?_) (fun m' m2' m4' em' hG' hr' M2 f2 v2 a2 t2 => ⟨t2, ?_⟩)
        · have e3 : m' = m := (nI_eq (by omega) (by omega)).mp (em'.symm.trans em)
          subst e3
          rw [e1] at hr'
          omega
        · have e3 : m' = m := (nI_eq (by omega) (by omega)).mp (em'.symm.trans em)
          subst e3
          refine ⟨rfl, ?_⟩
          rw [e1] at v2
          obtain ⟨i1, i2, i3, i4, i5⟩ := hv_inv (f0 := f0) (ow := fv4 a b c d) h6 hs hr m' (Nat.le_refl _)
          have hS1 : m' ≤ sN (pnf (fv4 pa pb pc pd)) m' := sN_ge m' (fun j hj => (gH_p (hG j hj)).2.1)
          refine h.mk3 hq (by rw [lo_VC f2]; exact v1) v2 (by rw [a2, hi_AR f1]) (fun c => i4 12 c 0 (by omega) (by omega)) (fun k => by rw [lo_AC f2]; exact a1 k) (fun k hk h0 => ⟨i5 k h0, ?_⟩) (Inv_heirs h.2.2.next hs e20 e21 ht0 (by omega) (hL_all (by omega)) hr (fun j hj => ?_))
          · rw [lo_AC f2]
            exact b1 k (by rw [v1]; exact h0)
          · have := (hG j hj).1
            have e30 : (30 : Int32).toInt = 30 := rfl
            rw [i32_lt, i32_lt, t0, e30] at this
            unfold rg
            omega
