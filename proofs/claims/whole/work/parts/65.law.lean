/-! ===== law: both ===== -/
theorem pW_i {k j : Nat} {v : Int32} {M : Mem} {T : Mem → Prop} (h : T (mup M k j v)) : pW k j v M T := h
theorem r_law {M : Mem} {T : Nat → Nat} {E : Nat} {d : Nat → Int32} {Q : Int32 → Mem → Prop} (hE : E ≤ 400) (e8 : VR M 8 0 0 = nI E) (hT : ∀ k, k < 400 → RB (AuR M 0 k) (T k)) (ed : ∀ j, j < 4 → VR M 10 j 0 = d j) (ky : ∀ n d', lwF T E (E + 1) 0 d 0 = .inl (n, d') → ∀ N, Lo M N → VR N = lawU (VR M) d' → AuR N = AuR M → N 118 0 = 0 → Q (nI n) N) (kn : ∀ b, lwF T E (E + 1) 0 d 0 = .inr b → ∀ N, Lo M N → VR N = lawX (VR M) b → AuR N = AuR M → N 118 0 = 1 → Q 0 N) : P_X7_law M Q := by
  intro J25 J55 J114 J127 J140 J151 hJ25 hJ55 hJ114 hJ127 hJ140 hJ151
  refine wr_thr (fun M1 f1 v1 a1 t1 => ?_)
  have e81 : VR M1 8 0 0 = nI E := by rw [v1]; exact e8
  rw [rr_8 M1, e81]
  have S2 : ScR M1 (mup M1 118 26 (nI E)) := scr_p (by omega)
  have p2 : mup M1 118 26 (nI E) 118 26 = nI E := mup_e
  refine pW_i ?_
  generalize mup M1 118 26 (nI E) = M2 at *
  have v3 : VR (mup M2 118 24 0) = vu (VR M2) 8 0 0 0 := ur_8
  have f3 : Lo M2 (mup M2 118 24 0) := lo_up (by omega)
  have a3 : AuR (mup M2 118 24 0) = AuR M2 := AR_no (by unfold auxR; omega)
  have t3 : mup M2 118 24 0 118 0 = M2 118 0 := mup_n (by omega)
  have p3 : mup M2 118 24 0 118 26 = nI E := (mup_n (by omega)).trans p2
  refine pW_i ?_
  generalize mup M2 118 24 0 = M3 at *
  have S4 : ScR M3 (mup M3 118 25 0) := scr_p (by omega)
  have p4 : mup M3 118 25 0 118 26 = nI E := (mup_n (by omega)).trans p3
  have e4 : mup M3 118 25 0 118 25 = nI 0 := mup_e
  refine pW_i ?_
  generalize mup M3 118 25 0 = M4 at *
  have fL : Lo M M4 := f1.tr (S2.1.tr (f3.tr S4.1))
  have fV : VR M4 = vu (VR M) 8 0 0 0 := by rw [S4.2.1, v3, S2.2.1, v1]
  have fA : AuR M4 = AuR M := by rw [S4.2.2.1, a3, S2.2.2.1, a1]
  have fT : M4 118 0 = 0 := by rw [S4.2.2.2, t3, S2.2.2.2, t1]
  have tx : TxR M4 T E := ⟨p4, hE, fun k hk => by rw [fA]; exact hT k hk⟩
  have says : ∀ N, VR N = VR M4 → ∀ j, j < 4 → N 132 j = d j := fun N e j hj => by
    rw [rr_10 N hj, e, fV, vu_ne (by omega)]
    exact ed j hj
  -- what is said at the end
  have bad : ∀ b N x1, lwF T E (E + 1) 0 d 0 = .inr b → ScR M4 N → N 118 27 = nI b → J114 x1 0 N := fun b N x1 el S a2 => by
    apply hJ114
    refine br_t rfl ?_
    rw [a2]
    apply hJ127
    refine wr_7 (fun N1 g1 w1 b1 u1 => ⟨fun h => absurd rfl h, fun _ => ?_⟩)
    apply hJ140
    refine thr1 (wr_thr (fun N2 g2 w2 b2 u2 => br_f (by decide) (kn b el N2 (fL.tr (S.1.tr (g1.tr g2))) ?_ ?_ u2)))
    · rw [w2, w1, S.2.1, fV]; rfl
    · rw [b2, b1, S.2.2.1, fA]
  have good : ∀ n (d' : Nat → Int32) N, lwF T E (E + 1) 0 d 0 = .inl (n, d') → ScR M4 N → (∀ j, j < 4 → N 133 j = d' j) → J114 (nI n) 1 N := fun n d' N el S a4 => by
    apply hJ114
    refine br_f (by decide) ?_
    apply hJ127
    have v5 : VR (mup N 118 28 (-1)) = vu (VR N) 7 0 0 (-1) := ur_7
    have f5 : Lo N (mup N 118 28 (-1)) := lo_up (by omega)
    have a5 : AuR (mup N 118 28 (-1)) = AuR N := AR_no (by unfold auxR; omega)
    have t5 : mup N 118 28 (-1) 118 0 = N 118 0 := mup_n (by omega)
    have w5 : ∀ j, j < 4 → mup N 118 28 (-1) 133 j = d' j := fun j hj => (mup_n (by omega)).trans (a4 j hj)
    show (¬ (1 : Int32) = 0 → _) ∧ ((1 : Int32) = 0 → _)
    refine ⟨fun _ => ?_, fun h => absurd h (by decide)⟩
    generalize mup N 118 28 (-1) = N5 at *
    apply hJ140
    refine thr0 (br_t rfl ?_)
    -- four steps of copying
    have st : ∀ (j : Nat) (K : Mem), j < 4 → (∀ i, i < 4 → K 133 i = d' i) → (∀ K', Lo K K' → VR K' = vu (VR K) 10 j 0 (d' j) → AuR K' = AuR K → K' 118 0 = K 118 0 → (∀ i, i < 4 → K' 133 i = d' i) → J151 (nI n) (nI (j + 1)) K') → J151 (nI n) (nI j) K := fun j K hj hK kk => by
      apply hJ151
      refine br_f (nI_ge (b := 4) hj (by omega)) ⟨vp_in_nI hj (by omega), vp_in_nI hj (by omega), ?_⟩
      rw [nI_clamp (by omega), hK j hj, nI_1]
      exact kk _ (lo_up (by omega)) (ur_10 hj) (AR_no (by unfold auxR; omega)) (mup_n (by omega)) (fun i hi => (mup_n (by omega)).trans (hK i hi))
    refine st 0 N5 (by omega) w5 (fun K1 g1 x1 y1 z1 h1 => st 1 K1 (by omega) h1 (fun K2 g2 x2 y2 z2 h2 => st 2 K2 (by omega) h2 (fun K3 g3 x3 y3 z3 h3 => st 3 K3 (by omega) h3 (fun K4 g4 x4 y4 z4 h4 => ?_))))
    apply hJ151
    refine br_t (by decide) (ky n d' el K4 (fL.tr (S.1.tr (f5.tr (g1.tr (g2.tr (g3.tr g4)))))) ?_ ?_ ?_)
    · rw [x4, x3, x2, x1, v5, S.2.1, fV]; rfl
    · rw [y4, y3, y2, y1, a5, S.2.2.1, fA]
    · rw [z4, z3, z2, z1, t5, S.2.2.2, fT]
  -- the terms
  have loop : ∀ f p (d1 : Nat → Int32) n N, E + 1 ≤ f + p → p ≤ E → ScR M4 N → N 118 26 = M4 118 26 → N 118 25 = nI p → (∀ j, j < 4 → N 133 j = d1 j) → lwF T E (E + 1) 0 d 0 = lwF T E f p d1 n → P_X7_readTerm N (fun r6 M5 => J55 (nI n) r6 M5) := by
    intro f
    induction f with
    | zero => intro p d1 n N hf hp; omega
    | succ f ih =>
      intro p d1 n N hf hp S a6 a5 a4 el
      have t : TxR N T E := tx.to S.2.2.1 a6
      refine r_term t hp a5 a4 (fun p' d' e N1 S1 b6 b5 b4 => ?_) (fun b e N1 S1 b2 => ?_)
      · obtain ⟨m1, m2, -⟩ := tm_b hp e
        obtain ⟨q1, q2, q3, q4, q5, q6, q7⟩ := tkH_b (T := T) m2
        have t1 : TxR N1 T E := t.to S1.2.2.1 b6
        apply hJ55
        refine br_f (by decide) (r_blanks t1 m2 b5 (fun N2 F2 c5 c7 => ?_))
        have t2 := t1.f F2
        have S2' := S.tr (S1.tr F2.1)
        have c6 : N2 118 26 = M4 118 26 := F2.2.2.trans (b6.trans a6)
        have d4 : ∀ j, j < 4 → N2 133 j = d' j := fun j hj => (F2.2.1 j).trans (b4 j hj)
        rw [c5, t2.1, nI_1]
        by_cases hb : tkB T E p' < E
        · refine ⟨fun _ => ?_, fun h => absurd ((nI_eq (by omega) (by omega)).mp h) (by omega)⟩
          refine r_isAt (l := 59) (h := 59) t2 (by omega) c5 (by omega) (by omega) (fun g => ⟨fun _ => ?_, fun h => absurd h (by decide)⟩) (fun g => ⟨fun h => absurd rfl h, fun _ => ?_⟩)
          · have h5 : T (tkB T E p') = 59 := by omega
            rw [c5, nI_1]
            exact ih (tkB T E p' + 1) d' (n + 1) _ (by omega) (by omega) (S2'.tr (scr_p (by omega))) ((mup_n (by omega)).trans c6) mup_e (fun j hj => (mup_n (by omega)).trans (d4 j hj)) (el.trans (lw_s e hb h5))
          · exact bad _ N2 _ (el.trans (lw_f e hb (by omega))) S2' c7
        · refine ⟨fun h => absurd (by rw [show tkB T E p' = E by omega]) h, fun _ => ?_⟩
          exact good _ d' N2 (el.trans (lw_e e hb)) S2' d4
      · apply hJ55
        refine br_t rfl ?_
        exact bad _ N1 _ (el.trans (lw_x e)) (S.tr S1) b2
  -- the draft
  have st : ∀ (j : Nat) (K : Mem), j < 4 → ScR M4 K → K 118 26 = M4 118 26 → K 118 25 = nI 0 → (∀ i, i < j → K 133 i = d i) → (∀ K', ScR M4 K' → K' 118 26 = M4 118 26 → K' 118 25 = nI 0 → (∀ i, i < j + 1 → K' 133 i = d i) → J25 (nI (j + 1)) K') → J25 (nI j) K := fun j K hj S h26 h25 hK kk => by
    apply hJ25
    refine br_f (nI_ge (b := 4) hj (by omega)) ⟨vp_in_nI hj (by omega), vp_in_nI hj (by omega), ?_⟩
    rw [nI_clamp (by omega), says K S.2.1 j hj, nI_1]
    refine kk _ (S.tr (scr_up (by omega))) ((mup_n (by omega)).trans h26) ((mup_n (by omega)).trans h25) (fun i hi => ?_)
    by_cases e : i = j
    · rw [e, mup_e]
    · rw [mup_n (by omega)]
      exact hK i (by omega)
  refine st 0 M4 (by omega) ScR.r rfl e4 (fun i hi => absurd hi (Nat.not_lt_zero _)) (fun K1 s1 g1 h1 r1 => st 1 K1 (by omega) s1 g1 h1 r1 (fun K2 s2 g2 h2 r2 => st 2 K2 (by omega) s2 g2 h2 r2 (fun K3 s3 g3 h3 r3 => st 3 K3 (by omega) s3 g3 h3 r3 (fun K4 s4 g4 h4 r4 => ?_))))
  apply hJ25
  exact br_t (by decide) (loop (E + 1) 0 d 0 K4 (by omega) (by omega) s4 g4 h4 r4 rfl)
theorem lw_DI {T : Nat → Nat} {E : Nat} : ∀ f p (d : Nat → Int32) n m d', p ≤ E → DI d → lwF T E f p d n = .inl (m, d') → DI d' := by
  intro f
  induction f with
  | zero =>
    intro p d n m d' hp hD h
    exact absurd h (by intro h; cases h)
  | succ f ih =>
    intro p d n m d' hp hD h
    cases e : tmF T E p d with
    | inr b =>
      rw [lw_x e] at h
      exact absurd h (by intro h; cases h)
    | inl x =>
      obtain ⟨p', d1⟩ := x
      obtain ⟨m1, m2, m3⟩ := tm_b hp e
      obtain ⟨q1, q2, q3, q4, q5, q6, q7⟩ := tkH_b (T := T) m2
      by_cases hb : tkB T E p' < E
      · by_cases h5 : T (tkB T E p') = 59
        · rw [lw_s e hb h5] at h
          exact ih _ _ _ _ _ (by omega) (m3 hD) h
        · rw [lw_f e hb h5] at h
          exact absurd h (by intro h; cases h)
      · rw [lw_e e hb] at h
        have e2 : d1 = d' := congrArg Prod.snd (Sum.inl.inj h)
        rw [← e2]
        exact m3 hD
theorem T_law {q : Nat} {M : Mem} (h : Ok q M) (hq : q < 512) : P_X6_law M (fun r M1 => P_X7_law M1 (fun r' M2 => M2 118 0 = 0 ∧ r = r' ∧ Ok (q + 1) M2)) (fun E M1 => E = "java/lang/IllegalArgumentException" ∧ P_X7_law M1 (fun _ M2 => M2 118 0 = 1 ∧ Ok (q + 1) M2)) := by
  have hV := h.2.1.1
  obtain ⟨h0, h11, h15, h4, h14, h10, h12, h6, hsh, hsum, hf, ⟨E, hE, e8⟩⟩ := h.2.2.next
  have hT := h.2.1.2.2.1
  have hTx : ∃ T : Nat → Nat, ∀ k, k < 400 → AuC M 0 k = nI (T k) ∧ T k < 256 ∧ RB (AuR M 0 k) (T k) := by
    refine ⟨fun k => (AuC M 0 k).toNatClampNeg, fun k hk => ?_⟩
    obtain ⟨x1, x2⟩ := hT k hk
    obtain ⟨t, y1, y2, y3⟩ := rb_of x1 x2
    simp only [y1]
    rw [nI_clamp (by omega)]
    exact ⟨rfl, y2, y3⟩
  obtain ⟨T, hTT⟩ := hTx
  have d0 : ∀ j, j < 4 → VR M 10 j 0 = (fun j => VR M 10 j 0) j := fun j _ => rfl
  have tx : TxC M T E := ⟨by rw [hV]; exact e8, hE, fun k hk => ⟨(hTT k hk).1, (hTT k hk).2.1⟩⟩
  have hD : DI (fun j => VR M 10 j 0) := h10
  refine c_law (d := fun j => VR M 10 j 0) tx (fun j hj => by rw [hV]) (fun n d' el N f1 v1 a1 => ?_) (fun b el N f1 v1 a1 => ⟨rfl, ?_⟩)
  · have e1 := hi_VR f1
    have b1 := hi_AR f1
    refine r_law (T := T) (E := E) (d := fun j => VR M 10 j 0) hE (by rw [e1]; exact e8) (fun k hk => by rw [b1]; exact (hTT k hk).2.2) (fun j hj => by rw [e1]) (fun n' d'' el' N2 f2 v2 a2 t2 => ⟨t2, ?_⟩) (fun b el' => absurd (el.symm.trans el') (by intro h; cases h))
    have ee := Sum.inl.inj (el.symm.trans el')
    have en : n = n' := congrArg Prod.fst ee
    have edd : d' = d'' := congrArg Prod.snd ee
    subst en
    subst edd
    refine ⟨rfl, ?_⟩
    refine h.mk1 (V := lawU (VR M) d') hq ?_ ?_ ?_ ?_ (fun _ => rfl) (fun _ h => h) ?_
    · rw [lo_VC f2, v1, hV]
    · rw [v2, e1]
    · rw [lo_AC f2, a1]
    · rw [a2, b1]
    · have hD' := lw_DI _ _ _ _ _ _ (by omega) hD el
      refine ⟨h0, h11, h15, h4, h14, ?_, h12, h6, hsh, hsum, hf, ⟨0, by omega, rfl⟩⟩
      exact hD'
  · have e1 := hi_VR f1
    have b1 := hi_AR f1
    refine r_law (T := T) (E := E) (d := fun j => VR M 10 j 0) hE (by rw [e1]; exact e8) (fun k hk => by rw [b1]; exact (hTT k hk).2.2) (fun j hj => by rw [e1]) (fun n' d'' el' => absurd (el.symm.trans el') (by intro h; cases h)) (fun b' el' N2 f2 v2 a2 t2 => ⟨t2, ?_⟩)
    have ee : b = b' := Sum.inr.inj (el.symm.trans el')
    subst ee
    refine h.mk1 (V := lawX (VR M) b) hq ?_ ?_ ?_ ?_ (fun _ => rfl) (fun _ h => h) ?_
    · rw [lo_VC f2, v1, hV]
    · rw [v2, e1]
    · rw [lo_AC f2, a1]
    · rw [a2, b1]
    · exact ⟨h0, h11, h15, h4, h14, h10, h12, h6, hsh, hsum, hf, ⟨0, by omega, rfl⟩⟩
