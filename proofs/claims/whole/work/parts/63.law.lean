/-! ===== the law's text: the class ===== -/
def dU (d : Nat → Int32) (to : Nat) (v : Int32) : Nat → Int32 := fun j => if j = to then v else d j
noncomputable def nmF (T : Nat → Nat) (E to mx p : Nat) (d : Nat → Int32) : Sum (Nat × (Nat → Int32)) Nat := @ite _ (nmOk T E p mx) (Classical.propDecidable _) (.inl (tkD T E p, dU d to (nI (vN T (tkB T E p) (tkD T E p - tkB T E p))))) (.inr (tkB T E p))
noncomputable def pyF (T : Nat → Nat) (E p : Nat) (d : Nat → Int32) : Sum (Nat × (Nat → Int32)) Nat := @ite _ (isW T 4 (tkB T E p) (tkW T E p)) (Classical.propDecidable _) (.inl (tkW T E p, dU d 2 1)) (@ite _ (isW T 5 (tkB T E p) (tkW T E p)) (Classical.propDecidable _) (.inl (tkW T E p, dU d 2 0)) (.inr (tkB T E p)))
noncomputable def tmF (T : Nat → Nat) (E p : Nat) (d : Nat → Int32) : Sum (Nat × (Nat → Int32)) Nat := @ite _ (isW T 0 (tkB T E p) (tkW T E p)) (Classical.propDecidable _) (nmF T E 0 100 (tkW T E p) d) (@ite _ (isW T 1 (tkB T E p) (tkW T E p)) (Classical.propDecidable _) (nmF T E 1 1000 (tkW T E p) d) (@ite _ (isW T 2 (tkB T E p) (tkW T E p)) (Classical.propDecidable _) (nmF T E 3 100 (tkW T E p) d) (@ite _ (isW T 3 (tkB T E p) (tkW T E p)) (Classical.propDecidable _) (pyF T E (tkW T E p) d) (.inr (tkB T E p)))))
section TM
variable {T : Nat → Nat} {E p : Nat} {d : Nat → Int32}
theorem tm_0 (h : isW T 0 (tkB T E p) (tkW T E p)) : tmF T E p d = nmF T E 0 100 (tkW T E p) d := if_pos h
theorem tm_1 (h0 : ¬ isW T 0 (tkB T E p) (tkW T E p)) (h : isW T 1 (tkB T E p) (tkW T E p)) : tmF T E p d = nmF T E 1 1000 (tkW T E p) d := (if_neg h0).trans (if_pos h)
theorem tm_2 (h0 : ¬ isW T 0 (tkB T E p) (tkW T E p)) (h1 : ¬ isW T 1 (tkB T E p) (tkW T E p)) (h : isW T 2 (tkB T E p) (tkW T E p)) : tmF T E p d = nmF T E 3 100 (tkW T E p) d := (if_neg h0).trans ((if_neg h1).trans (if_pos h))
theorem tm_3 (h0 : ¬ isW T 0 (tkB T E p) (tkW T E p)) (h1 : ¬ isW T 1 (tkB T E p) (tkW T E p)) (h2 : ¬ isW T 2 (tkB T E p) (tkW T E p)) (h : isW T 3 (tkB T E p) (tkW T E p)) : tmF T E p d = pyF T E (tkW T E p) d := (if_neg h0).trans ((if_neg h1).trans ((if_neg h2).trans (if_pos h)))
theorem tm_n (h0 : ¬ isW T 0 (tkB T E p) (tkW T E p)) (h1 : ¬ isW T 1 (tkB T E p) (tkW T E p)) (h2 : ¬ isW T 2 (tkB T E p) (tkW T E p)) (h3 : ¬ isW T 3 (tkB T E p) (tkW T E p)) : tmF T E p d = .inr (tkB T E p) := (if_neg h0).trans ((if_neg h1).trans ((if_neg h2).trans (if_neg h3)))
end TM
/-- what a right draft is -/
def DI (d : Nat → Int32) : Prop := rg (d 0) 0 100 ∧ rg (d 1) 0 1000 ∧ (d 2 = 0 ∨ d 2 = 1) ∧ rg (d 3) 0 100
theorem nm_b {T : Nat → Nat} {E to mx p p' : Nat} {d d' : Nat → Int32} (hp : p ≤ E) (hmx : (to = 0 ∧ mx = 100) ∨ (to = 1 ∧ mx = 1000) ∨ (to = 3 ∧ mx = 100)) (h : nmF T E to mx p d = .inl (p', d')) : p < p' ∧ p' ≤ E ∧ (DI d → DI d') := by
  obtain ⟨q1, q2, q3, q4, q5, q6, q7⟩ := tkH_b (T := T) hp
  unfold nmF at h
  by_cases g : nmOk T E p mx
  · rw [if_pos g] at h
    have e := Sum.inl.inj h
    have e1 : tkD T E p = p' := congrArg Prod.fst e
    have e2 : dU d to (nI (vN T (tkB T E p) (tkD T E p - tkB T E p))) = d' := congrArg Prod.snd e
    have g1 := g.1
    refine ⟨by omega, by omega, fun hD => ?_⟩
    rw [← e2]
    have g3 := g.2.2
    have hr := nI_rg g3 (by omega)
    unfold DI dU
    rcases hmx with ⟨rfl, rfl⟩ | ⟨rfl, rfl⟩ | ⟨rfl, rfl⟩
    · exact ⟨hr, hD.2⟩
    · exact ⟨hD.1, hr, hD.2.2⟩
    · exact ⟨hD.1, hD.2.1, hD.2.2.1, hr⟩
  · rw [if_neg g] at h
    exact absurd h (by intro h; cases h)
theorem py_b {T : Nat → Nat} {E p p' : Nat} {d d' : Nat → Int32} (hp : p ≤ E) (h : pyF T E p d = .inl (p', d')) : p < p' ∧ p' ≤ E ∧ (DI d → DI d') := by
  obtain ⟨q1, q2, q3, q4, q5, q6, q7⟩ := tkH_b (T := T) hp
  unfold pyF at h
  by_cases g : isW T 4 (tkB T E p) (tkW T E p)
  · rw [if_pos g] at h
    have e := Sum.inl.inj h
    have e1 : tkW T E p = p' := congrArg Prod.fst e
    have e2 : dU d 2 1 = d' := congrArg Prod.snd e
    have g1 := (isW_H (by omega) hp g).2
    refine ⟨by omega, by omega, fun hD => ?_⟩
    rw [← e2]
    exact ⟨hD.1, hD.2.1, Or.inr rfl, hD.2.2.2⟩
  · rw [if_neg g] at h
    by_cases g5 : isW T 5 (tkB T E p) (tkW T E p)
    · rw [if_pos g5] at h
      have e := Sum.inl.inj h
      have e1 : tkW T E p = p' := congrArg Prod.fst e
      have e2 : dU d 2 0 = d' := congrArg Prod.snd e
      have g1 := (isW_H (by omega) hp g5).2
      refine ⟨by omega, by omega, fun hD => ?_⟩
      rw [← e2]
      exact ⟨hD.1, hD.2.1, Or.inl rfl, hD.2.2.2⟩
    · rw [if_neg g5] at h
      exact absurd h (by intro h; cases h)
theorem tm_b {T : Nat → Nat} {E p p' : Nat} {d d' : Nat → Int32} (hp : p ≤ E) (h : tmF T E p d = .inl (p', d')) : p < p' ∧ p' ≤ E ∧ (DI d → DI d') := by
  obtain ⟨q1, q2, q3, q4, q5, q6, q7⟩ := tkH_b (T := T) hp
  by_cases w0 : isW T 0 (tkB T E p) (tkW T E p)
  · rw [tm_0 w0] at h
    obtain ⟨a, b, c⟩ := nm_b q5 (by omega) h
    exact ⟨by omega, b, c⟩
  by_cases w1 : isW T 1 (tkB T E p) (tkW T E p)
  · rw [tm_1 w0 w1] at h
    obtain ⟨a, b, c⟩ := nm_b q5 (by omega) h
    exact ⟨by omega, b, c⟩
  by_cases w2 : isW T 2 (tkB T E p) (tkW T E p)
  · rw [tm_2 w0 w1 w2] at h
    obtain ⟨a, b, c⟩ := nm_b q5 (by omega) h
    exact ⟨by omega, b, c⟩
  by_cases w3 : isW T 3 (tkB T E p) (tkW T E p)
  · rw [tm_3 w0 w1 w2 w3] at h
    obtain ⟨a, b, c⟩ := py_b q5 h
    exact ⟨by omega, b, c⟩
  rw [tm_n w0 w1 w2 w3] at h
  exact absurd h (by intro h; cases h)
theorem c_term {M : Mem} {T : Nat → Nat} {E p : Nat} {d : Nat → Int32} {Q : Int32 → Mem → Prop} (tx : TxC M T E) (hp : p ≤ E) (e3 : M 1 3 = nI p) (ed : ∀ j, j < 4 → M 4 j = d j) (ky : ∀ p' d', tmF T E p d = .inl (p', d') → ∀ N, ScC M N → N 1 3 = nI p' → (∀ j, j < 4 → N 4 j = d' j) → Q 1 N) (kn : ∀ b, tmF T E p d = .inr b → ∀ N, ScC M N → N 1 2 = nI b → Q 0 N) : P_X3_isTerm M Q := by
  obtain ⟨q1, q2, q3, q4, q5, q6, q7⟩ := tkH_b (T := T) hp
  refine c_take tx hp e3 (fun N F a2 a3 => ?_)
  have t := tx.to F.1
  have num : ∀ (to mx : Nat), to < 4 → mx < 2 ^ 31 → tkH T E p = tkW T E p → tmF T E p d = nmF T E to mx (tkW T E p) d → P_X3_isNumber (nI to) (nI mx) N (fun r26 M25 => ((r26 = 0 ∨ r26 = 1) ∧ Q r26 M25)) := fun to mx hto hmx hH etm => by
    refine c_isNumber t q5 hto hmx (by rw [a3, hH]) (fun hok N1 S1 b3 b4 => ⟨Or.inr rfl, ky _ _ (by rw [etm]; exact if_pos hok) N1 (F.1.tr S1) b3 (fun j hj => ?_)⟩) (fun hno N1 S1 b2 => ⟨Or.inl rfl, kn _ (by rw [etm]; exact if_neg hno) N1 (F.1.tr S1) b2⟩)
    rw [b4 j, F.2 j, ed j hj]
    rfl
  have wd : ∀ (w : Nat) (R : Int32 → Mem → Prop), w < 6 → (isW T w (tkB T E p) (tkW T E p) → R 1 N) → (¬ isW T w (tkB T E p) (tkW T E p) → R 0 N) → P_X3_isWord w N R := fun w R hw y n => c_isWord t hw q1 q2 a2 a3 (fun h => y ((isW_tk hw hp).mp h)) (fun h => n (fun g => h ((isW_tk hw hp).mpr g)))
  refine wd 0 _ (by omega) (fun w0 => br_f (by decide) (num 0 100 (by omega) (by omega) (isW_H (by omega) hp w0).1 (tm_0 w0))) (fun w0 => br_t rfl ?_)
  refine wd 1 _ (by omega) (fun w1 => br_f (by decide) (num 1 1000 (by omega) (by omega) (isW_H (by omega) hp w1).1 (tm_1 w0 w1))) (fun w1 => br_t rfl ?_)
  refine wd 2 _ (by omega) (fun w2 => br_f (by decide) (num 3 100 (by omega) (by omega) (isW_H (by omega) hp w2).1 (tm_2 w0 w1 w2))) (fun w2 => br_t rfl ?_)
  refine wd 3 _ (by omega) (fun w3 => br_f (by decide) ?_) (fun w3 => br_t rfl (kn _ (tm_n w0 w1 w2 w3) N F.1 a2))
  have etm := tm_3 (d := d) w0 w1 w2 w3
  have hH := (isW_H (by omega) hp w3).1
  rw [hH] at a3
  obtain ⟨s1, s2, s3, s4, s5, s6, s7⟩ := tkH_b (T := T) q5
  intro J26 J40 hJ26 hJ40
  refine c_take t q5 a3 (fun N1 F1 b2 b3 => ?_)
  have t1 := t.to F1.1
  have F2 := F.tr F1
  have fin : ∀ (v : Int32), tmF T E p d = .inl (tkW T E (tkW T E p), dU d 2 v) → N1 1 3 = nI (tkW T E (tkW T E p)) → J40 v 2 N1 := fun v ev e3 => by
    apply hJ40
    refine ⟨vp_in_nI (n := 2) (by omega) (by omega), br_f (by decide) (ky _ _ ev _ (F2.1.tr (scc_up (by omega))) (by rw [mup_n (by omega)]; exact e3) (fun j hj => ?_))⟩
    rw [show (2 : Int32) = nI 2 from rfl, nI_clamp (by omega)]
    unfold dU
    by_cases e : j = 2
    · rw [e, mup_e, if_pos rfl]
    · rw [mup_n (by omega), if_neg e, F2.2 j, ed j hj]
  have wd1 : ∀ (w : Nat) (R : Int32 → Mem → Prop), w < 6 → (isW T w (tkB T E (tkW T E p)) (tkW T E (tkW T E p)) → R 1 N1) → (¬ isW T w (tkB T E (tkW T E p)) (tkW T E (tkW T E p)) → R 0 N1) → P_X3_isWord w N1 R := fun w R hw y n => c_isWord t1 hw s1 s2 b2 b3 (fun h => y ((isW_tk hw q5).mp h)) (fun h => n (fun g => h ((isW_tk hw q5).mpr g)))
  refine wd1 4 _ (by omega) (fun w4 => ⟨fun _ => ?_, fun h => absurd h (by decide)⟩) (fun w4 => ⟨fun h => absurd rfl h, fun _ => wd1 5 _ (by omega) (fun w5 => ⟨fun _ => ?_, fun h => absurd h (by decide)⟩) (fun w5 => ⟨fun h => absurd rfl h, fun _ => br_t rfl ?_⟩)⟩)
  · apply hJ26
    refine br_f (by decide) (fin 1 (etm.trans (if_pos w4)) ?_)
    rw [b3, (isW_H (by omega) q5 w4).1]
  · apply hJ26
    refine br_t rfl (fin 0 (etm.trans ((if_neg w4).trans (if_pos w5))) ?_)
    rw [b3, (isW_H (by omega) q5 w5).1]
  · exact kn _ (etm.trans ((if_neg w4).trans (if_neg w5))) N1 F2.1 b2
/-- the whole text: how many terms and what they say, or the first wrong byte -/
noncomputable def lwF (T : Nat → Nat) (E : Nat) : Nat → Nat → (Nat → Int32) → Nat → Sum (Nat × (Nat → Int32)) Nat
  | 0, p, _, _ => .inr p
  | f + 1, p, d, n => match tmF T E p d with
    | .inr b => .inr b
    | .inl (p', d') => if tkB T E p' < E then (if T (tkB T E p') = 59 then lwF T E f (tkB T E p' + 1) d' (n + 1) else .inr (tkB T E p')) else .inl (n + 1, d')
section LW
variable {T : Nat → Nat} {E f p n p' b : Nat} {d d' : Nat → Int32}
theorem lw_x (h : tmF T E p d = .inr b) : lwF T E (f + 1) p d n = .inr b := by simp only [lwF, h]
theorem lw_e (h : tmF T E p d = .inl (p', d')) (hb : ¬ tkB T E p' < E) : lwF T E (f + 1) p d n = .inl (n + 1, d') := by simp only [lwF, h, if_neg hb]
theorem lw_s (h : tmF T E p d = .inl (p', d')) (hb : tkB T E p' < E) (h5 : T (tkB T E p') = 59) : lwF T E (f + 1) p d n = lwF T E f (tkB T E p' + 1) d' (n + 1) := by simp only [lwF, h, if_pos hb, if_pos h5]
theorem lw_f (h : tmF T E p d = .inl (p', d')) (hb : tkB T E p' < E) (h5 : ¬ T (tkB T E p') = 59) : lwF T E (f + 1) p d n = .inr (tkB T E p') := by simp only [lwF, h, if_pos hb, if_neg h5]
end LW
theorem mcp_eq {M : Mem} {a b : Nat} : mcp M a b = mup (mup (mup (mup M b 0 (M a 0)) b 1 (M a 1)) b 2 (M a 2)) b 3 (M a 3) := by
  funext k j
  unfold mcp
  by_cases hk : k = b ∧ j < 4
  · rw [if_pos hk]
    obtain ⟨rfl, hj⟩ := hk
    rcases (show j = 0 ∨ j = 1 ∨ j = 2 ∨ j = 3 by omega) with rfl | rfl | rfl | rfl
    · rw [mup_n (by omega), mup_n (by omega), mup_n (by omega), mup_e]
    · rw [mup_n (by omega), mup_n (by omega), mup_e]
    · rw [mup_n (by omega), mup_e]
    · rw [mup_e]
  · rw [if_neg hk, mup_n (by omega), mup_n (by omega), mup_n (by omega), mup_n (by omega)]
theorem c_readTerms {M : Mem} {T : Nat → Nat} {E : Nat} {d : Nat → Int32} {Q : Int32 → Mem → Prop} (tx : TxC M T E) (ed : ∀ j, j < 4 → M 5 j = d j) (ky : ∀ n d', lwF T E (E + 1) 0 d 0 = .inl (n, d') → n ≤ 400 → ∀ N, ScC M N → (∀ j, j < 4 → N 4 j = d' j) → Q (nI n) N) (kn : ∀ b, lwF T E (E + 1) 0 d 0 = .inr b → ∀ N, ScC M N → N 1 2 = nI b → Q (-1) N) : P_X3_readTerms M Q := by
  have hE := tx.2.1
  intro J18 hJ18
  have main : ∀ f p (d1 : Nat → Int32) n N, E + 1 ≤ f + p → p ≤ E → 2 * n ≤ p → ScC M N → N 1 3 = nI p → (∀ j, j < 4 → N 4 j = d1 j) → lwF T E (E + 1) 0 d 0 = lwF T E f p d1 n → J18 (nI (n + 1)) N := by
    intro f
    induction f with
    | zero => intro p d1 n N hf hp; omega
    | succ f ih =>
      intro p d1 n N hf hp h2 S a3 a4 el
      have t := tx.to S
      apply hJ18
      refine br_f (nI_nlt (a := 400) (by omega) (by omega)) (c_term t hp a3 a4 (fun p' d' e N1 S1 b3 b4 => ?_) (fun b e N1 S1 b2 => ?_))
      · refine ⟨fun _ => ?_, fun h => absurd h (by decide)⟩
        obtain ⟨m1, m2, -⟩ := tm_b hp e
        obtain ⟨q1, q2, q3, q4, q5, q6, q7⟩ := tkH_b (T := T) m2
        have t1 := t.to S1
        refine c_take t1 m2 b3 (fun N2 F2 c2 c3 => ?_)
        have t2 := t1.to F2.1
        have S2 := S.tr (S1.tr F2.1)
        rw [c2, rc_8 N2, t2.1]
        by_cases hb : tkB T E p' < E
        · refine br_t (nI_lt hb (by omega)) ⟨vp_in_nI (by omega) (by omega), ?_⟩
          obtain ⟨x1, x2⟩ := t2.2.2 (tkB T E p') (by omega)
          rw [nI_clamp (by omega), rac_t N2 (by omega), x1]
          by_cases h5 : T (tkB T E p') = 59
          · refine br_t (by rw [h5]; rfl) ?_
            rw [nI_1]
            have hH : tkH T E p' = tkB T E p' + 1 := by
              have g1 : tkW T E p' = tkB T E p' := sk_n (by omega)
              have g2 : tkD T E p' = tkB T E p' := sk_n (by omega)
              unfold tkH
              rw [if_neg (by omega), if_pos ⟨g2, hb⟩]
            exact ih (tkB T E p' + 1) d' (n + 1) N2 (by omega) (by omega) (by omega) S2 (by rw [c3, hH]) (fun j hj => (F2.2 j).trans (b4 j hj)) (el.trans (lw_s e hb h5))
          · exact br_f (fun h => h5 ((nI_eq (b := 59) (by omega) (by omega)).mp h)) (kn _ (el.trans (lw_f e hb h5)) N2 S2 c2)
        · exact br_f (nI_nlt (by omega) (by omega)) (ky _ _ (el.trans (lw_e e hb)) (by omega) N2 S2 (fun j hj => (F2.2 j).trans (b4 j hj)))
      · refine ⟨fun h => absurd rfl h, fun _ => kn _ (el.trans (lw_x e)) N1 (S.tr S1) b2⟩
  have e : mcp M 5 4 = mup (mup (mup (mup M 4 0 (M 5 0)) 4 1 (M 5 1)) 4 2 (M 5 2)) 4 3 (M 5 3) := mcp_eq
  have S0 : ScC M (mcp M 5 4) := by
    rw [e]
    exact (scc_up (by omega)).tr ((scc_up (by omega)).tr ((scc_up (by omega)).tr (scc_up (by omega))))
  refine main (E + 1) 0 d 0 _ (by omega) (by omega) (by omega) (S0.tr (scc_up (by omega))) (by rw [mup_e]; rfl) (fun j hj => ?_) rfl
  rw [mup_n (by omega), ← ed j hj]
  show (if 4 = 4 ∧ j < 4 then M 5 j else M 4 j) = M 5 j
  rw [if_pos ⟨rfl, hj⟩]
def lawU (V : Vw) (d : Nat → Int32) : Vw := vu (vu (vu (vu (vu (vu V 8 0 0 0) 7 0 0 (-1)) 10 0 0 (d 0)) 10 1 0 (d 1)) 10 2 0 (d 2)) 10 3 0 (d 3)
def lawX (V : Vw) (b : Nat) : Vw := vu (vu V 8 0 0 0) 7 0 0 (nI b)
theorem c_law {M : Mem} {T : Nat → Nat} {E : Nat} {d : Nat → Int32} {Q : Int32 → Mem → Prop} {X : String → Mem → Prop} (tx : TxC M T E) (ed : ∀ j, j < 4 → VC M 10 j 0 = d j) (ky : ∀ n d', lwF T E (E + 1) 0 d 0 = .inl (n, d') → ∀ N, Hi M N → VC N = lawU (VC M) d' → AuC N = AuC M → Q (nI n) N) (kn : ∀ b, lwF T E (E + 1) 0 d 0 = .inr b → ∀ N, Hi M N → VC N = lawX (VC M) b → AuC N = AuC M → X "java/lang/IllegalArgumentException" N) : P_X6_law M Q X := by
  refine c_readTerms (d := d) tx (fun j hj => by rw [rc_10 M hj]; exact ed j hj) (fun n d' e hn N S a4 => ?_) (fun b e N S a2 => ?_)
  · have v1 : VC (mup N 2 1 0) = vu (VC N) 8 0 0 0 := uc_8
    have f1 : Hi N (mup N 2 1 0) := hi_up (by omega)
    have a1 : AuC (mup N 2 1 0) = AuC N := AC_no (by unfold auxC; omega)
    have w4 : ∀ j, j < 4 → mup N 2 1 0 4 j = d' j := fun j hj => (mup_n (by omega)).trans (a4 j hj)
    show (¬ nI n = (-1 : Int32) → _) ∧ (nI n = (-1 : Int32) → _)
    refine ⟨fun _ => ?_, fun h => ?_⟩
    · generalize mup N 2 1 0 = N1 at *
      have v2 : VC (mup N1 0 3 (-1)) = vu (VC N1) 7 0 0 (-1) := uc_7
      have f2 : Hi N1 (mup N1 0 3 (-1)) := hi_up (by omega)
      have a2 : AuC (mup N1 0 3 (-1)) = AuC N1 := AC_no (by unfold auxC; omega)
      have w5 : ∀ j, j < 4 → mup N1 0 3 (-1) 4 j = d' j := fun j hj => (mup_n (by omega)).trans (w4 j hj)
      show Q (nI n) (mcp (mup N1 0 3 (-1)) 4 5)
      generalize mup N1 0 3 (-1) = N2 at *
      rw [mcp_eq, w5 0 (by omega), w5 1 (by omega), w5 2 (by omega), w5 3 (by omega)]
      refine ky n d' e _ (S.1.tr (f1.tr (f2.tr ((hi_up (by omega)).tr ((hi_up (by omega)).tr ((hi_up (by omega)).tr (hi_up (by omega)))))))) ?_ ?_
      · rw [uc_10 (by omega), uc_10 (by omega), uc_10 (by omega), uc_10 (by omega), v2, v1, S.2.1]
        rfl
      · rw [AC_no (by unfold auxC; omega), AC_no (by unfold auxC; omega), AC_no (by unfold auxC; omega), AC_no (by unfold auxC; omega), a2, a1, S.2.2]
    · exfalso
      have := congrArg Int32.toInt h
      rw [nI_toInt (by omega)] at this
      have e1 : (-1 : Int32).toInt = -1 := rfl
      omega
  · have v1 : VC (mup N 2 1 0) = vu (VC N) 8 0 0 0 := uc_8
    have f1 : Hi N (mup N 2 1 0) := hi_up (by omega)
    have a1 : AuC (mup N 2 1 0) = AuC N := AC_no (by unfold auxC; omega)
    have w2 : mup N 2 1 0 1 2 = nI b := (mup_n (by omega)).trans a2
    show (¬ (-1 : Int32) = (-1 : Int32) → _) ∧ ((-1 : Int32) = (-1 : Int32) → _)
    refine ⟨fun h => absurd rfl h, fun _ => ?_⟩
    generalize mup N 2 1 0 = N1 at *
    rw [w2]
    refine wc_7 (fun N2 f2 v2 a2 => kn b e N2 (S.1.tr (f1.tr f2)) ?_ ?_)
    · rw [v2, v1, S.2.1]
      rfl
    · rw [a2, a1, S.2.2]
