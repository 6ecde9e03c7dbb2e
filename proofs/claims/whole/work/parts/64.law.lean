/-! ===== the law's text: the reference ===== -/
def RB (a : Int32) (t : Nat) : Prop := (0 ≤ a.toInt ∧ a.toInt = (t : Int) ∧ t < 128) ∨ (a.toInt < 0 ∧ 128 ≤ t ∧ t < 256)
theorem rb_of {a c : Int32} (h : rg a (-128) 127) (e : c = a &&& 255) : ∃ t, c = nI t ∧ t < 256 ∧ RB a t := by
  refine ⟨a.toBitVec.toNat % 256, ?_, Nat.mod_lt _ (by omega), ?_⟩
  · rw [e, pk_and _ (m := 255) 8 (by decide)]
  · have h1 := toNat_toInt a
    unfold rg at h
    unfold RB
    generalize a.toBitVec.toNat = n at *
    generalize a.toInt = i at *
    omega
def TxR (M : Mem) (T : Nat → Nat) (E : Nat) : Prop := M 118 26 = nI E ∧ E ≤ 400 ∧ ∀ k, k < 400 → RB (AuR M 0 k) (T k)
def FR (M N : Mem) : Prop := ScR M N ∧ (∀ j, N 133 j = M 133 j) ∧ N 118 26 = M 118 26
theorem FR.r {M : Mem} : FR M M := ⟨ScR.r, fun _ => rfl, rfl⟩
theorem FR.tr {A B C : Mem} (h : FR A B) (g : FR B C) : FR A C := ⟨h.1.tr g.1, fun j => (g.2.1 j).trans (h.2.1 j), g.2.2.trans h.2.2⟩
theorem scr_p {M : Mem} {l : Nat} {v : Int32} (h : l = 25 ∨ l = 26 ∨ l = 27) : ScR M (mup M 118 l v) := ⟨lo_up (by omega), VR_no (by unfold inR; omega), AR_no (by unfold auxR; omega), mup_n (by omega)⟩
theorem fr_p {M : Mem} {l : Nat} {v : Int32} (h : l = 25 ∨ l = 27) : FR M (mup M 118 l v) := ⟨scr_p (by omega), fun _ => mup_n (by omega), mup_n (by omega)⟩
theorem TxR.to {M N : Mem} {T : Nat → Nat} {E : Nat} (h : TxR M T E) (a : AuR N = AuR M) (e : N 118 26 = M 118 26) : TxR N T E := by
  unfold TxR
  rw [a, e]
  exact h
theorem TxR.f {M N : Mem} {T : Nat → Nat} {E : Nat} (h : TxR M T E) (g : FR M N) : TxR N T E := h.to g.1.2.2.1 g.2.2
theorem r_isAt {M : Mem} {T : Nat → Nat} {E p l h : Nat} {Q : Int32 → Mem → Prop} (tx : TxR M T E) (hp : p ≤ E) (ep : M 118 25 = nI p) (hh : h < 128) (hl : l < 128) (ky : p < E ∧ l ≤ T p ∧ T p ≤ h → Q 1 M) (kn : ¬ (p < E ∧ l ≤ T p ∧ T p ≤ h) → Q 0 M) : P_X7_isAt (nI l) (nI h) M Q := by
  have hE := tx.2.1
  unfold P_X7_isAt
  rw [ep, tx.1]
  by_cases hpE : p < E
  · refine br_f (nI_ge hpE (by omega)) ⟨vp_in_nI (by omega) (by omega), ?_⟩
    rw [nI_clamp (by omega), rar_t M (by omega)]
    have r := tx.2.2 p (by omega)
    refine br_c (fun h1 => kn (fun g => ?_)) (fun h1 => ⟨vp_in_nI (by omega) (by omega), br_c (fun h2 => kn (fun g => ?_)) (fun h2 => ky ⟨hpE, ?_, ?_⟩)⟩)
    · rw [i32_lt, nI_toInt (by omega)] at h1
      unfold RB at r
      omega
    · rw [i32_lt, nI_toInt (by omega)] at h2
      unfold RB at r
      omega
    · rw [i32_lt, nI_toInt (by omega)] at h1
      unfold RB at r
      omega
    · rw [i32_lt, nI_toInt (by omega)] at h1 h2
      unfold RB at r
      omega
  · exact br_t (nI_le (by omega) (by omega)) (kn (fun g => hpE g.1))
theorem r_blanks {M : Mem} {T : Nat → Nat} {E p : Nat} {Q : Mem → Prop} (tx : TxR M T E) (hp : p ≤ E) (ep : M 118 25 = nI p) (k : ∀ N, FR M N → N 118 25 = nI (tkB T E p) → N 118 27 = nI (tkB T E p) → Q N) : P_X7_blanks M Q := by
  have hE := tx.2.1
  intro J0 hJ0
  have main : ∀ f c N, E - c ≤ f → c ≤ E → FR M N → N 118 25 = nI c → sk T 32 32 E c = tkB T E p → P_X7_isAt (32 : Int32) (32 : Int32) N (fun r7 M6 => ((r7 = 0 → pW 118 27 (M6 118 25) M6 (fun M9 => Q M9)) ∧ (¬ r7 = 0 → pW 118 25 ((M6 118 25) + (1 : Int32)) M6 (fun M10 => J0 M10)))) := by
    intro f
    induction f with
    | zero =>
      intro c N hf hc F a hs
      refine r_isAt (l := 32) (h := 32) (tx.f F) hc a (by omega) (by omega) (fun g => by omega) (fun g => br_t rfl ?_)
      rw [sk_n g] at hs
      rw [a, hs]
      exact k _ (F.tr (fr_p (by omega))) (by rw [mup_n (by omega), a, hs]) (by rw [mup_e])
    | succ f ih =>
      intro c N hf hc F a hs
      refine r_isAt (l := 32) (h := 32) (tx.f F) hc a (by omega) (by omega) (fun g => br_f (by decide) ?_) (fun g => br_t rfl ?_)
      · rw [a, nI_1]
        apply hJ0
        exact ih (c + 1) _ (by omega) (by omega) (F.tr (fr_p (by omega))) (by rw [mup_e]) (by rw [← sk_y g]; exact hs)
      · rw [sk_n g] at hs
        rw [a, hs]
        exact k _ (F.tr (fr_p (by omega))) (by rw [mup_n (by omega), a, hs]) (by rw [mup_e])
  exact main (E - p) p M (Nat.le_refl _) hp FR.r ep rfl
theorem r_word {M : Mem} {T : Nat → Nat} {E p : Nat} {Q : Mem → Prop} (tx : TxR M T E) (hp : p ≤ E) (ep : M 118 25 = nI p) (k : ∀ N, FR M N → N 118 25 = nI (tkW T E p) → N 118 27 = nI (tkB T E p) → Q N) : P_X7_word M Q := by
  have hE := tx.2.1
  obtain ⟨q1, q2, q3, q4, q5, q6, q7⟩ := tkH_b (T := T) hp
  intro J4 hJ4
  have main : ∀ f c N, E - c ≤ f → c ≤ E → FR M N → N 118 25 = nI c → N 118 27 = nI (tkB T E p) → sk T 97 122 E c = tkW T E p → J4 N := by
    intro f
    induction f with
    | zero =>
      intro c N hf hc F a b hs
      apply hJ4
      refine r_isAt (l := 97) (h := 122) (tx.f F) hc a (by omega) (by omega) (fun g => by omega) (fun g => br_t rfl ?_)
      rw [sk_n g] at hs
      exact k N F (by rw [a, hs]) b
    | succ f ih =>
      intro c N hf hc F a b hs
      apply hJ4
      refine r_isAt (l := 97) (h := 122) (tx.f F) hc a (by omega) (by omega) (fun g => br_f (by decide) ?_) (fun g => br_t rfl ?_)
      · rw [a, nI_1]
        exact ih (c + 1) _ (by omega) (by omega) (F.tr (fr_p (by omega))) (by rw [mup_e]) (by rw [mup_n (by omega)]; exact b) (by rw [← sk_y g]; exact hs)
      · rw [sk_n g] at hs
        exact k N F (by rw [a, hs]) b
  exact r_blanks tx hp ep (fun N F a b => main (E - tkB T E p) (tkB T E p) N (Nat.le_refl _) (by omega) F a b rfl)
theorem r_isWord {M : Mem} {T : Nat → Nat} {E w b h : Nat} {Q : Int32 → Mem → Prop} (tx : TxR M T E) (hw : w < 6) (hbh : b ≤ h) (hh : h ≤ E) (e2 : M 118 27 = nI b) (e3 : M 118 25 = nI h) (ky : isW T w b h → Q 1 M) (kn : ¬ isW T w b h → Q 0 M) : P_X7_isWord w M Q := by
  have hE := tx.2.1
  obtain ⟨⟨hl0, hl8⟩, hwd⟩ := wd_all w hw
  intro J21 J24 J60 hJ21 hJ24 hJ60
  rw [e2, e3, pk_sub hbh]
  have no : ¬ isW T w b h → ∀ x3, J24 0 x3 M := fun hn x3 => by
    apply hJ24
    exact br_t rfl ⟨Or.inl rfl, kn hn⟩
  by_cases hlen : h - b = wLen.getD w 0
  · refine ⟨fun h1 => absurd (by rw [hlen]) h1, fun _ => ?_⟩
    apply hJ21
    have main := dn (P := fun i => (∀ j, j < i → T (b + j) = (wdN.getD w []).getD j 0) → J24 1 (nI i) M) (wLen.getD w 0) (fun i hi hst hpre => by
      apply hJ24
      refine br_f (by decide) (br_f (nI_ge hi (by omega)) ?_)
      obtain ⟨x1, x2, x3⟩ := hwd i hi
      have tb := tx.2.2 (b + i) (by omega)
      rw [e2, nI_add, nI_clamp (by omega), nI_clamp (by omega), rar_t M (by omega), x1]
      have key : AuR M 0 (b + i) = nI ((wdN.getD w []).getD i 0) ↔ T (b + i) = (wdN.getD w []).getD i 0 := by
        rw [i32_eq, nI_toInt (by omega)]
        unfold RB at tb
        omega
      refine ⟨vp_in_nI (by omega) (by omega), vp_in_nI hi (by omega), fun h1 => ?_, fun h1 => ?_⟩
      · apply hJ60
        exact no (fun hW => h1 (key.mpr (hW.2 i hi))) _
      · apply hJ60
        rw [nI_1]
        refine hst (fun j hj => ?_)
        by_cases ej : j = i
        · rw [ej]; exact key.mp h1
        · exact hpre j (by omega)) (fun hpre => by
      apply hJ24
      exact br_f (by decide) (br_t (nI_le (Nat.le_refl _) (by omega)) ⟨Or.inr rfl, ky ⟨hlen, hpre⟩⟩))
    exact main (fun j hj => absurd hj (Nat.not_lt_zero _))
  · refine ⟨fun _ => ?_, fun h1 => absurd ((nI_eq (by omega) (by omega)).mp h1) hlen⟩
    apply hJ21
    exact no (fun hW => hlen hW.1) _
theorem r_number {M : Mem} {T : Nat → Nat} {E p to mx : Nat} {Q : Int32 → Mem → Prop} (tx : TxR M T E) (hp : p ≤ E) (hto : to < 4) (hmx : mx < 2 ^ 31) (e3 : M 118 25 = nI p) (ky : nmOk T E p mx → ∀ N, ScR M N → N 118 26 = M 118 26 → N 118 25 = nI (tkD T E p) → (∀ j, N 133 j = if j = to then nI (vN T (tkB T E p) (tkD T E p - tkB T E p)) else M 133 j) → Q 1 N) (kn : ¬ nmOk T E p mx → ∀ N, ScR M N → N 118 27 = nI (tkB T E p) → Q 0 N) : P_X7_number (nI to) (nI mx) M Q := by
  have hE := tx.2.1
  obtain ⟨q1, q2, q3, q4, q5, q6, q7⟩ := tkH_b (T := T) hp
  have hdig := (sk_rng (T := T) (l := 48) (h := 57) (E - tkB T E p) (tkB T E p) (Nat.le_refl _) (by omega)).2.2.1
  have eD : tkD T E p = sk T 48 57 E (tkB T E p) := rfl
  have hv4 : ∀ n, n ≤ tkD T E p - tkB T E p → n ≤ 4 → vN T (tkB T E p) n < 10000 := fun n hn hn4 => by
    have h1 := vN_le (T := T) (b := tkB T E p) n (fun i hi => hdig (tkB T E p + i) (by omega) (by omega))
    have h2 : 10 ^ n ≤ 10 ^ 4 := Nat.pow_le_pow_right (by omega) (by omega)
    omega
  intro J6 J51 hJ6 hJ51
  refine r_blanks tx hp e3 (fun N0 F0 a0 b0 => ?_)
  have main := dn (P := fun i => ∀ N, FR M N → N 118 25 = nI (tkB T E p + i) → N 118 27 = nI (tkB T E p) → J6 (nI (vN T (tkB T E p) (if i ≤ 4 then i else 4))) N) (tkD T E p - tkB T E p) (fun i hi hst N F a b => by
    have hdi := hdig (tkB T E p + i) (by omega) (by omega)
    have t := tx.f F
    apply hJ6
    refine r_isAt (l := 48) (h := 57) t (by omega) a (by omega) (by omega) (fun g => br_f (by decide) ?_) (fun g => absurd ⟨by omega, hdi⟩ g)
    have nx : ∀ v : Int32, v = nI (vN T (tkB T E p) (if i + 1 ≤ 4 then i + 1 else 4)) → J51 v N := fun v ev => by
      apply hJ51
      rw [a, nI_1, ev]
      exact hst _ (F.tr (fr_p (by omega))) (by rw [mup_e]; rfl) (by rw [mup_n (by omega)]; exact b)
    rw [a, b, pk_sub (by omega), show tkB T E p + i - tkB T E p = i by omega]
    by_cases h4 : i < 4
    · refine br_f (nI_ge (b := 4) h4 (by omega)) ⟨vp_in_nI (by omega) (by omega), nx _ ?_⟩
      have r := t.2.2 (tkB T E p + i) (by omega)
      have er : AuR N 0 (tkB T E p + i) = nI (T (tkB T E p + i)) := by
        rw [i32_eq, nI_toInt (by omega)]
        unfold RB at r
        omega
      have := hv4 i (by omega) (by omega)
      rw [nI_clamp (by omega), rar_t N (by omega), er, if_pos (show i ≤ 4 by omega), if_pos (show i + 1 ≤ 4 by omega), show (10 : Int32) = nI 10 from rfl, show (48 : Int32) = nI 48 from rfl, pk_mul, nI_add, pk_sub (by omega)]
      simp only [vN]
      congr 1
      omega
    · refine br_t (nI_le (a := 4) (by omega) (by omega)) (nx _ ?_)
      rw [if_neg (show ¬ i + 1 ≤ 4 by omega)]
      by_cases e4 : i ≤ 4
      · rw [if_pos e4, show i = 4 by omega]
      · rw [if_neg e4]) (fun N F a b => by
    have t := tx.f F
    rw [show tkB T E p + (tkD T E p - tkB T E p) = tkD T E p by omega] at a
    have stop := (sk_rng (T := T) (l := 48) (h := 57) (E - tkB T E p) (tkB T E p) (Nat.le_refl _) (by omega)).2.2.2
    apply hJ6
    refine r_isAt (l := 48) (h := 57) t (by omega) a (by omega) (by omega) (fun g => absurd g stop) (fun g => br_t rfl ⟨vp_in_nI hto (by omega), ?_⟩)
    have hvv := hv4 (if tkD T E p - tkB T E p ≤ 4 then tkD T E p - tkB T E p else 4) (by split <;> omega) (by split <;> omega)
    have m25 : ∀ v, mup N 133 (nI to).toNatClampNeg v 118 25 = nI (tkD T E p) := fun v => by rw [mup_n (by omega)]; exact a
    have m27 : ∀ v, mup N 133 (nI to).toNatClampNeg v 118 27 = nI (tkB T E p) := fun v => by rw [mup_n (by omega)]; exact b
    have S : ∀ v, ScR M (mup N 133 (nI to).toNatClampNeg v) := fun v => F.1.tr (scr_up (by omega))
    have m26 : ∀ v, mup N 133 (nI to).toNatClampNeg v 118 26 = M 118 26 := fun v => by rw [mup_n (by omega)]; exact F.2.2
    have md : ∀ v j, mup N 133 (nI to).toNatClampNeg v 133 j = if j = to then v else M 133 j := fun v j => by
      rw [nI_clamp (by omega)]
      by_cases e : j = to
      · rw [e, mup_e, if_pos rfl]
      · rw [mup_n (by omega), if_neg e]
        exact F.2.1 j
    generalize hvn : vN T (tkB T E p) (if tkD T E p - tkB T E p ≤ 4 then tkD T E p - tkB T E p else 4) = v at *
    have m25 := m25 (nI v)
    have m27 := m27 (nI v)
    have S := S (nI v)
    have m26 := m26 (nI v)
    have md := md (nI v)
    show (_ ∧ _)
    generalize mup N 133 (nI to).toNatClampNeg (nI v) = N1 at *
    rw [m25, m27]
    by_cases hlt : tkB T E p < tkD T E p
    · refine br_f (nI_ge hlt (by omega)) ?_
      rw [pk_sub (by omega)]
      by_cases h5 : tkD T E p - tkB T E p ≤ 4
      · refine br_f (nI_ge (b := 5) (by omega) (by omega)) ?_
        rw [if_pos h5] at hvn
        by_cases hm : v ≤ mx
        · refine br_f (nI_nlt hm hmx) (ky ⟨hlt, h5, by rw [hvn]; exact hm⟩ N1 S m26 m25 (fun j => ?_))
          rw [md j, hvn]
        · exact br_t (nI_lt (by omega) (by omega)) (kn (fun h => hm (by rw [← hvn]; exact h.2.2)) N1 S m27)
      · exact br_t (nI_le (a := 5) (by omega) (by omega)) (kn (fun h => h5 h.2.1) N1 S m27)
    · exact br_t (nI_le (by omega) (by omega)) (kn (fun h => hlt h.1) N1 S m27))
  have := main N0 F0 a0 b0
  rw [if_pos (by omega)] at this
  exact this
theorem r_term {M : Mem} {T : Nat → Nat} {E p : Nat} {d : Nat → Int32} {Q : Int32 → Mem → Prop} (tx : TxR M T E) (hp : p ≤ E) (e3 : M 118 25 = nI p) (ed : ∀ j, j < 4 → M 133 j = d j) (ky : ∀ p' d', tmF T E p d = .inl (p', d') → ∀ N, ScR M N → N 118 26 = M 118 26 → N 118 25 = nI p' → (∀ j, j < 4 → N 133 j = d' j) → Q 1 N) (kn : ∀ b, tmF T E p d = .inr b → ∀ N, ScR M N → N 118 27 = nI b → Q 0 N) : P_X7_readTerm M Q := by
  obtain ⟨q1, q2, q3, q4, q5, q6, q7⟩ := tkH_b (T := T) hp
  intro J90 hJ90
  refine r_word tx hp e3 (fun N F a3 a2 => ?_)
  have t := tx.f F
  have num : ∀ (to mx : Nat), to < 4 → mx < 2 ^ 31 → tmF T E p d = nmF T E to mx (tkW T E p) d → P_X7_number (nI to) (nI mx) N (fun r26 M25 => ((r26 = 0 ∨ r26 = 1) ∧ Q r26 M25)) := fun to mx hto hmx etm => by
    refine r_number t q5 hto hmx a3 (fun hok N1 S1 b6 b3 b4 => ⟨Or.inr rfl, ky _ _ (by rw [etm]; exact if_pos hok) N1 (F.1.tr S1) (b6.trans F.2.2) b3 (fun j hj => ?_)⟩) (fun hno N1 S1 b2 => ⟨Or.inl rfl, kn _ (by rw [etm]; exact if_neg hno) N1 (F.1.tr S1) b2⟩)
    rw [b4 j, F.2.1 j, ed j hj]
    rfl
  have wd : ∀ (w : Nat) (R : Int32 → Mem → Prop), w < 6 → (isW T w (tkB T E p) (tkW T E p) → R 1 N) → (¬ isW T w (tkB T E p) (tkW T E p) → R 0 N) → P_X7_isWord w N R := fun w R hw y n => r_isWord t hw q4 q5 a2 a3 y n
  refine wd 0 _ (by omega) (fun w0 => br_f (by decide) (num 0 100 (by omega) (by omega) (tm_0 w0))) (fun w0 => br_t rfl ?_)
  refine wd 1 _ (by omega) (fun w1 => br_f (by decide) (num 1 1000 (by omega) (by omega) (tm_1 w0 w1))) (fun w1 => br_t rfl ?_)
  refine wd 2 _ (by omega) (fun w2 => br_f (by decide) (num 3 100 (by omega) (by omega) (tm_2 w0 w1 w2))) (fun w2 => br_t rfl ?_)
  refine wd 3 _ (by omega) (fun w3 => ⟨fun _ => ?_, fun h => absurd h (by decide)⟩) (fun w3 => ⟨fun h => absurd rfl h, fun _ => kn _ (tm_n w0 w1 w2 w3) N F.1 a2⟩)
  have etm := tm_3 (d := d) w0 w1 w2 w3
  obtain ⟨s1, s2, s3, s4, s5, s6, s7⟩ := tkH_b (T := T) q5
  refine r_word t q5 a3 (fun N1 F1 b3 b2 => ?_)
  have F2 := F.tr F1
  have wr : ∀ (v : Int32), (FR N1 (mup N1 118 27 (nI (tkB T E (tkW T E p)))) → True) → ScR M (mup N1 133 2 v) ∧ mup N1 133 2 v 118 26 = M 118 26 ∧ mup N1 133 2 v 118 25 = nI (tkW T E (tkW T E p)) ∧ mup N1 133 2 v 118 27 = nI (tkB T E (tkW T E p)) ∧ (∀ j, j < 4 → mup N1 133 2 v 133 j = dU d 2 v j) ∧ AuR (mup N1 133 2 v) = AuR N1 := fun v _ => by
    refine ⟨F2.1.tr (scr_up (by omega)), by rw [mup_n (by omega)]; exact F2.2.2, by rw [mup_n (by omega)]; exact b3, by rw [mup_n (by omega)]; exact b2, fun j hj => ?_, AR_no (by unfold auxR; omega)⟩
    unfold dU
    by_cases e : j = 2
    · rw [e, mup_e, if_pos rfl]
    · rw [mup_n (by omega), if_neg e, F2.2.1 j, ed j hj]
  refine r_isWord (t.f F1) (by omega) s4 s5 b2 b3 (fun w4 => br_f (by decide) ?_) (fun w4 => br_t rfl ?_)
  · apply hJ90
    refine ⟨vp_in_nI (n := 2) (by omega) (by omega), ?_⟩
    obtain ⟨x1, x2, x3, x4, x5, x6⟩ := wr 1 (fun _ => trivial)
    show (vp_in _ _ ∧ _)
    rw [show (2 : Int32) = nI 2 from rfl, nI_clamp (by omega)]
    refine ⟨vp_in_nI (by omega) (by omega), ?_⟩
    generalize mup N1 133 2 1 = N2 at *
    exact br_t (by rw [x5 2 (by omega)]; rfl) (ky _ _ (etm.trans (if_pos w4)) N2 x1 x2 x3 x5)
  · apply hJ90
    refine ⟨vp_in_nI (n := 2) (by omega) (by omega), ?_⟩
    obtain ⟨x1, x2, x3, x4, x5, x6⟩ := wr 0 (fun _ => trivial)
    show (vp_in _ _ ∧ _)
    rw [show (2 : Int32) = nI 2 from rfl, nI_clamp (by omega)]
    refine ⟨vp_in_nI (by omega) (by omega), ?_⟩
    generalize mup N1 133 2 0 = N2 at *
    refine br_f (by rw [x5 2 (by omega)]; exact (show ¬ (0 : Int32) = 1 by decide)) ?_
    refine r_isWord ((t.f F1).to x6 (x2.trans F2.2.2.symm)) (by omega) s4 s5 x4 x3 (fun w5 => br_f (by decide) (ky _ _ (etm.trans ((if_neg w4).trans (if_pos w5))) N2 x1 x2 x3 x5)) (fun w5 => br_t rfl (kn _ (etm.trans ((if_neg w4).trans (if_neg w5))) N2 x1 x4))
