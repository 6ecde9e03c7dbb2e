/-! ===== the law's text: both readers find the same things ===== -/
def skN (T : Nat → Nat) (l h E : Nat) : Nat → Nat → Nat
  | 0, k => k
  | f + 1, k => if k < E ∧ l ≤ T k ∧ T k ≤ h then skN T l h E f (k + 1) else k
def sk (T : Nat → Nat) (l h E k : Nat) : Nat := skN T l h E (E - k) k
theorem sk_y {T : Nat → Nat} {l h E k : Nat} (g : k < E ∧ l ≤ T k ∧ T k ≤ h) : sk T l h E k = sk T l h E (k + 1) := by
  unfold sk
  rw [show E - k = (E - (k + 1)) + 1 by omega]
  simp only [skN]
  rw [if_pos g]
theorem sk_n {T : Nat → Nat} {l h E k : Nat} (g : ¬ (k < E ∧ l ≤ T k ∧ T k ≤ h)) : sk T l h E k = k := by
  unfold sk
  rcases Nat.eq_zero_or_pos (E - k) with e | e
  · rw [e]
    rfl
  · rw [show E - k = (E - k - 1) + 1 by omega]
    simp only [skN]
    rw [if_neg g]
theorem sk_rng {T : Nat → Nat} {l h E : Nat} : ∀ f k, E - k ≤ f → k ≤ E → k ≤ sk T l h E k ∧ sk T l h E k ≤ E ∧ (∀ i, k ≤ i → i < sk T l h E k → l ≤ T i ∧ T i ≤ h) ∧ ¬ (sk T l h E k < E ∧ l ≤ T (sk T l h E k) ∧ T (sk T l h E k) ≤ h) := by
  intro f
  induction f with
  | zero =>
    intro k hf hk
    rw [sk_n (by omega)]
    exact ⟨Nat.le_refl _, hk, fun i h1 h2 => by omega, by omega⟩
  | succ f ih =>
    intro k hf hk
    by_cases g : k < E ∧ l ≤ T k ∧ T k ≤ h
    · rw [sk_y g]
      obtain ⟨a1, a2, a3, a4⟩ := ih (k + 1) (by omega) (by omega)
      refine ⟨by omega, a2, fun i h1 h2 => ?_, a4⟩
      by_cases e : i = k
      · rw [e]; exact g.2
      · exact a3 i (by omega) h2
    · rw [sk_n g]
      exact ⟨Nat.le_refl _, hk, fun i h1 h2 => by omega, g⟩
theorem sk_b {T : Nat → Nat} {l h E k : Nat} (hk : k ≤ E) : k ≤ sk T l h E k ∧ sk T l h E k ≤ E := ⟨(sk_rng (E - k) k (Nat.le_refl _) hk).1, (sk_rng (E - k) k (Nat.le_refl _) hk).2.1⟩
/-- where a thing begins, and what is behind it, for the class -/
def tkB (T : Nat → Nat) (E p : Nat) : Nat := sk T 32 32 E p
def tkW (T : Nat → Nat) (E p : Nat) : Nat := sk T 97 122 E (tkB T E p)
def tkD (T : Nat → Nat) (E p : Nat) : Nat := sk T 48 57 E (tkB T E p)
def tkH (T : Nat → Nat) (E p : Nat) : Nat := if tkB T E p < tkW T E p then tkW T E p else if tkD T E p = tkB T E p ∧ tkB T E p < E then tkB T E p + 1 else tkD T E p
def TxC (M : Mem) (T : Nat → Nat) (E : Nat) : Prop := VC M 8 0 0 = nI E ∧ E ≤ 400 ∧ ∀ k, k < 400 → AuC M 0 k = nI (T k) ∧ T k < 256
theorem TxC.to {M N : Mem} {T : Nat → Nat} {E : Nat} (h : TxC M T E) (s : ScC M N) : TxC N T E := by
  unfold TxC
  rw [s.2.1, s.2.2]
  exact h
def FC (M N : Mem) : Prop := ScC M N ∧ ∀ j, N 4 j = M 4 j
theorem FC.r {M : Mem} : FC M M := ⟨ScC.r, fun _ => rfl⟩
theorem FC.tr {A B C : Mem} (h : FC A B) (g : FC B C) : FC A C := ⟨h.1.tr g.1, fun j => (g.2 j).trans (h.2 j)⟩
theorem fc_up {M : Mem} {l : Nat} {v : Int32} : FC M (mup M 1 l v) := ⟨scc_up (by omega), fun _ => mup_n (by omega)⟩
theorem c_take {M : Mem} {T : Nat → Nat} {E p : Nat} {Q : Mem → Prop} (tx : TxC M T E) (hp : p ≤ E) (e3 : M 1 3 = nI p) (k : ∀ N, FC M N → N 1 2 = nI (tkB T E p) → N 1 3 = nI (tkH T E p) → Q N) : P_X3_takeThing M Q := by
  have hE := tx.2.1
  intro J8 J52 J60 J105 J117 J162 hJ8 hJ52 hJ60 hJ105 hJ117 hJ162
  have hb := sk_b (T := T) (l := 32) (h := 32) hp
  have eB : tkB T E p = sk T 32 32 E p := rfl
  have hw := sk_b (T := T) (l := 97) (h := 122) (E := E) (k := tkB T E p) (by omega)
  have hd := sk_b (T := T) (l := 48) (h := 57) (E := E) (k := tkB T E p) (by omega)
  have eW : tkW T E p = sk T 97 122 E (tkB T E p) := rfl
  have eD : tkD T E p = sk T 48 57 E (tkB T E p) := rfl
  have l162 : ∀ N, FC M N → N 1 2 = nI (tkB T E p) → N 1 3 = nI (tkD T E p) → ¬ tkB T E p < tkW T E p → J162 N := fun N F a2 a3 hn => by
    have t := tx.to F.1
    apply hJ162
    rw [a2, a3, rc_8 N, t.1]
    have eH : tkH T E p = if tkD T E p = tkB T E p ∧ tkB T E p < E then tkB T E p + 1 else tkD T E p := by unfold tkH; rw [if_neg hn]
    by_cases h1 : tkD T E p = tkB T E p
    · refine ⟨fun h => absurd (by rw [h1]) h, fun _ => ?_⟩
      by_cases h2 : tkB T E p < E
      · rw [if_pos ⟨h1, h2⟩] at eH
        refine br_f (nI_ge h2 (by omega)) (k _ (F.tr fc_up) (by rw [mup_n (by omega)]; exact a2) ?_)
        rw [mup_e, eH, h1, nI_1]
      · rw [if_neg (fun h => h2 h.2)] at eH
        exact br_t (nI_le (by omega) (by omega)) (k N F a2 (by rw [eH]; exact a3))
    · rw [if_neg (fun h => h1 h.1)] at eH
      exact ⟨fun _ => k N F a2 (by rw [eH]; exact a3), fun h => absurd ((nI_eq (by omega) (by omega)).mp h) h1⟩
  have l117 : ∀ f c N, E - c ≤ f → c ≤ E → FC M N → N 1 2 = nI (tkB T E p) → N 1 3 = nI c → sk T 48 57 E c = tkD T E p → ¬ tkB T E p < tkW T E p → J117 N := by
    intro f
    induction f with
    | zero =>
      intro c N hf hc F a2 a3 hs hn
      have t := tx.to F.1
      apply hJ117
      rw [a3, rc_8 N, t.1]
      refine br_t (nI_le (by omega) (by omega)) (l162 N F a2 ?_ hn)
      rw [← hs, sk_n (by omega)]
      exact a3
    | succ f ih =>
      intro c N hf hc F a2 a3 hs hn
      have t := tx.to F.1
      apply hJ117
      rw [a3, rc_8 N, t.1]
      by_cases hce : c < E
      · refine br_f (nI_ge hce (by omega)) ⟨vp_in_nI (by omega) (by omega), ?_⟩
        rw [nI_clamp (by omega), rac_t N (by omega), (t.2.2 c (by omega)).1]
        have ht := (t.2.2 c (by omega)).2
        by_cases hg : 48 ≤ T c ∧ T c ≤ 57
        · refine wi1 (nI_nlt (b := 48) hg.1 (by omega)) (nI_nlt (a := 57) hg.2 (by omega)) ⟨Or.inr rfl, br_f (by decide) ?_⟩
          rw [a3, nI_1]
          exact ih (c + 1) _ (by omega) (by omega) (F.tr fc_up) (by rw [mup_n (by omega)]; exact a2) (by rw [mup_e]) (by rw [← sk_y ⟨hce, hg⟩]; exact hs) hn
        · refine wi0 ?_ ⟨Or.inl rfl, br_t rfl (l162 N F a2 ?_ hn)⟩
          · by_cases h1 : T c < 48
            · exact Or.inl (nI_lt (b := 48) h1 (by omega))
            · exact Or.inr (nI_lt (a := 57) (by omega) (by omega))
          · rw [← hs, sk_n (by omega)]
            exact a3
      · refine br_t (nI_le (by omega) (by omega)) (l162 N F a2 ?_ hn)
        rw [← hs, sk_n (by omega)]
        exact a3
  have l105 : ∀ N, FC M N → N 1 2 = nI (tkB T E p) → N 1 3 = nI (tkW T E p) → J105 N := fun N F a2 a3 => by
    apply hJ105
    rw [a2, a3]
    by_cases h1 : tkB T E p < tkW T E p
    · refine br_f (nI_ge h1 (by omega)) (k N F a2 ?_)
      rw [a3]
      unfold tkH
      rw [if_pos h1]
    · refine br_t (nI_le (by omega) (by omega)) (l117 (E - tkB T E p) (tkB T E p) N (Nat.le_refl _) (by omega) F a2 ?_ rfl h1)
      rw [a3, show tkW T E p = tkB T E p by omega]
  have l60 : ∀ f c N, E - c ≤ f → c ≤ E → FC M N → N 1 2 = nI (tkB T E p) → N 1 3 = nI c → sk T 97 122 E c = tkW T E p → J60 N := by
    intro f
    induction f with
    | zero =>
      intro c N hf hc F a2 a3 hs
      have t := tx.to F.1
      apply hJ60
      rw [a3, rc_8 N, t.1]
      refine br_t (nI_le (by omega) (by omega)) (l105 N F a2 ?_)
      rw [← hs, sk_n (by omega)]
      exact a3
    | succ f ih =>
      intro c N hf hc F a2 a3 hs
      have t := tx.to F.1
      apply hJ60
      rw [a3, rc_8 N, t.1]
      by_cases hce : c < E
      · refine br_f (nI_ge hce (by omega)) ⟨vp_in_nI (by omega) (by omega), ?_⟩
        rw [nI_clamp (by omega), rac_t N (by omega), (t.2.2 c (by omega)).1]
        have ht := (t.2.2 c (by omega)).2
        by_cases hg : 97 ≤ T c ∧ T c ≤ 122
        · refine wi1 (nI_nlt (b := 97) hg.1 (by omega)) (nI_nlt (a := 122) hg.2 (by omega)) ⟨Or.inr rfl, br_f (by decide) ?_⟩
          rw [a3, nI_1]
          exact ih (c + 1) _ (by omega) (by omega) (F.tr fc_up) (by rw [mup_n (by omega)]; exact a2) (by rw [mup_e]) (by rw [← sk_y ⟨hce, hg⟩]; exact hs)
        · refine wi0 ?_ ⟨Or.inl rfl, br_t rfl (l105 N F a2 ?_)⟩
          · by_cases h1 : T c < 97
            · exact Or.inl (nI_lt (b := 97) h1 (by omega))
            · exact Or.inr (nI_lt (a := 122) (by omega) (by omega))
          · rw [← hs, sk_n (by omega)]
            exact a3
      · refine br_t (nI_le (by omega) (by omega)) (l105 N F a2 ?_)
        rw [← hs, sk_n (by omega)]
        exact a3
  have l52 : ∀ N, FC M N → N 1 2 = nI (tkB T E p) → J52 N := fun N F a2 => by
    apply hJ52
    rw [a2]
    exact l60 (E - tkB T E p) (tkB T E p) _ (Nat.le_refl _) (by omega) (F.tr fc_up) (by rw [mup_n (by omega)]; exact a2) (by rw [mup_e]) rfl
  have l8 : ∀ f c N, E - c ≤ f → c ≤ E → FC M N → N 1 2 = nI c → sk T 32 32 E c = tkB T E p → J8 N := by
    intro f
    induction f with
    | zero =>
      intro c N hf hc F a2 hs
      have t := tx.to F.1
      apply hJ8
      rw [a2, rc_8 N, t.1]
      refine br_t (nI_le (by omega) (by omega)) (l52 N F ?_)
      rw [← hs, sk_n (by omega)]
      exact a2
    | succ f ih =>
      intro c N hf hc F a2 hs
      have t := tx.to F.1
      apply hJ8
      rw [a2, rc_8 N, t.1]
      by_cases hce : c < E
      · refine br_f (nI_ge hce (by omega)) ⟨vp_in_nI (by omega) (by omega), ?_⟩
        rw [nI_clamp (by omega), rac_t N (by omega), (t.2.2 c (by omega)).1]
        have ht := (t.2.2 c (by omega)).2
        refine ⟨fun h => l52 N F ?_, fun h => ?_⟩
        · rw [← hs, sk_n (fun g => h (by rw [show T c = 32 by omega]; rfl))]
          exact a2
        · have e32 : T c = 32 := (nI_eq (b := 32) (by omega) (by omega)).mp h
          rw [nI_1]
          exact ih (c + 1) _ (by omega) (by omega) (F.tr fc_up) (by rw [mup_e]) (by rw [← sk_y ⟨hce, by omega, by omega⟩]; exact hs)
      · refine br_t (nI_le (by omega) (by omega)) (l52 N F ?_)
        rw [← hs, sk_n (by omega)]
        exact a2
  rw [e3]
  exact l8 (E - p) p _ (Nat.le_refl _) hp fc_up (by rw [mup_e]) rfl
def wdN : List (List Nat) := [[100, 105, 115, 116, 97, 110, 99, 101], [100, 101, 112, 116, 104], [102, 114, 101, 101], [114, 101, 112, 97, 105, 114], [104, 101, 97, 100, 115], [104, 111, 117, 114, 115]]
theorem wd_all : ∀ w, w < 6 → (0 < wLen.getD w 0 ∧ wLen.getD w 0 ≤ 8) ∧ ∀ i, i < wLen.getD w 0 → (wByt.getD w []).getD i 0 = nI ((wdN.getD w []).getD i 0) ∧ 97 ≤ (wdN.getD w []).getD i 0 ∧ (wdN.getD w []).getD i 0 ≤ 122 := by decide +kernel
/-- the word w stands from b to h -/
def isW (T : Nat → Nat) (w b h : Nat) : Prop := h - b = wLen.getD w 0 ∧ ∀ i, i < wLen.getD w 0 → T (b + i) = (wdN.getD w []).getD i 0
theorem c_isWord {M : Mem} {T : Nat → Nat} {E w b h : Nat} {Q : Int32 → Mem → Prop} (tx : TxC M T E) (hw : w < 6) (hbh : b ≤ h) (hh : h ≤ E) (e2 : M 1 2 = nI b) (e3 : M 1 3 = nI h) (ky : isW T w b h → Q 1 M) (kn : ¬ isW T w b h → Q 0 M) : P_X3_isWord w M Q := by
  have hE := tx.2.1
  obtain ⟨⟨hl0, hl8⟩, hwd⟩ := wd_all w hw
  intro J20 hJ20
  rw [e2, e3, pk_sub hbh]
  by_cases hlen : h - b = wLen.getD w 0
  · refine br_t (by rw [hlen]) ?_
    have main := dn (P := fun i => (∀ j, j < i → T (b + j) = (wdN.getD w []).getD j 0) → J20 (nI i) M) (wLen.getD w 0) (fun i hi hst hpre => by
      apply hJ20
      refine br_f (nI_ge hi (by omega)) ?_
      obtain ⟨x1, x2, x3⟩ := hwd i hi
      have tb := tx.2.2 (b + i) (by omega)
      rw [e2, nI_add, nI_clamp (by omega), nI_clamp (by omega), rac_t M (by omega), tb.1, x1]
      refine ⟨vp_in_nI (by omega) (by omega), vp_in_nI hi (by omega), br_c (fun h1 => ?_) (fun h1 => kn (fun hW => h1 (by rw [hW.2 i hi])))⟩
      have e := (nI_eq (by omega) (by omega)).mp h1
      rw [nI_1]
      refine hst (fun j hj => ?_)
      by_cases ej : j = i
      · rw [ej]; exact e
      · exact hpre j (by omega)) (fun hpre => by
      apply hJ20
      exact br_t (nI_le (Nat.le_refl _) (by omega)) (ky ⟨hlen, hpre⟩))
    exact main (fun j hj => absurd hj (Nat.not_lt_zero _))
  · exact br_f (fun h1 => hlen ((nI_eq (by omega) (by omega)).mp h1)) (kn (fun hW => hlen hW.1))
/-- a word is found alike by both -/
theorem isW_tk {T : Nat → Nat} {E p w : Nat} (hw : w < 6) (hp : p ≤ E) : isW T w (tkB T E p) (tkH T E p) ↔ isW T w (tkB T E p) (tkW T E p) := by
  obtain ⟨⟨hl0, hl8⟩, hwd⟩ := wd_all w hw
  have hb := sk_b (T := T) (l := 32) (h := 32) hp
  have eB : tkB T E p = sk T 32 32 E p := rfl
  have hw' := sk_b (T := T) (l := 97) (h := 122) (E := E) (k := tkB T E p) (by omega)
  have eW : tkW T E p = sk T 97 122 E (tkB T E p) := rfl
  have hd := sk_b (T := T) (l := 48) (h := 57) (E := E) (k := tkB T E p) (by omega)
  have eD : tkD T E p = sk T 48 57 E (tkB T E p) := rfl
  by_cases h : tkB T E p < tkW T E p
  · have : tkH T E p = tkW T E p := by unfold tkH; rw [if_pos h]
    rw [this]
  · refine ⟨fun g => ?_, fun g => ?_⟩
    · exfalso
      have h0 := g.2 0 hl0
      rw [Nat.add_zero] at h0
      have hr := (hwd 0 hl0).2
      have hH : tkB T E p < tkH T E p := by have := g.1; omega
      have hE : tkB T E p < E := by
        unfold tkH at hH
        rw [if_neg h] at hH
        split at hH <;> omega
      have := sk_y (T := T) (l := 97) (h := 122) (E := E) (k := tkB T E p) ⟨hE, by omega, by omega⟩
      have h2 := sk_b (T := T) (l := 97) (h := 122) (E := E) (k := tkB T E p + 1) (by omega)
      omega
    · exfalso
      have := g.1
      omega
theorem tkH_b {T : Nat → Nat} {E p : Nat} (hp : p ≤ E) : tkB T E p ≤ tkH T E p ∧ tkH T E p ≤ E ∧ p ≤ tkB T E p ∧ tkB T E p ≤ tkW T E p ∧ tkW T E p ≤ E ∧ tkB T E p ≤ tkD T E p ∧ tkD T E p ≤ E := by
  have hb := sk_b (T := T) (l := 32) (h := 32) hp
  have eB : tkB T E p = sk T 32 32 E p := rfl
  have hw' := sk_b (T := T) (l := 97) (h := 122) (E := E) (k := tkB T E p) (by omega)
  have eW : tkW T E p = sk T 97 122 E (tkB T E p) := rfl
  have hd := sk_b (T := T) (l := 48) (h := 57) (E := E) (k := tkB T E p) (by omega)
  have eD : tkD T E p = sk T 48 57 E (tkB T E p) := rfl
  unfold tkH
  split
  · omega
  · split <;> omega
theorem isW_H {T : Nat → Nat} {E p w : Nat} (hw : w < 6) (hp : p ≤ E) (g : isW T w (tkB T E p) (tkW T E p)) : tkH T E p = tkW T E p ∧ tkB T E p < tkW T E p := by
  obtain ⟨⟨hl0, hl8⟩, -⟩ := wd_all w hw
  have h1 := g.1
  have h : tkB T E p < tkW T E p := by omega
  unfold tkH
  rw [if_pos h]
  exact ⟨rfl, h⟩
/-- a number's digits -/
def vN (T : Nat → Nat) (b : Nat) : Nat → Nat
  | 0 => 0
  | n + 1 => vN T b n * 10 + T (b + n) - 48
theorem vN_le {T : Nat → Nat} {b : Nat} : ∀ n, (∀ i, i < n → 48 ≤ T (b + i) ∧ T (b + i) ≤ 57) → vN T b n < 10 ^ n := by
  intro n
  induction n with
  | zero => intro _; simp [vN]
  | succ n ih =>
    intro h
    have h1 := ih (fun i hi => h i (by omega))
    have h2 := h n (by omega)
    simp only [vN]
    rw [Nat.pow_succ]
    omega
def nmOk (T : Nat → Nat) (E p mx : Nat) : Prop := tkB T E p < tkD T E p ∧ tkD T E p - tkB T E p ≤ 4 ∧ vN T (tkB T E p) (tkD T E p - tkB T E p) ≤ mx
theorem c_isNumber {M : Mem} {T : Nat → Nat} {E p to mx : Nat} {Q : Int32 → Mem → Prop} (tx : TxC M T E) (hp : p ≤ E) (hto : to < 4) (hmx : mx < 2 ^ 31) (e3 : M 1 3 = nI p) (ky : nmOk T E p mx → ∀ N, ScC M N → N 1 3 = nI (tkD T E p) → (∀ j, N 4 j = if j = to then nI (vN T (tkB T E p) (tkD T E p - tkB T E p)) else M 4 j) → Q 1 N) (kn : ¬ nmOk T E p mx → ∀ N, ScC M N → N 1 2 = nI (tkB T E p) → Q 0 N) : P_X3_isNumber (nI to) (nI mx) M Q := by
  have hE := tx.2.1
  obtain ⟨q1, q2, q3, q4, q5, q6, q7⟩ := tkH_b (T := T) hp
  intro J59 hJ59
  refine c_take tx hp e3 (fun N F a2 a3 => ?_)
  have t := tx.to F.1
  rw [a2, rc_8 N, t.1]
  by_cases hbE : tkB T E p < E
  · refine br_f (nI_ge hbE (by omega)) ⟨vp_in_nI (by omega) (by omega), ?_⟩
    obtain ⟨tb, tb2⟩ := t.2.2 (tkB T E p) (by omega)
    rw [nI_clamp (by omega), rac_t N (by omega), tb]
    by_cases hg : 48 ≤ T (tkB T E p) ∧ T (tkB T E p) ≤ 57
    · refine wi1 (nI_nlt (b := 48) hg.1 (by omega)) (nI_nlt (a := 57) hg.2 (by omega)) ⟨Or.inr rfl, br_f (by decide) ?_⟩
      -- not a letter, so the thing is the digits
      have hWn : tkW T E p = tkB T E p := sk_n (by omega)
      have hDb : tkB T E p < tkD T E p := by
        have h1 : tkD T E p = sk T 48 57 E (tkB T E p + 1) := sk_y ⟨hbE, hg⟩
        have h2 := sk_b (T := T) (l := 48) (h := 57) (E := E) (k := tkB T E p + 1) (by omega)
        omega
      have hH : tkH T E p = tkD T E p := by
        unfold tkH
        rw [if_neg (by omega), if_neg (by omega)]
      rw [hH] at a3
      rw [a2, a3, pk_sub (by omega)]
      by_cases h4 : tkD T E p - tkB T E p ≤ 4
      · refine br_t (nI_le (b := 4) h4 (by omega)) ?_
        have hdig := (sk_rng (T := T) (l := 48) (h := 57) (E - tkB T E p) (tkB T E p) (Nat.le_refl _) (by omega)).2.2.1
        have hv : ∀ n, n ≤ tkD T E p - tkB T E p → vN T (tkB T E p) n < 10 ^ n := fun n hn => vN_le n (fun i hi => hdig (tkB T E p + i) (by omega) (by have : tkD T E p = sk T 48 57 E (tkB T E p) := rfl; omega))
        have hv4 : ∀ n, n ≤ tkD T E p - tkB T E p → vN T (tkB T E p) n < 10000 := fun n hn => by
          have h1 := hv n hn
          have h2 : 10 ^ n ≤ 10 ^ 4 := Nat.pow_le_pow_right (by omega) (by omega)
          omega
        have main := dn (P := fun i => J59 (nI (vN T (tkB T E p) i)) (nI (tkB T E p + i)) N) (tkD T E p - tkB T E p) (fun i hi hst => by
          apply hJ59
          rw [a3]
          refine br_f (nI_ge (by omega) (by omega)) ⟨vp_in_nI (by omega) (by omega), ?_⟩
          have tb := (t.2.2 (tkB T E p + i) (by omega))
          have hdi := hdig (tkB T E p + i) (by omega) (by have : tkD T E p = sk T 48 57 E (tkB T E p) := rfl; omega)
          have := hv4 i (by omega)
          rw [nI_clamp (by omega), rac_t N (by omega), tb.1, show (10 : Int32) = nI 10 from rfl, show (48 : Int32) = nI 48 from rfl, pk_mul, nI_add, pk_sub (by omega), nI_1]
          exact hst) (by
          apply hJ59
          rw [a3, show tkB T E p + (tkD T E p - tkB T E p) = tkD T E p by omega]
          refine br_t (nI_le (Nat.le_refl _) (by omega)) ?_
          have hvv := hv4 _ (Nat.le_refl _)
          by_cases hm : vN T (tkB T E p) (tkD T E p - tkB T E p) ≤ mx
          · refine br_t (nI_le hm hmx) ⟨vp_in_nI hto (by omega), ky ⟨hDb, h4, hm⟩ _ (F.1.tr (scc_up (by omega))) (by rw [mup_n (by omega)]; exact a3) (fun j => ?_)⟩
            rw [nI_clamp (by omega)]
            by_cases e : j = to
            · rw [e, mup_e, if_pos rfl]
            · rw [mup_n (by omega), if_neg e]
              exact F.2 j
          · exact br_f (nI_ge (by omega) (by omega)) (kn (fun h => hm h.2.2) N F.1 a2))
        exact main
      · exact br_f (nI_ge (a := 4) (by omega) (by omega)) (kn (fun h => h4 h.2.1) N F.1 a2)
    · have hDn : tkD T E p = tkB T E p := sk_n (by omega)
      refine wi0 ?_ ⟨Or.inl rfl, br_t rfl (kn (fun h => by have := h.1; omega) N F.1 a2)⟩
      by_cases h1 : T (tkB T E p) < 48
      · exact Or.inl (nI_lt (b := 48) h1 (by omega))
      · exact Or.inr (nI_lt (a := 57) (by omega) (by omega))
  · exact br_t (nI_le (by omega) (by omega)) (kn (fun h => by have := h.1; omega) N F.1 a2)
