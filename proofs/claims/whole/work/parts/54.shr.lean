/-! ===== what changes of shares leave as it is ===== -/
theorem cntD_eq {V V' : Vw} (h : ∀ c, V' 12 c 0 = V 12 c 0) : ∀ n, cntD V' n = cntD V n := by
  intro n
  induction n with
  | zero => rfl
  | succ n ih => rw [cntD_s, cntD_s, ih, h]
theorem Inv.shr {q : Nat} {V V' : Vw} (h : Inv q V) (hs : ∀ t i j, t ≠ 6 → ¬ (19 ≤ t ∧ t ≤ 25) → V' t i j = V t i j) (h6 : I6 V') (hsh : ISh V') (hsum : ISum V') : Inv q V' := by
  obtain ⟨i0, i11, i15, ⟨⟨i4a, i4b, i4c, i4d⟩, i4q⟩, ⟨i14a, i14b⟩, ⟨i10a, i10b, i10c, i10d⟩, i12, -, -, -, ⟨ifa, ifb⟩, i8⟩ := h
  have ec : ∀ n, cntD V' n = cntD V n := cntD_eq (fun c => hs 12 c 0 (by decide) (by decide))
  refine ⟨?_, fun c => ?_, fun c w => ?_, ⟨⟨?_, ?_, ?_, fun c => ?_⟩, ?_⟩, ⟨?_, fun c hc => ?_⟩, ⟨?_, ?_, ?_, ?_⟩, fun c => ?_, h6, hsh, hsum, ⟨?_, fun f => ?_⟩, ?_⟩
  · unfold I0
    rw [hs 0 0 0 (by decide) (by decide)]
    exact i0
  · rw [hs 11 c 0 (by decide) (by decide)]
    exact i11 c
  · rw [hs 15 c w (by decide) (by decide), hs 16 c w (by decide) (by decide), hs 17 c w (by decide) (by decide)]
    exact i15 c w
  · rw [hs 2 0 0 (by decide) (by decide)]; exact i4a
  · rw [hs 3 0 0 (by decide) (by decide)]; exact i4b
  · rw [hs 4 0 0 (by decide) (by decide)]; exact i4c
  · rw [hs 4 0 0 (by decide) (by decide), hs 13 c 0 (by decide) (by decide)]; exact i4d c
  · rw [hs 4 0 0 (by decide) (by decide)]; exact i4q
  · rw [hs 1 0 0 (by decide) (by decide), ec]; exact i14a
  · rw [hs 12 c 0 (by decide) (by decide)] at hc
    rw [hs 14 c 0 (by decide) (by decide), ec]
    exact i14b c hc
  · rw [hs 10 0 0 (by decide) (by decide)]; exact i10a
  · rw [hs 10 1 0 (by decide) (by decide)]; exact i10b
  · rw [hs 10 2 0 (by decide) (by decide)]; exact i10c
  · rw [hs 10 3 0 (by decide) (by decide)]; exact i10d
  · rw [hs 12 c 0 (by decide) (by decide)]; exact i12 c
  · rw [hs 26 0 0 (by decide) (by decide)]; exact ifa
  · rw [hs 27 f 0 (by decide) (by decide), hs 28 f 0 (by decide) (by decide), hs 29 f 0 (by decide) (by decide)]; exact ifb f
  · unfold I8
    rw [hs 8 0 0 (by decide) (by decide)]
    exact i8
theorem shU_o {V : Vw} {k : Nat} {c f t o : Int32} {t' i j : Nat} (h : ¬ (19 ≤ t' ∧ t' ≤ 25)) : shU V k c f t o t' i j = V t' i j := by
  unfold shU
  rw [vu_ne (by omega), vu_ne (by omega), vu_ne (by omega), vu_ne (by omega), vu_ne (by omega), vu_ne (by omega)]
theorem shU_n {V : Vw} {k : Nat} {c f t o : Int32} {t' i j : Nat} (h : i ≠ k) : shU V k c f t o t' i j = V t' i j := by
  unfold shU
  rw [vu_ne (by omega), vu_ne (by omega), vu_ne (by omega), vu_ne (by omega), vu_ne (by omega), vu_ne (by omega)]
theorem shU_19 {V : Vw} {k : Nat} {c f t o : Int32} : shU V k c f t o 19 k 0 = c := by
  unfold shU
  rw [vu_ne (by omega), vu_ne (by omega), vu_ne (by omega), vu_ne (by omega), vu_ne (by omega), vu_eq]
theorem shU_20 {V : Vw} {k : Nat} {c f t o : Int32} : shU V k c f t o 20 k 0 = f := by
  unfold shU
  rw [vu_ne (by omega), vu_ne (by omega), vu_ne (by omega), vu_ne (by omega), vu_eq]
theorem shU_21 {V : Vw} {k : Nat} {c f t o : Int32} : shU V k c f t o 21 k 0 = t := by
  unfold shU
  rw [vu_ne (by omega), vu_ne (by omega), vu_ne (by omega), vu_eq]
theorem shU_22 {V : Vw} {k : Nat} {c f t o : Int32} : shU V k c f t o 22 k 0 = o := by
  unfold shU
  rw [vu_ne (by omega), vu_ne (by omega), vu_eq]
theorem shU_25 {V : Vw} {k : Nat} {c f t o : Int32} : shU V k c f t o 25 k 0 = 0 := by
  unfold shU
  rw [vu_eq]
theorem adU_o {V : Vw} {c f t o : Int32} {t' i j : Nat} (h6 : t' ≠ 6) (h : ¬ (19 ≤ t' ∧ t' ≤ 25)) : adU V c f t o t' i j = V t' i j := by
  unfold adU
  rw [vu_ne (by omega), shU_o h]
theorem adU_s {V : Vw} {c f t o : Int32} {t' i j : Nat} (h6 : t' ≠ 6) : adU V c f t o t' i j = shU V (ns V) c f t o t' i j := by
  unfold adU
  rw [vu_ne (by omega)]
theorem ns_shU {V : Vw} {k : Nat} {c f t o : Int32} : ns (shU V k c f t o) = ns V := by
  unfold ns
  rw [shU_o (by omega)]
theorem ns_adU {V : Vw} {c f t o : Int32} (h : ns V < 60) : ns (adU V c f t o) = ns V + 1 := by
  have e : adU V c f t o 6 0 0 = nI (ns V + 1) := vu_eq
  show (adU V c f t o 6 0 0).toNatClampNeg = ns V + 1
  rw [e, nI_clamp (by omega)]
theorem I6_shU {V : Vw} {k : Nat} {c f t o : Int32} (h : I6 V) : I6 (shU V k c f t o) := by
  unfold I6
  rw [shU_o (by omega)]
  exact h
theorem I6_adU {V : Vw} {c f t o : Int32} (h : ns V < 60) : I6 (adU V c f t o) := ⟨ns V + 1, by omega, vu_eq⟩
theorem adU_shU {V : Vw} {s : Nat} {a b c d c' f' t' o' : Int32} (h : s ≠ ns V) : adU (shU V s a b c d) c' f' t' o' = shU (adU V c' f' t' o') s a b c d := by
  funext x i j
  by_cases h6 : x = 6
  · subst h6
    rw [shU_o (by omega)]
    unfold adU
    rw [ns_shU]
    by_cases hz : i = 0 ∧ j = 0
    · rw [hz.1, hz.2, vu_eq, vu_eq]
    · rw [vu_ne (by omega), vu_ne (by omega), shU_o (by omega), shU_o (by omega), shU_o (by omega)]
  · rw [adU_s h6, ns_shU]
    by_cases hi : i = s
    · rw [shU_n (by omega)]
      unfold shU
      by_cases e25 : x = 25 ∧ i = s ∧ j = 0
      · rw [e25.1, e25.2.1, e25.2.2, vu_eq, vu_eq]
      · rw [vu_ne e25, vu_ne e25]
        by_cases e24 : x = 24 ∧ i = s ∧ j = 0
        · rw [e24.1, e24.2.1, e24.2.2, vu_eq, vu_eq]
        · rw [vu_ne e24, vu_ne e24]
          by_cases e22 : x = 22 ∧ i = s ∧ j = 0
          · rw [e22.1, e22.2.1, e22.2.2, vu_eq, vu_eq]
          · rw [vu_ne e22, vu_ne e22]
            by_cases e21 : x = 21 ∧ i = s ∧ j = 0
            · rw [e21.1, e21.2.1, e21.2.2, vu_eq, vu_eq]
            · rw [vu_ne e21, vu_ne e21]
              by_cases e20 : x = 20 ∧ i = s ∧ j = 0
              · rw [e20.1, e20.2.1, e20.2.2, vu_eq, vu_eq]
              · rw [vu_ne e20, vu_ne e20]
                by_cases e19 : x = 19 ∧ i = s ∧ j = 0
                · rw [e19.1, e19.2.1, e19.2.2, vu_eq, vu_eq]
                · rw [vu_ne e19, vu_ne e19, adU_s h6, shU_n (by omega)]
    · rw [shU_n (V := adU V c' f' t' o') hi, adU_s h6]
      unfold shU
      by_cases e25 : x = 25 ∧ i = ns V ∧ j = 0
      · rw [e25.1, e25.2.1, e25.2.2, vu_eq, vu_eq]
      · rw [vu_ne e25, vu_ne e25]
        by_cases e24 : x = 24 ∧ i = ns V ∧ j = 0
        · rw [e24.1, e24.2.1, e24.2.2, vu_eq, vu_eq]
        · rw [vu_ne e24, vu_ne e24]
          by_cases e22 : x = 22 ∧ i = ns V ∧ j = 0
          · rw [e22.1, e22.2.1, e22.2.2, vu_eq, vu_eq]
          · rw [vu_ne e22, vu_ne e22]
            by_cases e21 : x = 21 ∧ i = ns V ∧ j = 0
            · rw [e21.1, e21.2.1, e21.2.2, vu_eq, vu_eq]
            · rw [vu_ne e21, vu_ne e21]
              by_cases e20 : x = 20 ∧ i = ns V ∧ j = 0
              · rw [e20.1, e20.2.1, e20.2.2, vu_eq, vu_eq]
              · rw [vu_ne e20, vu_ne e20]
                by_cases e19 : x = 19 ∧ i = ns V ∧ j = 0
                · rw [e19.1, e19.2.1, e19.2.2, vu_eq, vu_eq]
                · rw [vu_ne e19, vu_ne e19]
                  exact shU_n hi
/-- a share that is right -/
def GS (V : Vw) (c f t o : Int32) : Prop := (∃ d, d < 8 ∧ c = nI d ∧ 0 < V 12 d 0 ∧ 0 ≤ f.toInt ∧ f.toInt < t.toInt ∧ t.toInt ≤ (V 12 d 0).toInt) ∧ rg o 0 30
theorem GS.to {V V' : Vw} {c f t o : Int32} (h : GS V c f t o) (e : ∀ d, V' 12 d 0 = V 12 d 0) : GS V' c f t o := by
  obtain ⟨⟨d, h1, h2, h3, h4, h5, h6⟩, h7⟩ := h
  exact ⟨⟨d, h1, h2, by rw [e]; exact h3, h4, h5, by rw [e]; exact h6⟩, h7⟩
theorem ISh_shU {V : Vw} {k : Nat} {c f t o : Int32} (h : ISh V) (g : GS V c f t o) : ISh (shU V k c f t o) := by
  intro s hs
  rw [ns_shU] at hs
  by_cases e : s = k
  · subst e
    rw [shU_19, shU_20, shU_21, shU_22]
    exact g.to (fun d => shU_o (by omega))
  · rw [shU_n e, shU_n e, shU_n e, shU_n e]
    exact GS.to (V := V) (h s hs) (fun d => shU_o (by omega))
theorem ISh_adU {V : Vw} {c f t o : Int32} (h : ISh V) (hn : ns V < 60) (g : GS V c f t o) : ISh (adU V c f t o) := by
  intro s hs
  rw [ns_adU hn] at hs
  rw [adU_s (by omega), adU_s (by omega), adU_s (by omega), adU_s (by omega)]
  by_cases e : s = ns V
  · subst e
    rw [shU_19, shU_20, shU_21, shU_22]
    exact g.to (fun d => adU_o (by omega) (by omega))
  · rw [shU_n e, shU_n e, shU_n e, shU_n e]
    exact GS.to (V := V) (h s (by omega)) (fun d => adU_o (by omega) (by omega))
def ctr (V : Vw) (c s : Nat) : Int := if V 19 s 0 = nI c then (V 21 s 0).toInt - (V 20 s 0).toInt else 0
def ctN (c : Nat) (ch f t : Int32) : Int := if ch = nI c then t.toInt - f.toInt else 0
theorem sm_s (V : Vw) (c s : Nat) : smV V c (s + 1) = smV V c s + ctr V c s := rfl
theorem sm_eq {V V' : Vw} {c : Nat} : ∀ n, (∀ s, s < n → ctr V' c s = ctr V c s) → smV V' c n = smV V c n := by
  intro n
  induction n with
  | zero => intro _; rfl
  | succ n ih => intro h; rw [sm_s, sm_s, ih (fun s hs => h s (by omega)), h n (by omega)]
theorem sm_set {V V' : Vw} {c k : Nat} : ∀ n, k < n → (∀ s, s < n → s ≠ k → ctr V' c s = ctr V c s) → smV V' c n = smV V c n - ctr V c k + ctr V' c k := by
  intro n
  induction n with
  | zero => intro h; omega
  | succ n ih =>
    intro hk h
    rw [sm_s, sm_s]
    by_cases e : k = n
    · subst e
      rw [sm_eq k (fun s hs => h s (by omega) (by omega))]
      omega
    · rw [ih (by omega) (fun s hs => h s (by omega)), h n (by omega) (by omega)]
      omega
theorem sm_0 {V : Vw} {c : Nat} : ∀ n, (∀ s, s < n → ¬ V 19 s 0 = nI c) → smV V c n = 0 := by
  intro n
  induction n with
  | zero => intro _; rfl
  | succ n ih =>
    intro h
    rw [sm_s, ih (fun s hs => h s (by omega))]
    unfold ctr
    rw [if_neg (h n (by omega))]
    rfl
theorem ctr_shU {V : Vw} {k c : Nat} {ch f t o : Int32} : ctr (shU V k ch f t o) c k = ctN c ch f t := by
  unfold ctr ctN
  rw [shU_19, shU_20, shU_21]
theorem ctr_shN {V : Vw} {k c s : Nat} {ch f t o : Int32} (h : s ≠ k) : ctr (shU V k ch f t o) c s = ctr V c s := by
  unfold ctr
  rw [shU_n h, shU_n h, shU_n h]
theorem ctr_adU {V : Vw} {c s : Nat} {ch f t o : Int32} : ctr (adU V ch f t o) c s = ctr (shU V (ns V) ch f t o) c s := by
  unfold ctr
  rw [adU_s (by omega), adU_s (by omega), adU_s (by omega)]
theorem D_shU {V : Vw} {k c : Nat} {ch f t o : Int32} (hk : k < ns V) : smV (shU V k ch f t o) c (ns (shU V k ch f t o)) = smV V c (ns V) - ctr V c k + ctN c ch f t := by
  rw [ns_shU, sm_set (ns V) hk (fun s _ hs => ctr_shN hs), ctr_shU]
theorem D_adU {V : Vw} {c : Nat} {ch f t o : Int32} (hn : ns V < 60) : smV (adU V ch f t o) c (ns (adU V ch f t o)) = smV V c (ns V) + ctN c ch f t := by
  rw [ns_adU hn, sm_s, sm_eq (V := V) (V' := adU V ch f t o) (ns V) (fun s hs => by rw [ctr_adU, ctr_shN (by omega)]), ctr_adU, ctr_shU]
/-- a step that leaves the reference's tape, tenants and diggings as they were -/
theorem Ok.mk3 {q : Nat} {M M' : Mem} {V : Vw} (h : Ok q M) (hq : q < 512) (hC : VC M' = V) (hR : VR M' = V) (hAR : AuR M' = AuR M) (h12 : ∀ c, V 12 c 0 = VR M 12 c 0) (hT : ∀ k, AuC M' 0 k = AuC M 0 k) (hN : ∀ s, s < 60 → 0 < V 25 s 0 → 0 < VR M 25 s 0 ∧ AuC M' 1 s = AuC M 1 s) (hI : Inv (q + 1) V) : Ok (q + 1) M' := by
  obtain ⟨-, ⟨-, hD, hTo, hNo⟩, -⟩ := h
  refine ⟨by omega, ⟨hC.trans hR.symm, fun c hc => ?_, fun k hk => ?_, fun s hs h0 => ?_⟩, by rw [hR]; exact hI⟩
  · rw [hAR, hR, h12]; exact hD c hc
  · rw [hT, hAR]; exact hTo k hk
  · rw [hR] at h0
    obtain ⟨g1, g2⟩ := hN s hs h0
    rw [g2, hAR]
    exact hNo s hs g1
