/-! ===== let, field, count ===== -/
def bdLet (V : Vw) (s : Nat) (p2 p3 p4 : Int32) : Prop := (p2 < 0 ∨ 30 < p2) ∨ p2 = V 22 s 0 ∨ p3 < V 5 0 0 ∨ p4 ≤ p3 ∨ ¬ p4 ≤ 100000000
theorem c_letcall {M : Mem} {s : Nat} {p2 p3 p4 : Int32} {Q : Mem → Prop} {X : String → Mem → Prop} (h6 : I6 (VC M)) (hs : s < ns (VC M)) (hl : ¬ ltV (VC M) s) (kb : bdLet (VC M) s p2 p3 p4 → X "java/lang/IllegalArgumentException" M) (kg : ¬ bdLet (VC M) s p2 p3 p4 → ∀ M1, Hi M M1 → VC M1 = vu (vu (VC M) 24 s 0 p3) 25 s 0 p4 → AuC M1 = au (AuC M) 1 s p2 → Q M1) : P_X6_let (nI s) p2 p3 p4 M Q X := by
  have hn := (ns_eq h6).1
  have hs60 : s < 60 := by omega
  refine c_ul2 h6 hs hl ?_
  by_cases g1 : p2 < 0 ∨ 30 < p2
  · exact ow0 g1 (br_t rfl (kb (Or.inl g1)))
  · refine ow1 (fun h => g1 (Or.inl h)) (fun h => g1 (Or.inr h)) (br_f (by decide) ?_)
    rw [rc_22 M hs60, rc_5 M]
    refine br_c (fun g2 => kb (Or.inr (Or.inl g2))) (fun g2 => br_c (fun g3 => kb (Or.inr (Or.inr (Or.inl g3)))) (fun g3 => br_c (fun g4 => kb (Or.inr (Or.inr (Or.inr (Or.inl g4))))) (fun g4 => br_c (fun g5 => ?_) (fun g5 => kb (Or.inr (Or.inr (Or.inr (Or.inr g5))))))))
    refine wac_n hs60 (fun M1 f1 v1 a1 => wc_24 hs60 (fun M2 f2 v2 a2 => wc_25 hs60 (fun M3 f3 v3 a3 => ?_)))
    refine kg (fun hb => ?_) M3 (f1.tr (f2.tr f3)) (by rw [v3, v2, v1]) (by rw [a3, a2, a1])
    rcases hb with hb | hb | hb | hb | hb
    · exact g1 hb
    · exact g2 hb
    · exact g3 hb
    · exact g4 hb
    · exact hb g5
theorem r_letcall {M : Mem} {s : Nat} {p2 p3 p4 : Int32} {Q : Mem → Prop} (h6 : I6 (VR M)) (hs : s < ns (VR M)) (hl : ¬ ltV (VR M) s) (kb : bdLet (VR M) s p2 p3 p4 → ∀ M1, Lo M M1 → VR M1 = VR M → AuR M1 = AuR M → M1 118 0 = 3 → Q M1) (kg : ¬ bdLet (VR M) s p2 p3 p4 → ∀ M1, Lo M M1 → VR M1 = vu (vu (VR M) 24 s 0 p3) 25 s 0 p4 → AuR M1 = au (AuR M) 1 s p2 → M1 118 0 = 0 → Q M1) : P_X7_let (nI s) p2 p3 p4 M Q := by
  have hn := (ns_eq h6).1
  have hs60 : s < 60 := by omega
  intro J80 J85 hJ80 hJ85
  refine wr_thr (fun M1 f1 v1 a1 t1 => r_noSh1 (by rw [v1]; exact h6) (by rw [v1]; exact hs) (thr0 ⟨fun h => absurd rfl h, fun _ => r_let hs60 (fun hy => absurd (by rw [v1] at hy; exact hy) hl) (fun _ => thr0 (br_t rfl ?_))⟩))
  rw [ix7a]
  have bad : bdLet (VR M) s p2 p3 p4 → J80 (nI (7 * s)) M1 := fun hb => by
    apply hJ80
    apply hJ85
    exact thr1 (wr_thr (fun M2 f2 v2 a2 t2 => br_f (by decide) (kb hb M2 (f1.tr f2) (v2.trans v1) (a2.trans a1) t2)))
  by_cases g1 : p2 < 0 ∨ 30 < p2
  · exact no1 g1 ⟨fun _ => bad (Or.inl g1), fun h => absurd h (by decide)⟩
  · refine no0 (fun h => g1 (Or.inl h)) (fun h => g1 (Or.inr h)) ⟨fun h => absurd rfl h, fun _ => ?_⟩
    rw [show (3 : Int32) = nI 3 from rfl, nI_add, nI_clamp (by omega), rr_22 M1 hs60, rr_5 M1, v1]
    refine ⟨vp_in_nI (by omega) (by omega), br_c (fun g2 => bad (Or.inr (Or.inl g2))) (fun g2 => br_c (fun g3 => bad (Or.inr (Or.inr (Or.inl g3)))) (fun g3 => br_c (fun g4 => bad (Or.inr (Or.inr (Or.inr (Or.inl g4))))) (fun g4 => br_c (fun g5 => ?_) (fun g5 => bad (Or.inr (Or.inr (Or.inr (Or.inr g5))))))))⟩
    apply hJ85
    rw [show (4 : Int32) = nI 4 from rfl, show (5 : Int32) = nI 5 from rfl, show (6 : Int32) = nI 6 from rfl, nI_add, nI_add, nI_add, nI_clamp (by omega), nI_clamp (by omega), nI_clamp (by omega)]
    refine thr0 (br_t rfl ⟨vp_in_nI (by omega) (by omega), war_n hs60 (fun M2 f2 v2 a2 t2 => ⟨vp_in_nI (by omega) (by omega), wr_24 hs60 (fun M3 f3 v3 a3 t3 => ⟨vp_in_nI (by omega) (by omega), wr_25 hs60 (fun M4 f4 v4 a4 t4 => ?_)⟩)⟩)⟩)
    refine kg (fun hb => ?_) M4 (f1.tr (f2.tr (f3.tr f4))) (by rw [v4, v3, v2, v1]) (by rw [a4, a3, a2, a1]) (by rw [t4, t3, t2, t1])
    rcases hb with hb | hb | hb | hb | hb
    · exact g1 hb
    · exact g2 hb
    · exact g3 hb
    · exact g4 hb
    · exact hb g5
/-- what a share's call answers where there is none, or where it is let -/
theorem T_let {q : Nat} {M : Mem} {p1 p2 p3 p4 : Int32} (h : Ok q M) (hq : q < 512) : P_X6_let p1 p2 p3 p4 M (fun M1 => P_X7_let p1 p2 p3 p4 M1 (fun M2 => M2 118 0 = 0 ∧ Ok (q + 1) M2)) (fun E M1 => (E = "java/lang/IndexOutOfBoundsException" ∧ P_X7_let p1 p2 p3 p4 M1 (fun M2 => M2 118 0 = 1 ∧ Ok (q + 1) M2)) ∨ (E = "java/lang/IllegalStateException" ∧ P_X7_let p1 p2 p3 p4 M1 (fun M2 => M2 118 0 = 2 ∧ Ok (q + 1) M2)) ∨ (E = "java/lang/IllegalArgumentException" ∧ P_X7_let p1 p2 p3 p4 M1 (fun M2 => M2 118 0 = 3 ∧ Ok (q + 1) M2))) := by
  have hV := h.2.1.1
  have h6 : I6 (VR M) := h.2.2.2.2.2.2.2.2.2.1
  have c6 : I6 (VC M) := by rw [hV]; exact h6
  have hn := (ns_eq h6).1
  refine ix_cases p1 (n := ns (VR M)) (by omega) (fun g => ?_) (fun s hs e => ?_)
  · refine c_ul0 c6 (by rw [hV]; exact g) (Or.inl ⟨rfl, ?_⟩)
    intro J80 J85 hJ80 hJ85
    exact wr_thr (fun M1 f1 v1 a1 t1 => r_noSh0 (by rw [v1]; exact h6) (by rw [v1]; exact g) (fl1 h hq f1 v1 a1 (fun M3 h3 => ⟨fun _ => h3, fun h => absurd h (by decide)⟩)))
  · subst e
    have hs60 : s < 60 := by omega
    by_cases hl : ltV (VR M) s
    · refine c_ul1 c6 (by rw [hV]; exact hs) (by rw [hV]; exact hl) (Or.inr (Or.inl ⟨rfl, ?_⟩))
      intro J80 J85 hJ80 hJ85
      exact wr_thr (fun M1 f1 v1 a1 t1 => r_noSh1 (by rw [v1]; exact h6) (by rw [v1]; exact hs) (thr0 ⟨fun h => absurd rfl h, fun _ => r_let hs60 (fun _ => fl1 h hq f1 v1 a1 (fun M3 h3 => br_f (by decide) h3)) (fun hn => absurd (by rw [v1]; exact hl) hn)⟩))
    · refine c_letcall c6 (by rw [hV]; exact hs) (by rw [hV]; exact hl) (fun hb => Or.inr (Or.inr ⟨rfl, ?_⟩)) (fun hb M1 f1 v1 a1 => ?_)
      · rw [hV] at hb
        exact r_letcall h6 hs hl (fun _ M2 f2 v2 a2 t2 => ⟨t2, h.same hq f2 v2 a2⟩) (fun hg => absurd hb hg)
      · rw [hV] at hb
        have e1 : VR M1 = VR M := hi_VR f1
        have b1 : AuR M1 = AuR M := hi_AR f1
        refine r_letcall (by rw [e1]; exact h6) (by rw [e1]; exact hs) (by rw [e1]; exact hl) (fun hg => absurd (by rw [e1] at hg; exact hg) hb) (fun _ M2 f2 v2 a2 t2 => ⟨t2, ?_⟩)
        have eC : VC M2 = VR M2 := by rw [lo_VC f2, v1, v2, e1, hV]
        have eR : VR M2 = vu (vu (VR M) 24 s 0 p3) 25 s 0 p4 := by rw [v2, e1]
        refine ⟨by omega, ⟨eC, fun c hc => ?_, fun k hk => ?_, fun s' hs' h0 => ?_⟩, ?_⟩
        · rw [a2, b1, eR]; exact h.2.1.2.1 c hc
        · rw [lo_AC f2, a1, a2, b1]; exact h.2.1.2.2.1 k hk
        · rw [lo_AC f2, a1, a2, b1]
          by_cases e : s' = s
          · subst e
            unfold au
            rw [if_pos ⟨rfl, rfl⟩, if_pos ⟨rfl, rfl⟩]
          · unfold au
            rw [if_neg (fun h => e h.2), if_neg (fun h => e h.2)]
            refine h.2.1.2.2.2 s' hs' ?_
            rw [eR, vu_ne (fun h => e h.2.1), vu_ne (fun h => absurd h.1 (by decide))] at h0
            exact h0
        · rw [eR]
          exact h.2.2.next
def bdFld (p1 p2 p3 : Int32) : Prop := (p1 < 1 ∨ 1000 < p1) ∨ (p2 < 0 ∨ 10000 < p2) ∨ (p3 < 0 ∨ 100 < p3)
def fdU (V : Vw) (n : Nat) (p1 p2 p3 : Int32) : Vw := vu (vu (vu (vu V 27 n 0 p1) 28 n 0 p2) 29 n 0 p3) 26 0 0 (nI (n + 1))
theorem T_field {q : Nat} {M : Mem} {p1 p2 p3 : Int32} (h : Ok q M) (hq : q < 512) : P_X6_field p1 p2 p3 M (fun r M1 => P_X7_field p1 p2 p3 M1 (fun r' M2 => M2 118 0 = 0 ∧ r = r' ∧ Ok (q + 1) M2)) (fun E M1 => E = "java/lang/IllegalArgumentException" ∧ P_X7_field p1 p2 p3 M1 (fun _ M2 => M2 118 0 = 1 ∧ Ok (q + 1) M2)) := by
  have hV := h.2.1.1
  obtain ⟨h0, h11, h15, h4, h14, h10, h12, h6, hsh, hsum, ⟨⟨n, hn, en⟩, hf⟩, h8⟩ := h.2.2
  have bad : bdFld p1 p2 p3 → P_X7_field p1 p2 p3 M (fun _ M2 => M2 118 0 = 1 ∧ Ok (q + 1) M2) := fun hb => by
    intro J38 J43 hJ38 hJ43
    refine wr_thr (fun M1 f1 v1 a1 t1 => ?_)
    have fin : J38 M1 := by
      apply hJ38
      apply hJ43
      exact fl1 h hq f1 v1 a1 (fun M3 h3 => br_f (by decide) h3)
    by_cases g1 : p1 < 1 ∨ 1000 < p1
    · exact in0 g1 (br_t rfl fin)
    · refine in1 (fun h => g1 (Or.inl h)) (fun h => g1 (Or.inr h)) (br_f (by decide) ?_)
      by_cases g2 : p2 < 0 ∨ 10000 < p2
      · exact in0 g2 (br_t rfl fin)
      · exact in1 (fun h => g2 (Or.inl h)) (fun h => g2 (Or.inr h)) (br_f (by decide) (in0 ((hb.resolve_left g1).resolve_left g2) ⟨fun h => absurd rfl h, fun _ => fin⟩))
  by_cases g1 : p1 < 1 ∨ 1000 < p1
  · exact wi0 g1 (br_t rfl ⟨rfl, bad (Or.inl g1)⟩)
  · refine wi1 (fun h => g1 (Or.inl h)) (fun h => g1 (Or.inr h)) (br_f (by decide) ?_)
    by_cases g2 : p2 < 0 ∨ 10000 < p2
    · exact wi0 g2 (br_t rfl ⟨rfl, bad (Or.inr (Or.inl g2))⟩)
    · refine wi1 (fun h => g2 (Or.inl h)) (fun h => g2 (Or.inr h)) (br_f (by decide) ?_)
      by_cases g3 : p3 < 0 ∨ 100 < p3
      · exact wi0 g3 ⟨fun h => absurd rfl h, fun _ => ⟨rfl, bad (Or.inr (Or.inr g3))⟩⟩
      · refine wi1 (fun h => g3 (Or.inl h)) (fun h => g3 (Or.inr h)) ⟨fun _ => ?_, fun h => absurd h (by decide)⟩
        -- the reference at a field that counts
        have ref : ∀ (N : Mem) (Q : Int32 → Mem → Prop), VR N = VR M → (∀ N1, Lo N N1 → VR N1 = VR N → AuR N1 = AuR N → N1 118 0 = 0 → n = 9 → Q (-1) N1) → (∀ N1, Lo N N1 → VR N1 = fdU (VR N) n p1 p2 p3 → AuR N1 = AuR N → N1 118 0 = 0 → n < 9 → Q (nI (n + 1)) N1) → P_X7_field p1 p2 p3 N Q := fun N Q eN k1 k2 => by
          intro J38 J43 hJ38 hJ43
          refine wr_thr (fun M1 f1 v1 a1 t1 => in1 (fun h => g1 (Or.inl h)) (fun h => g1 (Or.inr h)) (br_f (by decide) (in1 (fun h => g2 (Or.inl h)) (fun h => g2 (Or.inr h)) (br_f (by decide) (in1 (fun h => g3 (Or.inl h)) (fun h => g3 (Or.inr h)) ⟨fun _ => ?_, fun h => absurd h (by decide)⟩)))))
          apply hJ43
          refine thr0 (br_t rfl ?_)
          have e1 : VR M1 26 0 0 = nI n := by rw [v1, eN]; exact en
          rw [rr_26 M1, e1]
          by_cases h9 : n = 9
          · subst h9
            exact ⟨fun h => absurd rfl h, fun _ => k1 M1 f1 v1 a1 t1 rfl⟩
          · have hn9 : n < 9 := by omega
            refine ⟨fun _ => ⟨vp_in_nI hn9 (by omega), ?_⟩, fun h => absurd ((nI_eq (a := n) (b := 9) (by omega) (by omega)).mp h) h9⟩
            rw [nI_clamp (by omega)]
            refine wr_27 hn9 (fun M2 f2 v2 a2 t2 => ?_)
            have e2 : VR M2 26 0 0 = nI n := by rw [v2]; exact e1
            rw [rr_26 M2, e2, nI_clamp (by omega)]
            refine ⟨vp_in_nI hn9 (by omega), wr_28 hn9 (fun M3 f3 v3 a3 t3 => ?_)⟩
            have e3 : VR M3 26 0 0 = nI n := by rw [v3]; exact e2
            rw [rr_26 M3, e3, nI_clamp (by omega)]
            refine ⟨vp_in_nI hn9 (by omega), wr_29 hn9 (fun M4 f4 v4 a4 t4 => ?_)⟩
            have e4 : VR M4 26 0 0 = nI n := by rw [v4]; exact e3
            rw [rr_26 M4, e4, nI_1]
            refine wr_26 (fun M5 f5 v5 a5 t5 => ?_)
            have e5 : VR M5 26 0 0 = nI (n + 1) := by rw [v5]; exact vu_eq
            rw [rr_26 M5, e5]
            refine k2 M5 (f1.tr (f2.tr (f3.tr (f4.tr f5)))) ?_ ?_ ?_ hn9
            · rw [v5, v4, v3, v2, v1]; rfl
            · rw [a5, a4, a3, a2, a1]
            · rw [t5, t4, t3, t2, t1]
        have eC : VC M 26 0 0 = nI n := by rw [hV]; exact en
        rw [rc_26 M, eC]
        by_cases h9 : n = 9
        · subst h9
          refine br_f (by decide) (ref M _ rfl (fun N1 f1 v1 a1 t1 _ => ⟨t1, rfl, h.same hq f1 v1 a1⟩) (fun _ _ _ _ _ h => absurd h (by omega)))
        · have hn9 : n < 9 := by omega
          refine br_t (nI_lt (b := 9) hn9 (by omega)) ?_
          unfold P_X1_addField
          rw [rc_26 M, eC]
          refine br_f (nI_ge (b := 9) hn9 (by omega)) ⟨vp_in_nI hn9 (by omega), ?_⟩
          rw [nI_clamp (by omega)]
          refine wc_27 hn9 (fun M2 f2 v2 a2 => ?_)
          have e2 : VC M2 26 0 0 = nI n := by rw [v2]; exact eC
          rw [rc_26 M2, e2, nI_clamp (by omega)]
          refine ⟨vp_in_nI hn9 (by omega), wc_28 hn9 (fun M3 f3 v3 a3 => ?_)⟩
          have e3 : VC M3 26 0 0 = nI n := by rw [v3]; exact e2
          rw [rc_26 M3, e3, nI_clamp (by omega)]
          refine ⟨vp_in_nI hn9 (by omega), wc_29 hn9 (fun M4 f4 v4 a4 => ?_)⟩
          have e4 : VC M4 26 0 0 = nI n := by rw [v4]; exact e3
          rw [rc_26 M4, e4, nI_1]
          refine wc_26 (fun M5 f5 v5 a5 => ?_)
          have e5 : VC M5 26 0 0 = nI (n + 1) := by rw [v5]; exact vu_eq
          dsimp only
          rw [rc_26 M5, e5]
          have hH : Hi M M5 := f2.tr (f3.tr (f4.tr f5))
          have eM : VR M5 = VR M := hi_VR hH
          refine ref M5 _ eM (fun _ _ _ _ _ h => absurd h h9) (fun N1 f1 v1 a1 t1 _ => ⟨t1, rfl, ?_⟩)
          refine h.mk1 (V := fdU (VR M) n p1 p2 p3) hq ?_ ?_ ?_ ?_ (fun _ => rfl) (fun _ h => h) ?_
          · rw [lo_VC f1, v5, v4, v3, v2, hV]; rfl
          · rw [v1, eM]
          · rw [lo_AC f1, a5, a4, a3, a2]
          · rw [a1, hi_AR hH]
          · obtain ⟨i0, i11, i15, i4, i14, i10, i12, i6, ish, isum, -, i8⟩ := h.2.2.next
            have e1000 : (1000 : Int32).toInt = 1000 := rfl
            have e10000 : (10000 : Int32).toInt = 10000 := rfl
            have e100 : (100 : Int32).toInt = 100 := rfl
            have e1 : (1 : Int32).toInt = 1 := rfl
            rw [i32_lt, i32_lt, e1000, e1] at g1
            rw [i32_lt, i32_lt, e10000, t0] at g2
            rw [i32_lt, i32_lt, e100, t0] at g3
            refine ⟨i0, i11, i15, i4, i14, i10, i12, i6, ish, isum, ⟨⟨n + 1, by omega, rfl⟩, fun f => ?_⟩, i8⟩
            obtain ⟨hf1, hf2, hf3⟩ := hf f
            refine ⟨?_, ?_, ?_⟩
            · show rg (if 27 = 27 ∧ f = n ∧ 0 = 0 then p1 else VR M 27 f 0) 0 1000
              split
              · unfold rg; omega
              · exact hf1
            · show rg (if 28 = 28 ∧ f = n ∧ 0 = 0 then p2 else VR M 28 f 0) 0 10000
              split
              · unfold rg; omega
              · exact hf2
            · show rg (if 29 = 29 ∧ f = n ∧ 0 = 0 then p3 else VR M 29 f 0) 0 100
              split
              · unfold rg; omega
              · exact hf3
