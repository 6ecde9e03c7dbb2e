/-! ===== dig ===== -/
def bdDig (o d : Int32) : Prop := (o < 0 ∨ 30 < o) ∨ (d < 1 ∨ 15 < d)
def dg1 (V : Vw) (c : Nat) (d : Int32) : Vw := vu (vu (vu (vu V 12 c 0 (d * 1440)) 13 c 0 (V 4 0 0)) 14 c 0 (V 1 0 0)) 1 0 0 (V 1 0 0 + 1)
def dgV (V : Vw) (c : Nat) (o d : Int32) : Vw := adU (dg1 V c d) (nI c) 0 (d * 1440) o
theorem dg1_o {V : Vw} {c : Nat} {d : Int32} {t i j : Nat} (h : t ≠ 12) (h1 : t ≠ 13) (h2 : t ≠ 14) (h3 : t ≠ 1) : dg1 V c d t i j = V t i j := by
  unfold dg1
  rw [vu_ne (by omega), vu_ne (by omega), vu_ne (by omega), vu_ne (by omega)]
theorem ns_dg1 {V : Vw} {c : Nat} {d : Int32} : ns (dg1 V c d) = ns V := by
  unfold ns
  rw [dg1_o (by omega) (by omega) (by omega) (by omega)]
theorem dg1_12 {V : Vw} {c : Nat} {d : Int32} : dg1 V c d 12 c 0 = d * 1440 := by
  unfold dg1
  rw [vu_ne (by omega), vu_ne (by omega), vu_ne (by omega), vu_eq]
theorem dg1_12n {V : Vw} {c c' : Nat} {d : Int32} (h : c' ≠ c) : dg1 V c d 12 c' 0 = V 12 c' 0 := by
  unfold dg1
  rw [vu_ne (by omega), vu_ne (by omega), vu_ne (by omega), vu_ne (by omega)]
theorem dg1_r {V : Vw} {c : Nat} {d : Int32} : vu (vu (vu (vu V 13 c 0 (V 4 0 0)) 14 c 0 (V 1 0 0)) 1 0 0 (V 1 0 0 + 1)) 12 c 0 (1440 * d) = dg1 V c d := by
  unfold dg1
  rw [vu_comm (t := 1) (t' := 12) (by omega), vu_comm (t := 14) (t' := 12) (by omega), vu_comm (t := 13) (t' := 12) (by omega), Int32.mul_comm]
theorem c_dig {M : Mem} {c : Nat} {o d : Int32} {Q : Int32 → Mem → Prop} {X : String → Mem → Prop} (h0 : I0 (VC M)) (h11 : I11 (VC M)) (h15 : I15 (VC M)) (h10 : I10 (VC M)) (h6 : I6 (VC M)) (hc : c < nc (VC M)) (hd : ¬ 0 < VC M 12 c 0) (kb : bdDig o d → X "java/lang/IllegalArgumentException" M) (kn : ¬ bdDig o d → (¬ MayV (VC M) c ∨ ns (VC M) = 60) → Q (-1) M) (kg : ¬ bdDig o d → MayV (VC M) c → ns (VC M) < 60 → ∀ M1, Hi M M1 → VC M1 = dgV (VC M) c o d → AuC M1 = au (AuC M) 1 (ns (VC M)) (-1) → Q (nI (ns (VC M))) M1) : P_X6_dig (nI c) o d M Q X := by
  have hk := (nc_eq h0).1
  have hc8 : c < 8 := by omega
  obtain ⟨hn, en⟩ := ns_eq h6
  refine c_un2 h0 hc hd ?_
  by_cases g1 : o < 0 ∨ 30 < o
  · exact ow0 g1 (br_t rfl (kb (Or.inl g1)))
  refine ow1 (fun h => g1 (Or.inl h)) (fun h => g1 (Or.inr h)) (br_f (by decide) ?_)
  by_cases g2 : d < 1 ∨ 15 < d
  · exact wi0 g2 ⟨fun h => absurd rfl h, fun _ => kb (Or.inr g2)⟩
  have hg : ¬ bdDig o d := fun hb => hb.elim g1 g2
  refine wi1 (fun h => g2 (Or.inl h)) (fun h => g2 (Or.inr h)) ⟨fun _ => ?_, fun h => absurd h (by decide)⟩
  rw [rc_6 M, en]
  by_cases h60 : ns (VC M) = 60
  · rw [h60]
    exact br_t (by decide) (kn hg (Or.inr h60))
  refine br_f (nI_ge (b := 60) (by omega) (by omega)) (c_allowed h0 h11 h15 h10 hc8 (fun hm => ⟨fun _ => ?_, fun h => absurd h (by decide)⟩) (fun hm => ⟨fun h => absurd rfl h, fun _ => kn hg (Or.inl hm)⟩))
  refine wc_12 hc8 (fun M1 f1 v1 a1 => ?_)
  have e1 : VC M1 4 0 0 = VC M 4 0 0 := by rw [v1]; exact vu_ne (by omega)
  rw [rc_4 M1, e1]
  refine wc_13 hc8 (fun M2 f2 v2 a2 => ?_)
  have e2 : VC M2 1 0 0 = VC M 1 0 0 := by rw [v2, v1, vu_ne (by omega), vu_ne (by omega)]
  rw [rc_1 M2, e2]
  refine wc_14 hc8 (fun M3 f3 v3 a3 => ?_)
  have e3 : VC M3 1 0 0 = VC M 1 0 0 := by rw [v3, vu_ne (by omega)]; exact e2
  rw [rc_1 M3, e3]
  refine wc_1 (fun M4 f4 v4 a4 => ?_)
  have e4 : VC M4 = dg1 (VC M) c d := by rw [v4, v3, v2, v1]; rfl
  have e5 : VC M4 12 c 0 = d * 1440 := by rw [e4]; exact dg1_12
  rw [rc_12 M4 hc8, e5]
  have n4 : ns (VC M4) = ns (VC M) := by rw [e4]; exact ns_dg1
  have i4 : I6 (VC M4) := by
    rw [e4]
    unfold I6
    rw [dg1_o (by omega) (by omega) (by omega) (by omega)]
    exact h6
  refine c_addShare i4 (by omega) (fun M5 f5 v5 a5 => ?_)
  have e6 : VC M5 6 0 0 = nI (ns (VC M) + 1) := by rw [v5, ← n4]; exact vu_eq
  rw [rc_6 M5, e6, nI_m1]
  refine kg hg hm (by omega) M5 (f1.tr (f2.tr (f3.tr (f4.tr f5)))) ?_ ?_
  · rw [v5, e4]; rfl
  · rw [a5, n4, a4, a3, a2, a1]
theorem r_dig {M : Mem} {c : Nat} {o d : Int32} {Q : Int32 → Mem → Prop} (h0 : I0 (VR M)) (h11 : I11 (VR M)) (hD : Dg M) (h6 : I6 (VR M)) (hc : c < nc (VR M)) (hd : ¬ 0 < VR M 12 c 0) (kb : bdDig o d → ∀ M1, Lo M M1 → VR M1 = VR M → AuR M1 = AuR M → M1 118 0 = 3 → Q 0 M1) (kn : ¬ bdDig o d → (¬ MayV (VR M) c ∨ ns (VR M) = 60) → ∀ M1, Lo M M1 → VR M1 = VR M → AuR M1 = AuR M → M1 118 0 = 0 → Q (-1) M1) (kg : ¬ bdDig o d → MayV (VR M) c → ns (VR M) < 60 → ∀ M1, Lo M M1 → VR M1 = dgV (VR M) c o d → AuR M1 = au (AuR M) 2 c 1 → M1 118 0 = 0 → Q (nI (ns (VR M))) M1) : P_X7_dig (nI c) o d M Q := by
  have hk := (nc_eq h0).1
  have hc8 : c < 8 := by omega
  obtain ⟨hn, en⟩ := ns_eq h6
  intro J53 J58 hJ53 hJ58
  refine wr_thr (fun M1 f1 v1 a1 t1 => r_noCh1 (by rw [v1]; exact h0) (by rw [v1]; exact hc) (thr0 ⟨fun h => absurd rfl h, fun _ => ⟨vp_in_nI (by omega) (by omega), ?_⟩⟩))
  rw [nI_clamp (by omega), dg_n hD v1 a1 hc8 hd]
  refine thr0 ⟨fun h => absurd rfl h, fun _ => ?_⟩
  have bad : bdDig o d → J53 M1 := fun hb => by
    apply hJ53
    apply hJ58
    exact thr1 (wr_thr (fun M2 f2 v2 a2 t2 => br_f (by decide) (kb hb M2 (f1.tr f2) (v2.trans v1) (a2.trans a1) t2)))
  by_cases g1 : o < 0 ∨ 30 < o
  · exact in0 g1 (br_t rfl (bad (Or.inl g1)))
  refine in1 (fun h => g1 (Or.inl h)) (fun h => g1 (Or.inr h)) (br_f (by decide) ?_)
  by_cases g2 : d < 1 ∨ 15 < d
  · exact in0 g2 ⟨fun h => absurd rfl h, fun _ => bad (Or.inr g2)⟩
  have hg : ¬ bdDig o d := fun hb => hb.elim g1 g2
  refine in1 (fun h => g2 (Or.inl h)) (fun h => g2 (Or.inr h)) ⟨fun _ => ?_, fun h => absurd h (by decide)⟩
  apply hJ58
  refine thr0 (br_t rfl (r_mayBe (by rw [v1]; exact h0) (by rw [v1]; exact h11) (hD.to v1 a1) hc8 (fun hm => br_f (by decide) ?_) (fun hm => br_t rfl (kn hg (Or.inl (by rw [v1] at hm; exact hm)) M1 f1 v1 a1 t1))))
  rw [v1] at hm
  rw [rr_6 M1, v1, en]
  by_cases h60 : ns (VR M) = 60
  · exact ⟨fun h => absurd (by rw [h60]; rfl) h, fun _ => kn hg (Or.inr h60) M1 f1 v1 a1 t1⟩
  refine ⟨fun _ => ⟨vp_in_nI hc8 (by omega), ?_⟩, fun h => absurd ((nI_eq (b := 60) (by omega) (by omega)).mp h) h60⟩
  rw [nI_clamp (by omega)]
  refine war_d hc8 (fun M2 f2 v2 a2 t2 => ⟨vp_in_nI hc8 (by omega), ?_⟩)
  rw [rr_4 M2, v2, v1]
  refine wr_13 hc8 (fun M3 f3 v3 a3 t3 => ⟨vp_in_nI hc8 (by omega), ?_⟩)
  have e3 : VR M3 1 0 0 = VR M 1 0 0 := by rw [v3, v2, v1]; exact vu_ne (by omega)
  rw [rr_1 M3, e3]
  refine wr_14 hc8 (fun M4 f4 v4 a4 t4 => ?_)
  have e4 : VR M4 1 0 0 = VR M 1 0 0 := by rw [v4, vu_ne (by omega)]; exact e3
  rw [rr_1 M4, e4]
  refine wr_1 (fun M5 f5 v5 a5 t5 => ⟨vp_in_nI hc8 (by omega), wr_12 hc8 (fun M6 f6 v6 a6 t6 => ⟨vp_in_nI hc8 (by omega), ?_⟩)⟩)
  have e6 : VR M6 = dg1 (VR M) c d := by rw [v6, v5, v4, v3, v2, v1]; exact dg1_r
  have e7 : VR M6 12 c 0 = d * 1440 := by rw [e6]; exact dg1_12
  rw [rr_12 M6 hc8, e7]
  have n6 : ns (VR M6) = ns (VR M) := by rw [e6]; exact ns_dg1
  have i6 : I6 (VR M6) := by
    rw [e6]
    unfold I6
    rw [dg1_o (by omega) (by omega) (by omega) (by omega)]
    exact h6
  refine r_adds i6 (by omega) (fun M7 f7 v7 a7 t7 => ?_)
  have e8 : VR M7 6 0 0 = nI (ns (VR M) + 1) := by rw [v7, ← n6]; exact vu_eq
  rw [rr_6 M7, e8, nI_m1]
  refine kg hg hm (by omega) M7 (f1.tr (f2.tr (f3.tr (f4.tr (f5.tr (f6.tr f7)))))) ?_ ?_ ?_
  · rw [v7, e6]; rfl
  · rw [a7, a6, a5, a4, a3, a2, a1]; rfl
  · rw [t7, t6, t5, t4, t3, t2, t1]
theorem cntD_dig {V V' : Vw} {c : Nat} (h0 : ¬ 0 < V 12 c 0) (h1 : 0 < V' 12 c 0) (h : ∀ d, d ≠ c → V' 12 d 0 = V 12 d 0) : ∀ n, cntD V' n = cntD V n + if c < n then 1 else 0 := by
  intro n
  induction n with
  | zero => rw [if_neg (by omega)]; rfl
  | succ n ih =>
    rw [cntD_s, cntD_s, ih]
    by_cases e : n = c
    · subst e
      rw [if_neg (by omega), if_pos h1, if_neg h0, if_pos (by omega)]
    · rw [h n e]
      by_cases hc : c < n
      · rw [if_pos hc, if_pos (show c < n + 1 by omega)]; omega
      · rw [if_neg hc, if_neg (show ¬ c < n + 1 by omega)]; omega
theorem Inv_dig {q : Nat} {V : Vw} {c : Nat} {o d : Int32} (h : Inv q V) (hc : c < 8) (hd : ¬ 0 < V 12 c 0) (hn : ns V < 60) (hg : ¬ bdDig o d) : Inv q (dgV V c o d) ∧ 0 < dgV V c o d 12 c 0 := by
  have e30 : (30 : Int32).toInt = 30 := rfl
  have e15 : (15 : Int32).toInt = 15 := rfl
  have e1 : (1 : Int32).toInt = 1 := rfl
  have g1 : ¬ (o < 0 ∨ 30 < o) := fun hb => hg (Or.inl hb)
  have g2 : ¬ (d < 1 ∨ 15 < d) := fun hb => hg (Or.inr hb)
  rw [i32_lt, i32_lt, t0, e30] at g1
  rw [i32_lt, i32_lt, e15, e1] at g2
  have eT : (d * 1440).toInt = d.toInt * 1440 := mul_toInt (by have : (1440 : Int32).toInt = 1440 := rfl; rw [this]; omega)
  obtain ⟨i0, i11, i15, ⟨⟨i4a, i4b, i4c, i4d⟩, i4q⟩, ⟨i14a, i14b⟩, i10, i12, i6, ish, isum, ifd, i8⟩ := h
  have hy : 0 ≤ (V 4 0 0).toInt := by have := i4d 0; unfold rg at this; omega
  have pos : 0 < d * 1440 := by rw [i32_lt, t0, eT]; omega
  have ec : cntD (dg1 V c d) 8 = cntD V 8 + 1 := by
    rw [cntD_dig hd (by rw [dg1_12]; exact pos) (fun c' h' => dg1_12n h') 8, if_pos hc]
  have o1 : ∀ {t i j : Nat}, t ≠ 12 → t ≠ 13 → t ≠ 14 → t ≠ 1 → dg1 V c d t i j = V t i j := fun a b c d => dg1_o a b c d
  have hlt := cntD_le V 8
  have dug19 : ∀ s, s < ns V → ¬ V 19 s 0 = nI c := fun s hs e => by
    obtain ⟨⟨d', h1, h2, h3, -⟩, -⟩ := ish s hs
    rw [e] at h2
    have := (nI_eq (by omega) (by omega)).mp h2
    rw [← this] at h3
    exact hd h3
  have big : Inv q (dg1 V c d) ∨ True := Or.inr trivial
  have sh1 : ISh (dg1 V c d) := fun s hs => by
    rw [ns_dg1] at hs
    obtain ⟨⟨d', h1, h2, h3, h4, h5, h6'⟩, h7⟩ := ish s hs
    have ne : d' ≠ c := fun e => hd (by rw [← e]; exact h3)
    rw [o1 (by omega) (by omega) (by omega) (by omega), o1 (by omega) (by omega) (by omega) (by omega), o1 (by omega) (by omega) (by omega) (by omega), o1 (by omega) (by omega) (by omega) (by omega)]
    exact ⟨⟨d', h1, h2, by rw [dg1_12n ne]; exact h3, h4, h5, by rw [dg1_12n ne]; exact h6'⟩, h7⟩
  have gs : GS (dg1 V c d) (nI c) 0 (d * 1440) o := by
    refine ⟨⟨c, hc, rfl, by rw [dg1_12]; exact pos, by rw [t0]; omega, by rw [t0, eT]; omega, by rw [dg1_12]; omega⟩, by unfold rg; omega⟩
  have hn1 : ns (dg1 V c d) < 60 := by rw [ns_dg1]; exact hn
  refine ⟨?_, by unfold dgV; rw [adU_o (by omega) (by omega), dg1_12]; exact pos⟩
  unfold dgV
  have a1 : ∀ {t i j : Nat}, t ≠ 6 → ¬ (19 ≤ t ∧ t ≤ 25) → adU (dg1 V c d) (nI c) 0 (d * 1440) o t i j = dg1 V c d t i j := fun a b => adU_o a b
  have a2 : ∀ {t i j : Nat}, t ≠ 6 → ¬ (19 ≤ t ∧ t ≤ 25) → t ≠ 12 → t ≠ 13 → t ≠ 14 → t ≠ 1 → adU (dg1 V c d) (nI c) 0 (d * 1440) o t i j = V t i j := fun a b c d e f => (a1 a b).trans (o1 c d e f)
  have sm : ∀ c', smV (dg1 V c d) c' (ns V) = smV V c' (ns V) := fun c' => sm_eq (ns V) (fun s _ => by
    unfold ctr
    rw [o1 (by omega) (by omega) (by omega) (by omega), o1 (by omega) (by omega) (by omega) (by omega), o1 (by omega) (by omega) (by omega) (by omega)])
  refine ⟨?_, fun c' => ?_, fun c' w => ?_, ⟨⟨?_, ?_, ?_, fun c' => ?_⟩, ?_⟩, ⟨?_, fun c' hc' => ?_⟩, ?_, fun c' => ?_, I6_adU hn1, ISh_adU sh1 hn1 gs, fun c' hc' hd' => ?_, ?_, ?_⟩
  · unfold I0
    rw [a2 (by omega) (by omega) (by omega) (by omega) (by omega) (by omega)]
    exact i0
  · rw [a2 (by omega) (by omega) (by omega) (by omega) (by omega) (by omega)]
    exact i11 c'
  · rw [a2 (by omega) (by omega) (by omega) (by omega) (by omega) (by omega), a2 (by omega) (by omega) (by omega) (by omega) (by omega) (by omega), a2 (by omega) (by omega) (by omega) (by omega) (by omega) (by omega)]
    exact i15 c' w
  · rw [a2 (by omega) (by omega) (by omega) (by omega) (by omega) (by omega)]; exact i4a
  · rw [a2 (by omega) (by omega) (by omega) (by omega) (by omega) (by omega)]; exact i4b
  · rw [a2 (by omega) (by omega) (by omega) (by omega) (by omega) (by omega)]; exact i4c
  · rw [a2 (t := 4) (by omega) (by omega) (by omega) (by omega) (by omega) (by omega), a1 (by omega) (by omega)]
    unfold dg1
    rw [vu_ne (by omega), vu_ne (by omega)]
    by_cases e : c' = c
    · subst e
      rw [vu_eq]
      exact ⟨hy, Int.le_refl _⟩
    · rw [vu_ne (by omega), vu_ne (by omega)]
      exact i4d c'
  · rw [a2 (by omega) (by omega) (by omega) (by omega) (by omega) (by omega)]; exact i4q
  · rw [cntD_eq (fun c' => a1 (by omega) (by omega)), ec, a1 (by omega) (by omega)]
    show V 1 0 0 + 1 = nI (cntD V 8 + 1)
    rw [i14a, nI_1]
  · rw [cntD_eq (fun c' => a1 (by omega) (by omega)), ec, a1 (by omega) (by omega)]
    rw [a1 (by omega) (by omega)] at hc'
    unfold dg1
    rw [vu_ne (by omega)]
    by_cases e : c' = c
    · subst e
      rw [vu_eq, i14a]
      unfold rg
      rw [nI_toInt (by omega)]
      omega
    · rw [dg1_12n e] at hc'
      rw [vu_ne (by omega), vu_ne (by omega), vu_ne (by omega)]
      have := i14b c' hc'
      unfold rg at this ⊢
      omega
  · unfold I10
    rw [a2 (i := 0) (by omega) (by omega) (by omega) (by omega) (by omega) (by omega), a2 (i := 1) (by omega) (by omega) (by omega) (by omega) (by omega) (by omega), a2 (i := 2) (by omega) (by omega) (by omega) (by omega) (by omega) (by omega), a2 (i := 3) (by omega) (by omega) (by omega) (by omega) (by omega) (by omega)]
    exact i10
  · rw [a1 (by omega) (by omega)]
    by_cases e : c' = c
    · subst e
      rw [dg1_12]
      unfold rg
      omega
    · rw [dg1_12n e]; exact i12 c'
  · rw [D_adU hn1, ns_dg1, sm c', a1 (by omega) (by omega)]
    by_cases e : c' = c
    · subst e
      rw [sm_0 (ns V) dug19, dg1_12]
      unfold ctN
      rw [if_pos rfl, t0]
      omega
    · rw [a1 (by omega) (by omega), dg1_12n e] at hd'
      rw [dg1_12n e, isum c' hc' hd']
      unfold ctN
      rw [if_neg (fun h => e ((nI_eq (by omega) (by omega)).mp h).symm)]
      omega
  · unfold IFd
    rw [a2 (t := 26) (by omega) (by omega) (by omega) (by omega) (by omega) (by omega)]
    refine ⟨ifd.1, fun f => ?_⟩
    rw [a2 (t := 27) (by omega) (by omega) (by omega) (by omega) (by omega) (by omega), a2 (t := 28) (by omega) (by omega) (by omega) (by omega) (by omega) (by omega), a2 (t := 29) (by omega) (by omega) (by omega) (by omega) (by omega) (by omega)]
    exact ifd.2 f
  · unfold I8
    rw [a2 (by omega) (by omega) (by omega) (by omega) (by omega) (by omega)]
    exact i8
theorem T_dig {q : Nat} {M : Mem} {p o d : Int32} (h : Ok q M) (hq : q < 512) : P_X6_dig p o d M (fun r M1 => P_X7_dig p o d M1 (fun r' M2 => M2 118 0 = 0 ∧ r = r' ∧ Ok (q + 1) M2)) (fun E M1 => (E = "java/lang/IndexOutOfBoundsException" ∧ P_X7_dig p o d M1 (fun _ M2 => M2 118 0 = 1 ∧ Ok (q + 1) M2)) ∨ (E = "java/lang/IllegalStateException" ∧ P_X7_dig p o d M1 (fun _ M2 => M2 118 0 = 2 ∧ Ok (q + 1) M2)) ∨ (E = "java/lang/IllegalArgumentException" ∧ P_X7_dig p o d M1 (fun _ M2 => M2 118 0 = 3 ∧ Ok (q + 1) M2))) := by
  have hV := h.2.1.1
  obtain ⟨c0, c11, c15, c4, c14, c10, c12, c6, -⟩ := h.ic
  obtain ⟨h0, h11, h15, h4, h14, h10, h12, h6, -⟩ := h.2.2
  have hn := (nc_eq h0).1
  refine ix_cases p (n := nc (VR M)) (by omega) (fun g => ?_) (fun c hc e => ?_)
  · refine c_un0 c0 (by rw [hV]; exact g) (Or.inl ⟨rfl, ?_⟩)
    intro J53 J58 hJ53 hJ58
    exact wr_thr (fun M1 f1 v1 a1 t1 => r_noCh0 (by rw [v1]; exact h0) (by rw [v1]; exact g) (fl1 h hq f1 v1 a1 (fun M3 h3 => ⟨fun _ => h3, fun h => absurd h (by decide)⟩)))
  · subst e
    have hc8 : c < 8 := by omega
    by_cases hd : 0 < VR M 12 c 0
    · refine c_un1 c0 (by rw [hV]; exact hc) (by rw [hV]; exact hd) (Or.inr (Or.inl ⟨rfl, ?_⟩))
      intro J53 J58 hJ53 hJ58
      refine wr_thr (fun M1 f1 v1 a1 t1 => r_noCh1 (by rw [v1]; exact h0) (by rw [v1]; exact hc) (thr0 ⟨fun h => absurd rfl h, fun _ => ⟨vp_in_nI (by omega) (by omega), ?_⟩⟩))
      rw [nI_clamp (by omega), dg_y h.dg v1 a1 hc8 hd]
      exact fl1 h hq f1 v1 a1 (fun M3 h3 => ⟨fun _ => h3, fun h => absurd h (by decide)⟩)
    · refine c_dig c0 c11 c15 c10 c6 (by rw [hV]; exact hc) (by rw [hV]; exact hd) (fun hb => Or.inr (Or.inr ⟨rfl, ?_⟩)) (fun hg hno => ?_) (fun hg hm hl M1 f1 v1 a1 => ?_)
      · exact r_dig h0 h11 h.dg h6 hc hd (fun _ M2 f2 v2 a2 t2 => ⟨t2, h.same hq f2 v2 a2⟩) (fun hg => absurd hb hg) (fun hg => absurd hb hg)
      · rw [hV] at hno
        refine r_dig h0 h11 h.dg h6 hc hd (fun hb => absurd hb hg) (fun _ _ M2 f2 v2 a2 t2 => ⟨t2, rfl, h.same hq f2 v2 a2⟩) (fun _ hm hl => ?_)
        rcases hno with hno | hno
        · exact absurd hm hno
        · omega
      · rw [hV] at hm hl v1 a1 ⊢
        have e1 : VR M1 = VR M := hi_VR f1
        have b1 : AuR M1 = AuR M := hi_AR f1
        refine r_dig (by rw [e1]; exact h0) (by rw [e1]; exact h11) (h.dg.to e1 b1) (by rw [e1]; exact h6) (by rw [e1]; exact hc) (by rw [e1]; exact hd) (fun hb => absurd hb hg) (fun _ hno => ?_) (fun _ _ _ M2 f2 v2 a2 t2 => ⟨t2, by rw [e1], ?_⟩)
        · rw [e1] at hno
          rcases hno with hno | hno
          · exact absurd hm hno
          · omega
        · rw [e1] at v2
          rw [b1] at a2
          obtain ⟨hI, hp⟩ := Inv_dig h.2.2.next hc8 hd hl hg
          refine ⟨by omega, ⟨by rw [lo_VC f2, v1, v2], fun c' hc' => ?_, fun k hk => ?_, fun s hs h0 => ?_⟩, by rw [v2]; exact hI⟩
          · rw [a2, v2]
            unfold au
            by_cases e : c' = c
            · subst e
              rw [if_pos ⟨rfl, rfl⟩, if_pos hp]
            · rw [if_neg (fun h => e h.2)]
              have : dgV (VR M) c o d 12 c' 0 = VR M 12 c' 0 := by
                unfold dgV
                rw [adU_o (by omega) (by omega), dg1_12n e]
              rw [this]
              exact h.2.1.2.1 c' hc'
          · rw [lo_AC f2, a1, a2]
            exact h.2.1.2.2.1 k hk
          · rw [v2] at h0
            rw [lo_AC f2, a1, a2]
            have h0' : 0 < shU (dg1 (VR M) c d) (ns (dg1 (VR M) c d)) (nI c) 0 (d * 1440) o 25 s 0 := by
              rw [← adU_s (by omega)]
              exact h0
            rw [ns_dg1] at h0'
            unfold au
            by_cases e : s = ns (VR M)
            · rw [e, shU_25] at h0'
              exact absurd h0' (by decide)
            · rw [shU_n e, dg1_o (by omega) (by omega) (by omega) (by omega)] at h0'
              rw [if_neg (fun h => e h.2), if_neg (fun h => absurd h.1 (by decide))]
              exact h.2.1.2.2.2 s hs h0'
