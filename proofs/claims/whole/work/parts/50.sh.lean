/-! ===== shares: one share is written anew, one is added ===== -/
theorem vu_eq {V : Vw} {t i j : Nat} {v : Int32} : vu V t i j v t i j = v := if_pos ⟨rfl, rfl, rfl⟩
theorem vu_ne {V : Vw} {t i j t' i' j' : Nat} {v : Int32} (h : ¬ (t' = t ∧ i' = i ∧ j' = j)) : vu V t i j v t' i' j' = V t' i' j' := if_neg h
theorem vu_comm {V : Vw} {t i j t' i' j' : Nat} {v w : Int32} (h : ¬ (t' = t ∧ i' = i ∧ j' = j)) : vu (vu V t i j v) t' i' j' w = vu (vu V t' i' j' w) t i j v := by
  funext a b c
  unfold vu
  by_cases h1 : a = t ∧ b = i ∧ c = j
  · have h2 : ¬ (a = t' ∧ b = i' ∧ c = j') := by omega
    rw [if_neg h2, if_pos h1, if_pos h1]
  · rw [if_neg h1, if_neg h1]
theorem vu_same {V : Vw} {t i j : Nat} : vu V t i j (V t i j) = V := by
  funext a b c
  unfold vu
  by_cases h1 : a = t ∧ b = i ∧ c = j
  · rw [if_pos h1, h1.1, h1.2.1, h1.2.2]
  · rw [if_neg h1]
def shU (V : Vw) (k : Nat) (c f t o : Int32) : Vw := vu (vu (vu (vu (vu (vu V 19 k 0 c) 20 k 0 f) 21 k 0 t) 22 k 0 o) 24 k 0 0) 25 k 0 0
def adU (V : Vw) (c f t o : Int32) : Vw := vu (shU V (ns V) c f t o) 6 0 0 (nI (ns V + 1))
theorem c_become {M : Mem} {s : Nat} {c f t o : Int32} {Q : Mem → Prop} (hs : s < 60) (k : ∀ M', Hi M M' → VC M' = shU (VC M) s c f t o → AuC M' = au (AuC M) 1 s (-1) → Q M') : P_X4_become s c f t o M Q := by
  refine wc_19 hs (fun M1 f1 v1 a1 => wc_20 hs (fun M2 f2 v2 a2 => wc_21 hs (fun M3 f3 v3 a3 => wc_22 hs (fun M4 f4 v4 a4 => wac_n hs (fun M5 f5 v5 a5 => wc_24 hs (fun M6 f6 v6 a6 => wc_25 hs (fun M7 f7 v7 a7 => ?_)))))))
  refine k M7 (f1.tr (f2.tr (f3.tr (f4.tr (f5.tr (f6.tr f7)))))) ?_ ?_
  · rw [v7, v6, v5, v4, v3, v2, v1]; rfl
  · rw [a7, a6, a5, a4, a3, a2, a1]
theorem c_addShare {M : Mem} {c f t o : Int32} {Q : Mem → Prop} (h6 : I6 (VC M)) (hn : ns (VC M) < 60) (k : ∀ M', Hi M M' → VC M' = adU (VC M) c f t o → AuC M' = au (AuC M) 1 (ns (VC M)) (-1) → Q M') : P_X6_addShare c f t o M Q := by
  obtain ⟨-, en⟩ := ns_eq h6
  unfold P_X6_addShare
  rw [rc_6 M, en]
  refine br_f (nI_ge (b := 60) hn (by omega)) ⟨vp_in_nI hn (by omega), ?_⟩
  rw [nI_clamp (by omega)]
  refine c_become hn (fun M1 f1 v1 a1 => ?_)
  have e1 : VC M1 6 0 0 = nI (ns (VC M)) := by rw [v1]; exact en
  rw [rc_6 M1, e1, nI_1]
  refine wc_6 (fun M2 f2 v2 a2 => k M2 (f1.tr f2) ?_ ?_)
  · rw [v2, v1]; rfl
  · rw [a2, a1]
theorem r_sets {M : Mem} {s : Nat} {f t o : Int32} {Q : Mem → Prop} (hs : s < 60) (k : ∀ M', Lo M M' → VR M' = shU (VR M) s (VR M 19 s 0) f t o → AuR M' = AuR M → M' 118 0 = M 118 0 → Q M') : P_X7_sets (nI s) f t o M Q := by
  unfold P_X7_sets
  rw [show (1 : Int32) = nI 1 from rfl, show (2 : Int32) = nI 2 from rfl, show (3 : Int32) = nI 3 from rfl, show (5 : Int32) = nI 5 from rfl, show (6 : Int32) = nI 6 from rfl, ix7, ix7, ix7, ix7, ix7, nI_clamp (by omega), nI_clamp (by omega), nI_clamp (by omega), nI_clamp (by omega), nI_clamp (by omega)]
  refine ⟨vp_in_nI (by omega) (by omega), wr_20 hs (fun M1 f1 v1 a1 t1 => ⟨vp_in_nI (by omega) (by omega), wr_21 hs (fun M2 f2 v2 a2 t2 => ⟨vp_in_nI (by omega) (by omega), wr_22 hs (fun M3 f3 v3 a3 t3 => ⟨vp_in_nI (by omega) (by omega), wr_24 hs (fun M4 f4 v4 a4 t4 => ⟨vp_in_nI (by omega) (by omega), wr_25 hs (fun M5 f5 v5 a5 t5 => ?_)⟩)⟩)⟩)⟩)⟩
  refine k M5 (f1.tr (f2.tr (f3.tr (f4.tr f5)))) ?_ ?_ ?_
  · rw [v5, v4, v3, v2, v1]
    unfold shU
    rw [vu_same]
  · rw [a5, a4, a3, a2, a1]
  · rw [t5, t4, t3, t2, t1]
theorem r_adds {M : Mem} {c f t o : Int32} {Q : Mem → Prop} (h6 : I6 (VR M)) (hn : ns (VR M) < 60) (k : ∀ M', Lo M M' → VR M' = adU (VR M) c f t o → AuR M' = AuR M → M' 118 0 = M 118 0 → Q M') : P_X7_adds c f t o M Q := by
  obtain ⟨-, en⟩ := ns_eq h6
  unfold P_X7_adds
  rw [rr_6 M, en, ix7a, nI_clamp (by omega)]
  refine ⟨vp_in_nI (by omega) (by omega), wr_19 hn (fun M1 f1 v1 a1 t1 => ?_)⟩
  have e1 : VR M1 6 0 0 = nI (ns (VR M)) := by rw [v1]; exact en
  rw [rr_6 M1, e1]
  refine r_sets hn (fun M2 f2 v2 a2 t2 => ?_)
  have e2 : VR M2 6 0 0 = nI (ns (VR M)) := by rw [v2]; exact e1
  rw [rr_6 M2, e2, nI_1]
  refine wr_6 (fun M3 f3 v3 a3 t3 => k M3 (f1.tr (f2.tr f3)) ?_ ?_ ?_)
  · rw [v3, v2, v1]
    unfold adU shU
    rw [vu_same]
  · rw [a3, a2, a1]
  · rw [t3, t2, t1]
