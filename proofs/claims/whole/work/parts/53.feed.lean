/-! ===== feed ===== -/
theorem toNat_toInt (z : Int32) : (z.toBitVec.toNat : Int) = z.toInt ∨ (z.toBitVec.toNat : Int) = z.toInt + 4294967296 := by
  have h : z.toInt = z.toBitVec.toInt := rfl
  rw [h, BitVec.toInt_eq_toNat_cond]
  split
  · exact Or.inl rfl
  · right
    have : ((2 ^ 32 : Nat) : Int) = 4294967296 := rfl
    omega
theorem i8_toInt (z : Int32) : z.toInt8.toInt32.toInt = z.toInt.bmod 256 := by
  rw [Int8.toInt_toInt32, Int32.toInt_toInt8]
theorem i8_rg (z : Int32) : rg z.toInt8.toInt32 (-128) 127 := by
  unfold rg
  rw [i8_toInt]
  unfold Int.bmod
  simp only []
  split <;> omega
theorem by_k (x s : Int32) (k d : Nat) (hs : (s.toBitVec.smod 32).toNat = k) (hd : d = 2 ^ k) (hk : d = 1 ∨ d = 256 ∨ d = 65536 ∨ d = 16777216) : nI (x.toBitVec.toNat / d % 256) = (x >>> s).toInt8.toInt32 &&& 255 := by
  rw [pk_and _ (m := 255) 8 (by decide)]
  congr 1
  have h1 := toNat_toInt x
  have h2 := toNat_toInt (x >>> s).toInt8.toInt32
  rw [i8_toInt, pk_shr x s k hs, Int.shiftRight_eq_div_pow] at h2
  have e : ((2 ^ k : Nat) : Int) = (d : Int) := by rw [hd]
  rw [e] at h2
  generalize x.toBitVec.toNat = n at *
  generalize (x >>> s).toInt8.toInt32.toBitVec.toNat = m at *
  generalize x.toInt = i at *
  have h3 : ∀ j : Int, j.bmod 256 = j % 256 ∨ j.bmod 256 = j % 256 - 256 := by
    intro j
    unfold Int.bmod
    simp only []
    split
    · exact Or.inl rfl
    · exact Or.inr rfl
  have h4 := h3 (i / (d : Int))
  rcases hk with rfl | rfl | rfl | rfl <;> omega
theorem by_b (x : Int32) (b : Nat) (hb : b < 4) : nI (x.toBitVec.toNat / 2 ^ (24 - 8 * b) % 256) = (x >>> ((24 - 8 * nI b) &&& 31)).toInt8.toInt32 &&& 255 := by
  rcases (show b = 0 ∨ b = 1 ∨ b = 2 ∨ b = 3 by omega) with rfl | rfl | rfl | rfl
  · exact by_k x _ 24 _ (by decide) rfl (by decide)
  · exact by_k x _ 16 _ (by decide) rfl (by decide)
  · exact by_k x _ 8 _ (by decide) rfl (by decide)
  · exact by_k x _ 0 _ (by decide) rfl (by decide)
theorem by_u (x s : Int32) (k : Nat) (hs : ((s.toUInt32 &&& Int32.toUInt32 31).toBitVec % 32).toNat = k) : (x.toUInt32 >>> (s.toUInt32 &&& Int32.toUInt32 31)).toInt32 &&& 255 = nI (x.toBitVec.toNat / 2 ^ k % 256) := by
  rw [pk_and _ (m := 255) 8 (by decide), pk_ushr x s k hs]
/-- what one number adds to the class's tape -/
def apU (A : Nat → Nat → Int32) (n : Nat) (p : Int32) : Nat → Nat → Int32 := fun t k => if t = 0 ∧ n ≤ k ∧ k < n + 4 then nI (p.toBitVec.toNat / 2 ^ (24 - 8 * (k - n)) % 256) else A t k
theorem c_append {M : Mem} {p : Int32} {n : Nat} {Q : Mem → Prop} (hn : n + 4 ≤ 400) (e : VC M 8 0 0 = nI n) (k : ∀ M', Hi M M' → VC M' = vu (VC M) 8 0 0 (nI (n + 4)) → AuC M' = apU (AuC M) n p → Q M') : P_X5_append p M Q := by
  intro J3 hJ3
  apply hJ3
  rw [rc_8 M, e]
  refine br_f (by decide) (br_f (nI_ge (b := 400) (by omega) (by omega)) ⟨vp_in_nI (by omega) (by omega), ?_⟩)
  rw [nI_clamp (by omega), by_u p 24 24 (by decide)]
  refine wac_t (by omega) (fun M1 f1 v1 a1 => ?_)
  rw [rc_8 M1, v1, e, nI_1]
  refine wc_8 (fun M2 f2 v2 a2 => ?_)
  have e2 : VC M2 8 0 0 = nI (n + 1) := by rw [v2]; exact vu_eq
  apply hJ3
  rw [show (24 : Int32) + (-8) = 16 by decide, rc_8 M2, e2]
  refine br_f (by decide) (br_f (nI_ge (b := 400) (by omega) (by omega)) ⟨vp_in_nI (by omega) (by omega), ?_⟩)
  rw [nI_clamp (by omega), by_u p 16 16 (by decide)]
  refine wac_t (by omega) (fun M3 f3 v3 a3 => ?_)
  rw [rc_8 M3, v3, e2, nI_1]
  refine wc_8 (fun M4 f4 v4 a4 => ?_)
  have e4 : VC M4 8 0 0 = nI (n + 1 + 1) := by rw [v4]; exact vu_eq
  apply hJ3
  rw [show (16 : Int32) + (-8) = 8 by decide, rc_8 M4, e4]
  refine br_f (by decide) (br_f (nI_ge (b := 400) (by omega) (by omega)) ⟨vp_in_nI (by omega) (by omega), ?_⟩)
  rw [nI_clamp (by omega), by_u p 8 8 (by decide)]
  refine wac_t (by omega) (fun M5 f5 v5 a5 => ?_)
  rw [rc_8 M5, v5, e4, nI_1]
  refine wc_8 (fun M6 f6 v6 a6 => ?_)
  have e6 : VC M6 8 0 0 = nI (n + 1 + 1 + 1) := by rw [v6]; exact vu_eq
  apply hJ3
  rw [show (8 : Int32) + (-8) = 0 by decide, rc_8 M6, e6]
  refine br_f (by decide) (br_f (nI_ge (b := 400) (by omega) (by omega)) ⟨vp_in_nI (by omega) (by omega), ?_⟩)
  rw [nI_clamp (by omega), by_u p 0 0 (by decide)]
  refine wac_t (by omega) (fun M7 f7 v7 a7 => ?_)
  rw [rc_8 M7, v7, e6, nI_1]
  refine wc_8 (fun M8 f8 v8 a8 => ?_)
  apply hJ3
  refine br_t (by decide) (k M8 (f1.tr (f2.tr (f3.tr (f4.tr (f5.tr (f6.tr (f7.tr f8))))))) ?_ ?_)
  · rw [v8, v7, v6, v5, v4, v3, v2, v1]
    funext a b c
    unfold vu
    by_cases h1 : a = 8 ∧ b = 0 ∧ c = 0
    · rw [if_pos h1, if_pos h1]
    · rw [if_neg h1, if_neg h1, if_neg h1, if_neg h1, if_neg h1]
  · rw [a8, a7, a6, a5, a4, a3, a2, a1]
    funext t j
    unfold au apU
    by_cases ht : t = 0 ∧ n ≤ j ∧ j < n + 4
    · rw [if_pos ht]
      obtain ⟨h0, h1, h2⟩ := ht
      rcases (show j = n ∨ j = n + 1 ∨ j = n + 1 + 1 ∨ j = n + 1 + 1 + 1 by omega) with e | e | e | e
      · rw [if_neg (by omega), if_neg (by omega), if_neg (by omega), if_pos ⟨h0, e⟩, e, Nat.sub_self]
      · rw [if_neg (by omega), if_neg (by omega), if_pos ⟨h0, e⟩, e, show n + 1 - n = 1 by omega]
      · rw [if_neg (by omega), if_pos ⟨h0, e⟩, e, show n + 1 + 1 - n = 2 by omega]
      · rw [if_pos ⟨h0, e⟩, e, show n + 1 + 1 + 1 - n = 3 by omega]
    · rw [if_neg ht, if_neg (by omega), if_neg (by omega), if_neg (by omega), if_neg (by omega)]
def fv5 (p1 p2 p3 p4 p5 : Int32) (j : Nat) : Int32 := if j = 0 then p1 else if j = 1 then p2 else if j = 2 then p3 else if j = 3 then p4 else p5
theorem apU5 (A : Nat → Nat → Int32) (n : Nat) (p1 p2 p3 p4 p5 : Int32) (k : Nat) : apU (apU (apU (apU (apU A n p1) (n + 4) p2) (n + 4 + 4) p3) (n + 4 + 4 + 4) p4) (n + 4 + 4 + 4 + 4) p5 0 k = if n ≤ k ∧ k < n + 20 then nI ((fv5 p1 p2 p3 p4 p5 ((k - n) / 4)).toBitVec.toNat / 2 ^ (24 - 8 * ((k - n) % 4)) % 256) else A 0 k := by
  unfold apU
  by_cases h : n ≤ k ∧ k < n + 20
  · rw [if_pos h]
    rcases (show (k - n) / 4 = 0 ∨ (k - n) / 4 = 1 ∨ (k - n) / 4 = 2 ∨ (k - n) / 4 = 3 ∨ (k - n) / 4 = 4 by omega) with e | e | e | e | e
    · rw [if_neg (by omega), if_neg (by omega), if_neg (by omega), if_neg (by omega), if_pos ⟨rfl, by omega, by omega⟩, e, show k - n = (k - n) % 4 by omega]
      simp only [Nat.mod_mod]
      rfl
    · rw [if_neg (by omega), if_neg (by omega), if_neg (by omega), if_pos ⟨rfl, by omega, by omega⟩, e, show k - (n + 4) = (k - n) % 4 by omega]
      rfl
    · rw [if_neg (by omega), if_neg (by omega), if_pos ⟨rfl, by omega, by omega⟩, e, show k - (n + 4 + 4) = (k - n) % 4 by omega]
      rfl
    · rw [if_neg (by omega), if_pos ⟨rfl, by omega, by omega⟩, e, show k - (n + 4 + 4 + 4) = (k - n) % 4 by omega]
      rfl
    · rw [if_pos ⟨rfl, by omega, by omega⟩, e, show k - (n + 4 + 4 + 4 + 4) = (k - n) % 4 by omega]
      rfl
  · rw [if_neg h, if_neg (by omega), if_neg (by omega), if_neg (by omega), if_neg (by omega), if_neg (by omega)]
theorem apU_t (A : Nat → Nat → Int32) (n : Nat) (p : Int32) (t k : Nat) (ht : t ≠ 0) : apU A n p t k = A t k := if_neg (fun h => ht h.1)
theorem c_feed {M : Mem} {p1 p2 p3 p4 p5 : Int32} {n : Nat} {Q : Int32 → Mem → Prop} (e : VC M 8 0 0 = nI n) (hn : n ≤ 400) (kb : 400 < n + 20 → Q (-1) M) (kg : n + 20 ≤ 400 → ∀ M', Hi M M' → VC M' = vu (VC M) 8 0 0 (nI (n + 20)) → (∀ k, AuC M' 0 k = if n ≤ k ∧ k < n + 20 then nI ((fv5 p1 p2 p3 p4 p5 ((k - n) / 4)).toBitVec.toNat / 2 ^ (24 - 8 * ((k - n) % 4)) % 256) else AuC M 0 k) → (∀ t k, t ≠ 0 → AuC M' t k = AuC M t k) → Q (nI (n + 20)) M') : P_X6_feed p1 p2 p3 p4 p5 M Q := by
  unfold P_X6_feed
  rw [rc_8 M, e, show (20 : Int32) = nI 20 from rfl, nI_add]
  by_cases h : n + 20 ≤ 400
  · refine br_t (nI_le (b := 400) h (by omega)) ?_
    refine c_append (by omega) e (fun M1 f1 v1 a1 => ?_)
    refine c_append (n := n + 4) (by omega) (by rw [v1]; exact vu_eq) (fun M2 f2 v2 a2 => ?_)
    refine c_append (n := n + 4 + 4) (by omega) (by rw [v2]; exact vu_eq) (fun M3 f3 v3 a3 => ?_)
    refine c_append (n := n + 4 + 4 + 4) (by omega) (by rw [v3]; exact vu_eq) (fun M4 f4 v4 a4 => ?_)
    refine c_append (n := n + 4 + 4 + 4 + 4) (by omega) (by rw [v4]; exact vu_eq) (fun M5 f5 v5 a5 => ?_)
    have e5 : VC M5 8 0 0 = nI (n + 20) := by rw [v5]; exact vu_eq
    rw [rc_8 M5, e5]
    refine kg h M5 (f1.tr (f2.tr (f3.tr (f4.tr f5)))) ?_ (fun k => ?_) (fun t k ht => ?_)
    · rw [v5, v4, v3, v2, v1]
      funext a b c
      unfold vu
      by_cases h1 : a = 8 ∧ b = 0 ∧ c = 0
      · rw [if_pos h1, if_pos h1]
      · rw [if_neg h1, if_neg h1, if_neg h1, if_neg h1, if_neg h1, if_neg h1]
    · rw [a5, a4, a3, a2, a1]
      exact apU5 _ _ _ _ _ _ _ _
    · rw [a5, a4, a3, a2, a1, apU_t _ _ _ _ _ ht, apU_t _ _ _ _ _ ht, apU_t _ _ _ _ _ ht, apU_t _ _ _ _ _ ht, apU_t _ _ _ _ _ ht]
  · exact br_f (nI_ge (a := 400) (by omega) (by omega)) (kb (by omega))
theorem r_feed {M : Mem} {p1 p2 p3 p4 p5 : Int32} {n : Nat} {Q : Int32 → Mem → Prop} (e : VR M 8 0 0 = nI n) (hn : n ≤ 400) (kb : 400 < n + 20 → ∀ M', Lo M M' → VR M' = VR M → AuR M' = AuR M → Q (-1) M') (kg : n + 20 ≤ 400 → ∀ M', Lo M M' → VR M' = vu (VR M) 8 0 0 (nI (n + 20)) → (∀ k, k < 400 → AuR M' 0 k = if n ≤ k ∧ k < n + 20 then ((fv5 p1 p2 p3 p4 p5 ((k - n) / 4)) >>> ((24 - 8 * nI ((k - n) % 4)) &&& 31)).toInt8.toInt32 else AuR M 0 k) → (∀ t k, t ≠ 0 → AuR M' t k = AuR M t k) → Q (nI (n + 20)) M') : P_X7_feed p1 p2 p3 p4 p5 M Q := by
  intro J60 hJ60
  refine wr_thr (fun M1 f1 v1 a1 t1 => ?_)
  have e1 : VR M1 8 0 0 = nI n := by rw [v1]; exact e
  rw [rr_8 M1, e1, show (20 : Int32) = nI 20 from rfl, nI_add]
  by_cases h : n + 20 ≤ 400
  · refine br_t (nI_le (b := 400) h (by omega)) ⟨vp_in_nI (n := 0) (by omega) (by omega), vp_in_nI (n := 1) (by omega) (by omega), vp_in_nI (n := 2) (by omega) (by omega), vp_in_nI (n := 3) (by omega) (by omega), vp_in_nI (n := 4) (by omega) (by omega), ?_⟩
    have main := dn (P := fun i => ∀ N : Mem, Lo M N → VR N = VR M → (∀ k, k < 400 → AuR N 0 k = if n ≤ k ∧ k < n + i then ((fv5 p1 p2 p3 p4 p5 ((k - n) / 4)) >>> ((24 - 8 * nI ((k - n) % 4)) &&& 31)).toInt8.toInt32 else AuR M 0 k) → (∀ t k, t ≠ 0 → AuR N t k = AuR M t k) → (∀ j, j < 5 → N 135 j = fv5 p1 p2 p3 p4 p5 j) → J60 (nI i) N) 20 (fun i hi hs => by
      intro N fN vN aN bN cN
      apply hJ60
      have eN : VR N 8 0 0 = nI n := by rw [vN]; exact e
      rw [rr_8 N, eN, show (20 : Int32) = nI 20 from rfl, show (4 : Int32) = nI 4 from rfl]
      refine br_f (nI_ge (by omega) (by omega)) ?_
      rw [pk_rem (by omega) (by omega) (by omega), pk_div (by omega) (by omega) (by omega), nI_add, nI_clamp (by omega), nI_clamp (by omega), cN _ (by omega), pk_vb, nI_1]
      refine ⟨vp_in_nI (by omega) (by omega), vp_in_nI (by omega) (by omega), ?_⟩
      refine hs _ (fN.tr (lo_up (by omega))) ((VR_no (by unfold inR; omega)).trans vN) (fun k hk => ?_) (fun t k ht => ?_) (fun j hj => ?_)
      · rw [uar_t (by omega)]
        unfold au
        by_cases ek : k = n + i
        · rw [if_pos ⟨rfl, ek⟩, if_pos (by omega), ek, Nat.add_sub_cancel_left]
        · rw [if_neg (fun h => ek h.2), aN k hk]
          by_cases hr : n ≤ k ∧ k < n + i
          · rw [if_pos hr, if_pos (by omega)]
          · rw [if_neg hr, if_neg (by omega)]
      · rw [uar_t (by omega)]
        unfold au
        rw [if_neg (fun h => ht h.1)]
        exact bN t k ht
      · rw [← cN j hj]
        exact if_neg (by omega)) (by
      intro N fN vN aN bN cN
      apply hJ60
      have eN : VR N 8 0 0 = nI n := by rw [vN]; exact e
      refine br_t (by decide) ?_
      rw [rr_8 N, eN, show (20 : Int32) = nI 20 from rfl, nI_add]
      refine wr_8 (fun N1 g1 w1 b1 u1 => ?_)
      have eN1 : VR N1 8 0 0 = nI (n + 20) := by rw [w1]; exact vu_eq
      rw [rr_8 N1, eN1]
      refine kg h N1 (fN.tr g1) (by rw [w1, vN]) (fun k hk => by rw [b1]; exact aN k hk) (fun t k ht => by rw [b1]; exact bN t k ht))
    have nr : ∀ (N : Mem) (j : Nat) (v : Int32), AuR (mup N 135 j v) = AuR N := fun N j v => AR_no (by unfold auxR; omega)
    have nv : ∀ (N : Mem) (j : Nat) (v : Int32), VR (mup N 135 j v) = VR N := fun N j v => VR_no (by unfold inR; omega)
    have nl : ∀ (N : Mem) (j : Nat) (v : Int32), Lo N (mup N 135 j v) := fun N j v => lo_up (by omega)
    refine main _ (f1.tr ((nl _ _ _).tr ((nl _ _ _).tr ((nl _ _ _).tr ((nl _ _ _).tr (nl _ _ _)))))) ?_ (fun k hk => ?_) (fun t k ht => ?_) (fun j hj => ?_)
    · rw [nv, nv, nv, nv, nv, v1]
    · rw [nr, nr, nr, nr, nr, a1, if_neg (by omega)]
    · rw [nr, nr, nr, nr, nr, a1]
    · rcases (show j = 0 ∨ j = 1 ∨ j = 2 ∨ j = 3 ∨ j = 4 by omega) with rfl | rfl | rfl | rfl | rfl <;> rfl
  · exact br_f (nI_ge (a := 400) (by omega) (by omega)) (kb (by omega) M1 f1 v1 a1)
theorem T_feed {q : Nat} {M : Mem} {p1 p2 p3 p4 p5 : Int32} (h : Ok q M) (hq : q < 512) : P_X6_feed p1 p2 p3 p4 p5 M (fun r M1 => P_X7_feed p1 p2 p3 p4 p5 M1 (fun r' M2 => r = r' ∧ Ok (q + 1) M2)) := by
  have hV := h.2.1.1
  obtain ⟨h0, h11, h15, h4, h14, h10, h12, h6, hsh, hsum, hf, ⟨n, hn, en⟩⟩ := h.2.2.next
  refine c_feed (n := n) (by rw [hV]; exact en) hn (fun hb => ?_) (fun hg M1 f1 v1 a1 b1 => ?_)
  · exact r_feed en hn (fun _ M2 f2 v2 a2 => ⟨rfl, h.same hq f2 v2 a2⟩) (fun hg => by omega)
  · have e1 : VR M1 = VR M := hi_VR f1
    refine r_feed (by rw [e1]; exact en) hn (fun hb => by omega) (fun _ M2 f2 v2 a2 b2 => ⟨rfl, ?_⟩)
    have eR : VR M2 = vu (VR M) 8 0 0 (nI (n + 20)) := by rw [v2, e1]
    refine ⟨by omega, ⟨by rw [lo_VC f2, v1, eR, hV], fun c hc => ?_, fun k hk => ?_, fun s hs h0 => ?_⟩, ?_⟩
    · rw [b2 2 c (by omega), hi_AR f1, eR]
      exact h.2.1.2.1 c hc
    · rw [lo_AC f2, a1 k, a2 k hk]
      by_cases hr : n ≤ k ∧ k < n + 20
      · rw [if_pos hr, if_pos hr]
        exact ⟨i8_rg _, by_b _ _ (by omega)⟩
      · rw [if_neg hr, if_neg hr, hi_AR f1]
        exact h.2.1.2.2.1 k hk
    · rw [lo_AC f2, b1 1 s (by omega), b2 1 s (by omega), hi_AR f1]
      rw [eR] at h0
      exact h.2.1.2.2.2 s hs h0
    · rw [eR]
      exact ⟨h0, h11, h15, h4, h14, h10, h12, h6, hsh, hsum, hf, ⟨n + 20, by omega, rfl⟩⟩
