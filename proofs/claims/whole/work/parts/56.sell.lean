/-! ===== sell ===== -/
def bdSell (V : Vw) (s : Nat) (f t o : Int32) : Prop := (o < 0 ∨ 30 < o) ∨ f < V 20 s 0 ∨ t ≤ f ∨ ¬ t ≤ V 21 s 0
def mor (V : Vw) (s : Nat) (f t : Int32) : Nat := (if f ≤ V 20 s 0 then 0 else 1) + (if V 21 s 0 ≤ t then 0 else 1)
/-- the share itself, then what is ahead, then what is behind -/
def sl0 (V : Vw) (s : Nat) (f t o : Int32) : Vw := shU V s (V 19 s 0) f t o
def sl1 (W : Vw) (a f0 f c o : Int32) : Vw := if f ≤ f0 then W else adU W c a f o
def sl2 (W : Vw) (t t0 c o : Int32) : Vw := if t0 ≤ t then W else adU W c t t0 o
def slV (V : Vw) (s : Nat) (f t o : Int32) : Vw := sl2 (sl1 (sl0 V s f t o) (V 20 s 0) (V 20 s 0) f (V 19 s 0) (V 22 s 0)) t (V 21 s 0) (V 19 s 0) (V 22 s 0)
theorem c_sell {M : Mem} {s : Nat} {f t o : Int32} {Q : Mem → Prop} {X : String → Mem → Prop} (h6 : I6 (VC M)) (hs : s < ns (VC M)) (hl : ¬ ltV (VC M) s) (kb : bdSell (VC M) s f t o → X "java/lang/IllegalArgumentException" M) (km : ¬ bdSell (VC M) s f t o → 60 < ns (VC M) + mor (VC M) s f t → X "java/lang/UnsupportedOperationException" M) (kg : ¬ bdSell (VC M) s f t o → ns (VC M) + mor (VC M) s f t ≤ 60 → ∀ M1, Hi M M1 → VC M1 = slV (VC M) s f t o → (∀ k, AuC M1 0 k = AuC M 0 k) → (∀ k, 0 < VC M1 25 k 0 → AuC M1 1 k = AuC M 1 k) → Q M1) : P_X6_sell (nI s) f t o M Q X := by
  obtain ⟨hn, en⟩ := ns_eq h6
  have hs60 : s < 60 := by omega
  intro J62 J78 J94 J105 J146 J171 hJ62 hJ78 hJ94 hJ105 hJ146 hJ171
  refine c_ul2 h6 hs hl ?_
  by_cases g1 : o < 0 ∨ 30 < o
  · exact ow0 g1 (br_t rfl (kb (Or.inl g1)))
  refine ow1 (fun h => g1 (Or.inl h)) (fun h => g1 (Or.inr h)) (br_f (by decide) ?_)
  rw [rc_20 M hs60, rc_21 M hs60]
  refine br_c (fun g2 => kb (Or.inr (Or.inl g2))) (fun g2 => br_c (fun g3 => kb (Or.inr (Or.inr (Or.inl g3)))) (fun g3 => br_c (fun g4 => ?_) (fun g4 => kb (Or.inr (Or.inr (Or.inr g4))))))
  have hg : ¬ bdSell (VC M) s f t o := fun hb => by
    rcases hb with hb | hb | hb | hb
    · exact g1 hb
    · exact g2 hb
    · exact g3 hb
    · exact hb g4
  -- the last step: the part is written anew
  have fin : ∀ (N : Mem) (W : Vw), Hi M N → VC N = W → (∀ k, k ≠ s → 0 < W 25 k 0 → AuC N 1 k = AuC M 1 k) → (∀ k, AuC N 0 k = AuC M 0 k) → W 19 s 0 = VC M 19 s 0 → (ns (VC M) + mor (VC M) s f t ≤ 60) → shU W s (VC M 19 s 0) f t o = slV (VC M) s f t o → J171 s N := fun N W fN vN aN bN e19 h60 eW => by
    apply hJ171
    rw [rc_19 N hs60, vN, e19]
    refine c_become hs60 (fun N1 f1 v1 a1 => kg hg h60 N1 (fN.tr f1) (by rw [v1, vN]; exact eW) (fun k => ?_) (fun k hk => ?_))
    · rw [a1, ← bN k]
      exact if_neg (by omega)
    · rw [v1, vN] at hk
      by_cases e : k = s
      · rw [e, shU_25] at hk
        exact absurd hk (by decide)
      · rw [shU_n e] at hk
        rw [a1, ← aN k e hk]
        exact if_neg (by omega)
  have ch20 : ∀ (N : Mem), VC N = VC M → N (48 + s) 0 = VC M 19 s 0 ∧ N (48 + s) 1 = VC M 20 s 0 ∧ N (48 + s) 2 = VC M 21 s 0 ∧ N (48 + s) 3 = VC M 22 s 0 := fun N e => by
    rw [rc_19 N hs60, rc_20 N hs60, rc_21 N hs60, rc_22 N hs60, e]
    exact ⟨rfl, rfl, rfl, rfl⟩
  have eMor : mor (VC M) s f t = (if f ≤ VC M 20 s 0 then 0 else 1) + (if VC M 21 s 0 ≤ t then 0 else 1) := rfl
  have eV : slV (VC M) s f t o = sl2 (sl1 (sl0 (VC M) s f t o) (VC M 20 s 0) (VC M 20 s 0) f (VC M 19 s 0) (VC M 22 s 0)) t (VC M 21 s 0) (VC M 19 s 0) (VC M 22 s 0) := rfl
  by_cases hA : f ≤ VC M 20 s 0
  · rw [if_pos hA, Nat.zero_add] at eMor
    have eV1 : slV (VC M) s f t o = sl2 (sl0 (VC M) s f t o) t (VC M 21 s 0) (VC M 19 s 0) (VC M 22 s 0) := by
      rw [eV]; unfold sl1; rw [if_pos hA]
    refine br_t hA ?_
    apply hJ62
    rw [rc_21 M hs60]
    by_cases hB : VC M 21 s 0 ≤ t
    · rw [if_pos hB] at eMor
      refine br_t hB ?_
      apply hJ78
      refine br_t rfl ?_
      apply hJ94
      refine br_t rfl ?_
      apply hJ105
      rw [Int32.add_zero, Int32.add_zero, rc_6 M, en]
      refine br_t (nI_le (b := 60) (by omega) (by omega)) (br_t rfl ?_)
      apply hJ146
      refine br_t rfl (fin M (VC M) Hi.rfl' rfl (fun _ _ _ => rfl) (fun _ => rfl) rfl (by omega) ?_)
      rw [eV1]; unfold sl2; rw [if_pos hB]; rfl
    · rw [if_neg hB] at eMor
      refine br_f hB ?_
      apply hJ78
      refine br_t rfl ?_
      apply hJ94
      refine br_f (by decide) ?_
      apply hJ105
      rw [Int32.add_zero, rc_6 M, en, nI_1]
      by_cases h60 : ns (VC M) + 1 ≤ 60
      · refine br_t (nI_le (b := 60) h60 (by omega)) (br_t rfl ?_)
        apply hJ146
        refine br_f (by decide) ?_
        obtain ⟨e0, e1, e2, e3⟩ := ch20 M rfl
        rw [e0, e2, e3]
        refine c_addShare h6 (by omega) (fun M1 f1 v1 a1 => ?_)
        refine fin M1 _ f1 v1 (fun k _ hk => ?_) (fun k => ?_) ?_ (by omega) ?_
        · rw [adU_s (by omega)] at hk
          by_cases e : k = ns (VC M)
          · rw [e, shU_25] at hk
            exact absurd hk (by decide)
          · rw [a1]
            exact if_neg (by omega)
        · rw [a1]
          exact if_neg (by omega)
        · rw [adU_s (by omega), shU_n (by omega)]
        · rw [eV1]; unfold sl2; rw [if_neg hB]
          exact (adU_shU (by omega)).symm
      · exact br_f (nI_ge (a := 60) (by omega) (by omega)) (km hg (by omega))
  · rw [if_neg hA] at eMor
    have eV1 : slV (VC M) s f t o = sl2 (adU (sl0 (VC M) s f t o) (VC M 19 s 0) (VC M 20 s 0) f (VC M 22 s 0)) t (VC M 21 s 0) (VC M 19 s 0) (VC M 22 s 0) := by
      rw [eV]; unfold sl1; rw [if_neg hA]
    have eA : adU (sl0 (VC M) s f t o) (VC M 19 s 0) (VC M 20 s 0) f (VC M 22 s 0) = shU (adU (VC M) (VC M 19 s 0) (VC M 20 s 0) f (VC M 22 s 0)) s (VC M 19 s 0) f t o := adU_shU (by omega)
    rw [eA] at eV1
    refine br_f hA ?_
    apply hJ62
    rw [rc_21 M hs60]
    by_cases hB : VC M 21 s 0 ≤ t
    · rw [if_pos hB] at eMor
      refine br_t hB ?_
      apply hJ78
      refine br_f (by decide) ?_
      apply hJ94
      refine br_t rfl ?_
      apply hJ105
      rw [Int32.add_zero, rc_6 M, en, nI_1]
      by_cases h60 : ns (VC M) + 1 ≤ 60
      · refine br_t (nI_le (b := 60) h60 (by omega)) (br_f (by decide) ?_)
        obtain ⟨e0, e1, e2, e3⟩ := ch20 M rfl
        rw [e0, e1, e3]
        refine c_addShare h6 (by omega) (fun M1 f1 v1 a1 => ?_)
        apply hJ146
        refine br_t rfl ?_
        refine fin M1 _ f1 v1 (fun k _ hk => ?_) (fun k => ?_) ?_ (by omega) ?_
        · rw [adU_s (by omega)] at hk
          by_cases e : k = ns (VC M)
          · rw [e, shU_25] at hk
            exact absurd hk (by decide)
          · rw [a1]
            exact if_neg (by omega)
        · rw [a1]
          exact if_neg (by omega)
        · rw [adU_s (by omega), shU_n (by omega)]
        · rw [eV1]; unfold sl2; rw [if_pos hB]
      · exact br_f (nI_ge (a := 60) (by omega) (by omega)) (km hg (by omega))
    · rw [if_neg hB] at eMor
      refine br_f hB ?_
      apply hJ78
      refine br_f (by decide) ?_
      apply hJ94
      refine br_f (by decide) ?_
      apply hJ105
      rw [rc_6 M, en, nI_1, nI_1]
      by_cases h60 : ns (VC M) + 1 + 1 ≤ 60
      · refine br_t (nI_le (b := 60) h60 (by omega)) (br_f (by decide) ?_)
        obtain ⟨e0, e1, e2, e3⟩ := ch20 M rfl
        rw [e0, e1, e3]
        refine c_addShare h6 (by omega) (fun M1 f1 v1 a1 => ?_)
        apply hJ146
        refine br_f (by decide) ?_
        have n1 : ns (VC M1) = ns (VC M) + 1 := by rw [v1]; exact ns_adU (by omega)
        have x19 : ∀ t', t' ≠ 6 → VC M1 t' s 0 = VC M t' s 0 := fun t' ht' => by rw [v1, adU_s ht', shU_n (by omega)]
        rw [rc_19 M1 hs60, rc_21 M1 hs60, rc_22 M1 hs60, x19 19 (by omega), x19 21 (by omega), x19 22 (by omega)]
        refine c_addShare (by rw [v1]; exact I6_adU (by omega)) (by omega) (fun M2 f2 v2 a2 => ?_)
        refine fin M2 _ (f1.tr f2) v2 (fun k _ hk => ?_) (fun k => ?_) ?_ (by omega) ?_
        · rw [adU_s (by omega), n1] at hk
          by_cases e : k = ns (VC M) + 1
          · rw [e, shU_25] at hk
            exact absurd hk (by decide)
          · rw [shU_n e, v1, adU_s (by omega)] at hk
            by_cases e' : k = ns (VC M)
            · rw [e', shU_25] at hk
              exact absurd hk (by decide)
            · rw [a2, a1, n1]
              exact (if_neg (by omega)).trans (if_neg (by omega))
        · rw [a2, a1]
          exact (if_neg (by omega)).trans (if_neg (by omega))
        · rw [adU_s (by omega), n1, shU_n (by omega), x19 19 (by omega)]
        · rw [eV1, v1]; unfold sl2; rw [if_neg hB]
          exact (adU_shU (by rw [ns_adU (by omega)]; omega)).symm
      · exact br_f (nI_ge (a := 60) (by omega) (by omega)) (km hg (by omega))
theorem r_sell {M : Mem} {s : Nat} {f t o : Int32} {Q : Mem → Prop} (h6 : I6 (VR M)) (hs : s < ns (VR M)) (hl : ¬ ltV (VR M) s) (kb : bdSell (VR M) s f t o → ∀ M1, Lo M M1 → VR M1 = VR M → AuR M1 = AuR M → M1 118 0 = 3 → Q M1) (km : ¬ bdSell (VR M) s f t o → 60 < ns (VR M) + mor (VR M) s f t → ∀ M1, Lo M M1 → VR M1 = VR M → AuR M1 = AuR M → M1 118 0 = 4 → Q M1) (kg : ¬ bdSell (VR M) s f t o → ns (VR M) + mor (VR M) s f t ≤ 60 → ∀ M1, Lo M M1 → VR M1 = slV (VR M) s f t o → AuR M1 = AuR M → M1 118 0 = 0 → Q M1) : P_X7_sell (nI s) f t o M Q := by
  obtain ⟨hn, en⟩ := ns_eq h6
  have hs60 : s < 60 := by omega
  intro J100 J101 J114 J125 J139 J164 J203 hJ100 hJ101 hJ114 hJ125 hJ139 hJ164 hJ203
  refine wr_thr (fun M1 f1 v1 a1 t1 => r_noSh1 (by rw [v1]; exact h6) (by rw [v1]; exact hs) (thr0 ⟨fun h => absurd rfl h, fun _ => r_let hs60 (fun hy => absurd (by rw [v1] at hy; exact hy) hl) (fun _ => thr0 (br_t rfl ?_))⟩))
  rw [show (1 : Int32) = nI 1 from rfl, show (2 : Int32) = nI 2 from rfl, show (3 : Int32) = nI 3 from rfl, ix7, ix7, ix7, ix7a, nI_clamp (by omega), nI_clamp (by omega), nI_clamp (by omega), rr_20 M1 hs60, rr_21 M1 hs60, rr_22 M1 hs60, v1]
  refine ⟨vp_in_nI (by omega) (by omega), vp_in_nI (by omega) (by omega), vp_in_nI (by omega) (by omega), ?_⟩
  have cnt : ∀ (g : Int32) (R : Int32 → Prop), R (nI (mor (VR M) s f t)) → (∀ n, J139 (nI (7 * s)) (VR M 20 s 0) (VR M 21 s 0) (VR M 22 s 0) n (if g = 0 then 1 else 0) M1 ∨ ¬ R n) → J101 (nI (7 * s)) (VR M 20 s 0) (VR M 21 s 0) (VR M 22 s 0) g M1 := fun g R hR hJ => by
    have fin : ∀ n, R n → ((¬ g = 0 → J139 (nI (7 * s)) (VR M 20 s 0) (VR M 21 s 0) (VR M 22 s 0) n (0 : Int32) M1) ∧ (g = 0 → J139 (nI (7 * s)) (VR M 20 s 0) (VR M 21 s 0) (VR M 22 s 0) n (1 : Int32) M1)) := fun n hn => by
      have := (hJ n).resolve_right (fun h => h hn)
      refine ⟨fun hg => ?_, fun hg => ?_⟩
      · rw [if_neg hg] at this; exact this
      · rw [if_pos hg] at this; exact this
    apply hJ101
    refine br_c (fun hA => ?_) (fun hA => ?_)
    · apply hJ114
      refine br_c (fun hB => ?_) (fun hB => ?_)
      · apply hJ125
        refine fin _ ?_
        unfold mor at hR
        rw [if_pos hA, if_pos hB] at hR
        exact hR
      · apply hJ125
        refine fin _ ?_
        unfold mor at hR
        rw [if_pos hA, if_neg hB] at hR
        exact hR
    · apply hJ114
      refine br_c (fun hB => ?_) (fun hB => ?_)
      · apply hJ125
        refine fin _ ?_
        unfold mor at hR
        rw [if_neg hA, if_pos hB] at hR
        exact hR
      · apply hJ125
        refine fin _ ?_
        unfold mor at hR
        rw [if_neg hA, if_neg hB] at hR
        exact hR
  have bad : bdSell (VR M) s f t o → J100 (nI (7 * s)) (VR M 20 s 0) (VR M 21 s 0) (VR M 22 s 0) M1 := fun hb => by
    apply hJ100
    refine cnt 0 (fun _ => True) trivial (fun n => Or.inl ?_)
    rw [if_pos rfl]
    apply hJ139
    exact thr1 (wr_thr (fun M2 f2 v2 a2 t2 => ⟨fun _ => kb hb M2 (f1.tr f2) (v2.trans v1) (a2.trans a1) t2, fun h => absurd h (by decide)⟩))
  by_cases g1 : o < 0 ∨ 30 < o
  · exact no1 g1 ⟨fun _ => bad (Or.inl g1), fun h => absurd h (by decide)⟩
  refine no0 (fun h => g1 (Or.inl h)) (fun h => g1 (Or.inr h)) ⟨fun h => absurd rfl h, fun _ => br_c (fun g2 => bad (Or.inr (Or.inl g2))) (fun g2 => br_c (fun g3 => bad (Or.inr (Or.inr (Or.inl g3)))) (fun g3 => br_c (fun g4 => bad (Or.inr (Or.inr (Or.inr (fun h => ?_))))) (fun g4 => ?_)))⟩
  · rw [i32_lt] at g4
    rw [i32_le] at h
    omega
  have hg : ¬ bdSell (VR M) s f t o := fun hb => by
    rcases hb with hb | hb | hb | hb
    · exact g1 hb
    · exact g2 hb
    · exact g3 hb
    · rw [i32_lt] at g4
      rw [i32_le] at hb
      omega
  have hm2 : mor (VR M) s f t ≤ 2 := by unfold mor; split <;> split <;> omega
  refine cnt 1 (fun n => n = nI (mor (VR M) s f t)) rfl (fun n => ?_)
  by_cases en' : n = nI (mor (VR M) s f t)
  rotate_left
  · exact Or.inr en'
  left
  rw [en', if_neg (by decide)]
  apply hJ139
  refine thr0 ⟨fun h => absurd rfl h, fun _ => ?_⟩
  rw [rr_6 M1, v1, en, nI_add]
  by_cases h60 : ns (VR M) + mor (VR M) s f t ≤ 60
  rotate_left
  · refine br_f (nI_ge (a := 60) (by omega) (by omega)) ?_
    apply hJ164
    exact thr1 (wr_thr (fun M2 f2 v2 a2 t2 => br_f (by decide) (km hg (by omega) M2 (f1.tr f2) (v2.trans v1) (a2.trans a1) t2)))
  refine br_t (nI_le (b := 60) h60 (by omega)) ?_
  apply hJ164
  refine thr0 (br_t rfl (r_sets hs60 (fun M2 f2 v2 a2 t2 => ?_)))
  rw [v1] at v2
  have e2 : VR M2 = sl0 (VR M) s f t o := v2
  have n2 : ns (VR M2) = ns (VR M) := by rw [v2]; exact ns_shU
  have i2 : I6 (VR M2) := by rw [v2]; exact I6_shU h6
  have x2 : VR M2 19 s 0 = VR M 19 s 0 := by rw [v2]; exact shU_19
  have fin : ∀ (N : Mem) (W : Vw), Lo M N → VR N = W → AuR N = AuR M → N 118 0 = 0 → W 19 s 0 = VR M 19 s 0 → I6 W → (¬ VR M 21 s 0 ≤ t → ns W < 60) → sl2 W t (VR M 21 s 0) (VR M 19 s 0) (VR M 22 s 0) = slV (VR M) s f t o → J203 (nI (7 * s)) (VR M 21 s 0) (VR M 22 s 0) N := fun N W fN vN aN tN e19 i6 hW eW => by
    apply hJ203
    unfold sl2 at eW
    refine br_c (fun hB => ?_) (fun hB => ⟨vp_in_nI (by omega) (by omega), ?_⟩)
    · rw [if_pos hB] at eW
      exact kg hg h60 N fN (vN.trans eW) aN tN
    · rw [if_neg hB] at eW
      rw [nI_clamp (by omega), rr_19 N hs60, vN, e19]
      exact r_adds (by rw [vN]; exact i6) (by rw [vN]; exact hW hB) (fun N1 g1 w1 b1 u1 => kg hg h60 N1 (fN.tr g1) (by rw [w1, vN]; exact eW) (by rw [b1, aN]) (by rw [u1, tN]))
  have eV : slV (VR M) s f t o = sl2 (sl1 (sl0 (VR M) s f t o) (VR M 20 s 0) (VR M 20 s 0) f (VR M 19 s 0) (VR M 22 s 0)) t (VR M 21 s 0) (VR M 19 s 0) (VR M 22 s 0) := rfl
  have eMor : mor (VR M) s f t = (if f ≤ VR M 20 s 0 then 0 else 1) + (if VR M 21 s 0 ≤ t then 0 else 1) := rfl
  refine br_c (fun hA => ?_) (fun hA => ⟨vp_in_nI (by omega) (by omega), ?_⟩)
  · rw [if_pos hA] at eMor
    refine fin M2 _ (f1.tr f2) e2 (a2.trans a1) (t2.trans t1) (by rw [← e2]; exact x2) (by rw [← e2]; exact i2) (fun hB => ?_) ?_
    · rw [if_neg hB] at eMor
      rw [← e2, n2]
      omega
    · rw [eV]; unfold sl1; rw [if_pos hA]
  · rw [if_neg hA] at eMor
    rw [nI_clamp (by omega), rr_19 M2 hs60, x2]
    refine r_adds i2 (by omega) (fun M3 f3 v3 a3 t3 => ?_)
    refine fin M3 _ (f1.tr (f2.tr f3)) v3 (a3.trans (a2.trans a1)) (t3.trans (t2.trans t1)) ?_ (I6_adU (by omega)) (fun hB => ?_) ?_
    · rw [adU_s (by omega), shU_n (by omega)]; exact x2
    · rw [if_neg hB] at eMor
      rw [ns_adU (by omega)]
      omega
    · rw [eV, e2]; unfold sl1; rw [if_neg hA]
theorem i32_ge_eq {a b : Int32} (h : ¬ a < b) (h2 : a ≤ b) : a = b := by
  rw [i32_lt] at h
  rw [i32_le] at h2
  rw [i32_eq]
  omega
theorem Inv_sell {q : Nat} {V : Vw} {s : Nat} {f t o : Int32} (h : Inv q V) (hs : s < ns V) (h60 : ns V + mor V s f t ≤ 60) (hg : ¬ bdSell V s f t o) : Inv q (slV V s f t o) := by
  have g1 : ¬ (o < 0 ∨ 30 < o) := fun hb => hg (Or.inl hb)
  have g2 : ¬ f < V 20 s 0 := fun hb => hg (Or.inr (Or.inl hb))
  have g3 : ¬ t ≤ f := fun hb => hg (Or.inr (Or.inr (Or.inl hb)))
  have g4 : t ≤ V 21 s 0 := Decidable.byContradiction (fun hb => hg (Or.inr (Or.inr (Or.inr hb))))
  have e30 : (30 : Int32).toInt = 30 := rfl
  have h6 : I6 V := h.2.2.2.2.2.2.2.1
  have ish : ISh V := h.2.2.2.2.2.2.2.2.1
  have isum : ISum V := h.2.2.2.2.2.2.2.2.2.1
  obtain ⟨⟨d, d1, d2, d3, d4, d5, d6⟩, d7⟩ := ish s hs
  rw [i32_lt, i32_lt, t0, e30] at g1
  rw [i32_lt] at g2
  rw [i32_le] at g3
  have g4' := g4
  rw [i32_le] at g4'
  have s0 : GS V (V 19 s 0) f t o := ⟨⟨d, d1, d2, d3, by omega, by omega, by omega⟩, by unfold rg; omega⟩
  have j0 : ISh (sl0 V s f t o) := ISh_shU ish s0
  have k0 : I6 (sl0 V s f t o) := I6_shU h6
  have n0 : ns (sl0 V s f t o) = ns V := ns_shU
  have p0 : ∀ d, sl0 V s f t o 12 d 0 = V 12 d 0 := fun d => shU_o (by omega)
  have eMor : mor V s f t = (if f ≤ V 20 s 0 then 0 else 1) + (if V 21 s 0 ≤ t then 0 else 1) := rfl
  have D0 : ∀ c, smV (sl0 V s f t o) c (ns (sl0 V s f t o)) = smV V c (ns V) - ctr V c s + ctN c (V 19 s 0) f t := fun c => D_shU hs
  generalize hW : sl1 (sl0 V s f t o) (V 20 s 0) (V 20 s 0) f (V 19 s 0) (V 22 s 0) = W at *
  have st1 : ISh W ∧ I6 W ∧ (ns W = ns V + if f ≤ V 20 s 0 then 0 else 1) ∧ (∀ d, W 12 d 0 = V 12 d 0) ∧ (∀ c, smV W c (ns W) = smV V c (ns V) - ctr V c s + ctN c (V 19 s 0) (V 20 s 0) t) ∧ (∀ a i j, a ≠ 6 → ¬ (19 ≤ a ∧ a ≤ 25) → W a i j = V a i j) := by
    unfold sl1 at hW
    by_cases hA : f ≤ V 20 s 0
    · rw [if_pos hA] at hW ⊢
      subst hW
      refine ⟨j0, k0, n0, p0, fun c => ?_, fun a i j ha hb => shU_o hb⟩
      rw [D0, i32_ge_eq (by rw [i32_lt]; exact g2) hA]
    · rw [if_neg hA] at hW eMor ⊢
      subst hW
      have hn0 : ns (sl0 V s f t o) < 60 := by rw [n0]; omega
      refine ⟨ISh_adU j0 hn0 ?_, I6_adU hn0, by rw [ns_adU hn0, n0], fun d => (adU_o (by omega) (by omega)).trans (p0 d), fun c => ?_, fun a i j ha hb => (adU_o ha hb).trans (shU_o hb)⟩
      · refine GS.to (V := V) ⟨⟨d, d1, d2, d3, by omega, ?_, by omega⟩, d7⟩ p0
        rw [i32_le] at hA
        omega
      · rw [D_adU hn0, D0]
        unfold ctN
        split <;> omega
  obtain ⟨j1, k1, n1, p1, D1, o1⟩ := st1
  have eV : slV V s f t o = sl2 W t (V 21 s 0) (V 19 s 0) (V 22 s 0) := by
    rw [← hW]; rfl
  rw [eV]
  unfold sl2
  have eqD : ∀ c, ctr V c s = ctN c (V 19 s 0) (V 20 s 0) (V 21 s 0) := fun c => rfl
  by_cases hB : V 21 s 0 ≤ t
  · rw [if_pos hB]
    have et : t = V 21 s 0 := by
      rw [i32_le] at hB
      rw [i32_eq]
      omega
    refine h.shr o1 k1 j1 (fun c hc hd => ?_)
    rw [p1] at hd ⊢
    rw [D1, et, ← isum c hc hd, eqD]
    omega
  · rw [if_neg hB] at eMor ⊢
    have hn1 : ns W < 60 := by
      rw [n1]
      by_cases hA : f ≤ V 20 s 0
      · rw [if_pos hA] at eMor ⊢; omega
      · rw [if_neg hA] at eMor ⊢; omega
    refine h.shr (fun a i j ha hb => (adU_o ha hb).trans (o1 a i j ha hb)) (I6_adU hn1) (ISh_adU j1 hn1 ?_) (fun c hc hd => ?_)
    · refine GS.to (V := V) ⟨⟨d, d1, d2, d3, by omega, ?_, by omega⟩, d7⟩ p1
      rw [i32_le] at hB
      omega
    · rw [adU_o (by omega) (by omega), p1] at hd ⊢
      rw [D_adU hn1, D1, ← isum c hc hd, eqD]
      unfold ctN
      split <;> omega
theorem sl_25 {V : Vw} {s : Nat} {f t o : Int32} {k : Nat} (hs : s < ns V) (h60 : ns V + mor V s f t ≤ 60) (h : 0 < slV V s f t o 25 k 0) : 0 < V 25 k 0 := by
  have sh : ∀ {W : Vw} {k' : Nat} {a b c d : Int32}, 0 < shU W k' a b c d 25 k 0 → 0 < W 25 k 0 := fun {W k' a b c d} g => by
    by_cases e : k = k'
    · rw [e, shU_25] at g
      exact absurd g (by decide)
    · rw [shU_n e] at g
      exact g
  have ad : ∀ {W : Vw} {a b c d : Int32}, 0 < adU W a b c d 25 k 0 → 0 < W 25 k 0 := fun {W a b c d} g => by
    rw [adU_s (by omega)] at g
    exact sh g
  unfold slV sl2 sl1 sl0 at h
  split at h
  · split at h
    · exact sh h
    · exact sh (ad h)
  · split at h
    · exact sh (ad h)
    · exact sh (ad (ad h))
theorem sl_12 {V : Vw} {s : Nat} {f t o : Int32} (a i j : Nat) (ha : a ≠ 6) (hb : ¬ (19 ≤ a ∧ a ≤ 25)) : slV V s f t o a i j = V a i j := by
  unfold slV sl2 sl1 sl0
  split
  · split
    · exact shU_o hb
    · exact (adU_o ha hb).trans (shU_o hb)
  · split
    · exact (adU_o ha hb).trans (shU_o hb)
    · exact (adU_o ha hb).trans ((adU_o ha hb).trans (shU_o hb))
theorem T_sell {q : Nat} {M : Mem} {p1 p2 p3 p4 : Int32} (h : Ok q M) (hq : q < 512) : P_X6_sell p1 p2 p3 p4 M (fun M1 => P_X7_sell p1 p2 p3 p4 M1 (fun M2 => M2 118 0 = 0 ∧ Ok (q + 1) M2)) (fun E M1 => (E = "java/lang/IndexOutOfBoundsException" ∧ P_X7_sell p1 p2 p3 p4 M1 (fun M2 => M2 118 0 = 1 ∧ Ok (q + 1) M2)) ∨ (E = "java/lang/IllegalStateException" ∧ P_X7_sell p1 p2 p3 p4 M1 (fun M2 => M2 118 0 = 2 ∧ Ok (q + 1) M2)) ∨ (E = "java/lang/IllegalArgumentException" ∧ P_X7_sell p1 p2 p3 p4 M1 (fun M2 => M2 118 0 = 3 ∧ Ok (q + 1) M2)) ∨ (E = "java/lang/UnsupportedOperationException" ∧ P_X7_sell p1 p2 p3 p4 M1 (fun M2 => M2 118 0 = 4 ∧ Ok (q + 1) M2))) := by
  have hV := h.2.1.1
  have h6 : I6 (VR M) := h.2.2.2.2.2.2.2.2.2.1
  have c6 : I6 (VC M) := by rw [hV]; exact h6
  have hn := (ns_eq h6).1
  refine ix_cases p1 (n := ns (VR M)) (by omega) (fun g => ?_) (fun s hs e => ?_)
  · intro J62 J78 J94 J105 J146 J171 hJ62 hJ78 hJ94 hJ105 hJ146 hJ171
    refine c_ul0 c6 (by rw [hV]; exact g) (Or.inl ⟨rfl, ?_⟩)
    intro J100 J101 J114 J125 J139 J164 J203 hJ100 hJ101 hJ114 hJ125 hJ139 hJ164 hJ203
    exact wr_thr (fun M1 f1 v1 a1 t1 => r_noSh0 (by rw [v1]; exact h6) (by rw [v1]; exact g) (fl1 h hq f1 v1 a1 (fun M3 h3 => ⟨fun _ => h3, fun h => absurd h (by decide)⟩)))
  · subst e
    have hs60 : s < 60 := by omega
    by_cases hl : ltV (VR M) s
    · intro J62 J78 J94 J105 J146 J171 hJ62 hJ78 hJ94 hJ105 hJ146 hJ171
      refine c_ul1 c6 (by rw [hV]; exact hs) (by rw [hV]; exact hl) (Or.inr (Or.inl ⟨rfl, ?_⟩))
      intro J100 J101 J114 J125 J139 J164 J203 hJ100 hJ101 hJ114 hJ125 hJ139 hJ164 hJ203
      exact wr_thr (fun M1 f1 v1 a1 t1 => r_noSh1 (by rw [v1]; exact h6) (by rw [v1]; exact hs) (thr0 ⟨fun h => absurd rfl h, fun _ => r_let hs60 (fun _ => fl1 h hq f1 v1 a1 (fun M3 h3 => br_f (by decide) h3)) (fun hn => absurd (by rw [v1]; exact hl) hn)⟩))
    · refine c_sell c6 (by rw [hV]; exact hs) (by rw [hV]; exact hl) (fun hb => Or.inr (Or.inr (Or.inl ⟨rfl, ?_⟩))) (fun hg h60 => Or.inr (Or.inr (Or.inr ⟨rfl, ?_⟩))) (fun hg h60 M1 f1 v1 a1 b1 => ?_)
      · rw [hV] at hb
        exact r_sell h6 hs hl (fun _ M2 f2 v2 a2 t2 => ⟨t2, h.same hq f2 v2 a2⟩) (fun hg => absurd hb hg) (fun hg => absurd hb hg)
      · rw [hV] at hg h60
        exact r_sell h6 hs hl (fun hb => absurd hb hg) (fun _ _ M2 f2 v2 a2 t2 => ⟨t2, h.same hq f2 v2 a2⟩) (fun _ h => absurd h (by omega))
      · rw [hV] at hg h60 v1
        have e1 : VR M1 = VR M := hi_VR f1
        refine r_sell (by rw [e1]; exact h6) (by rw [e1]; exact hs) (by rw [e1]; exact hl) (fun hb => absurd (by rw [e1] at hb; exact hb) hg) (fun _ h => by rw [e1] at h; omega) (fun _ _ M2 f2 v2 a2 t2 => ⟨t2, ?_⟩)
        rw [e1] at v2
        refine h.mk3 hq (by rw [lo_VC f2]; exact v1) v2 (by rw [a2, hi_AR f1]) (fun c => sl_12 12 c 0 (by omega) (by omega)) (fun k => by rw [lo_AC f2]; exact a1 k) (fun k hk h0 => ⟨sl_25 hs h60 h0, ?_⟩) (Inv_sell h.2.2.next hs h60 hg)
        rw [lo_AC f2]
        exact b1 k (by rw [v1]; exact h0)
