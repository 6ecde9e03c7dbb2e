/-! ===== what holds between two calls ===== -/
def I12 (V : Vw) : Prop := ∀ c, rg (V 12 c 0) 0 21600
def I6 (V : Vw) : Prop := ∃ n, n ≤ 60 ∧ V 6 0 0 = nI n
def ns (V : Vw) : Nat := (V 6 0 0).toNatClampNeg
theorem ns_eq {V : Vw} (h : I6 V) : ns V ≤ 60 ∧ V 6 0 0 = nI (ns V) := by
  obtain ⟨n, hn, e⟩ := h
  unfold ns
  rw [e, nI_clamp (by omega)]
  exact ⟨hn, rfl⟩
def ISh (V : Vw) : Prop := ∀ s, s < ns V → (∃ c, c < 8 ∧ V 19 s 0 = nI c ∧ 0 < V 12 c 0 ∧ 0 ≤ (V 20 s 0).toInt ∧ (V 20 s 0).toInt < (V 21 s 0).toInt ∧ (V 21 s 0).toInt ≤ (V 12 c 0).toInt) ∧ rg (V 22 s 0) 0 30
noncomputable def smV (V : Vw) (c : Nat) (n : Nat) : Int := Nat.rec (motive := fun _ => Int) 0 (fun s a => a + if V 19 s 0 = nI c then (V 21 s 0).toInt - (V 20 s 0).toInt else 0) n
theorem smV_s (V : Vw) (c s : Nat) : smV V c (s + 1) = smV V c s + if V 19 s 0 = nI c then (V 21 s 0).toInt - (V 20 s 0).toInt else 0 := rfl
def ISum (V : Vw) : Prop := ∀ c, c < 8 → 0 < V 12 c 0 → smV V c (ns V) = (V 12 c 0).toInt
def IFd (V : Vw) : Prop := (∃ n, n ≤ 9 ∧ V 26 0 0 = nI n) ∧ ∀ f, rg (V 27 f 0) 0 1000 ∧ rg (V 28 f 0) 0 10000 ∧ rg (V 29 f 0) 0 100
def I8 (V : Vw) : Prop := ∃ n, n ≤ 400 ∧ V 8 0 0 = nI n
def Inv (q : Nat) (V : Vw) : Prop := I0 V ∧ I11 V ∧ I15 V ∧ (I4 V ∧ (V 4 0 0).toInt ≤ 100 * (q : Int)) ∧ I14 V ∧ I10 V ∧ I12 V ∧ I6 V ∧ ISh V ∧ ISum V ∧ IFd V ∧ I8 V
def Sm (M : Mem) : Prop := VC M = VR M ∧ Dg M ∧ (∀ k, k < 400 → rg (AuR M 0 k) (-128) 127 ∧ AuC M 0 k = AuR M 0 k &&& 255) ∧ (∀ s, s < 60 → 0 < VR M 25 s 0 → AuC M 1 s = AuR M 1 s)
def Ok (q : Nat) (M : Mem) : Prop := q ≤ 512 ∧ Sm M ∧ Inv q (VR M)
/-- a step that leaves the views' tape, tenants and diggings as they were -/
theorem Ok.mk1 {q : Nat} {M M' : Mem} {V : Vw} (h : Ok q M) (hq : q < 512) (hC : VC M' = V) (hR : VR M' = V) (hAC : AuC M' = AuC M) (hAR : AuR M' = AuR M) (h12 : ∀ c, V 12 c 0 = VR M 12 c 0) (h25 : ∀ s, 0 < V 25 s 0 → 0 < VR M 25 s 0) (hI : Inv (q + 1) V) : Ok (q + 1) M' := by
  obtain ⟨-, ⟨-, hD, hT, hN⟩, -⟩ := h
  refine ⟨by omega, ⟨hC.trans hR.symm, fun c hc => ?_, fun k hk => ?_, fun s hs h0 => ?_⟩, by rw [hR]; exact hI⟩
  · rw [hAR, hR, h12]; exact hD c hc
  · rw [hAC, hAR]; exact hT k hk
  · rw [hAC, hAR]; rw [hR] at h0; exact hN s hs (h25 s h0)
theorem Inv.next {q : Nat} {V : Vw} (h : Inv q V) : Inv (q + 1) V := by
  obtain ⟨h0, h11, h15, ⟨h4, h4q⟩, hr⟩ := h
  exact ⟨h0, h11, h15, ⟨h4, by omega⟩, hr⟩
theorem Ok.same {q : Nat} {M M' : Mem} (h : Ok q M) (hq : q < 512) (f : Lo M M') (v : VR M' = VR M) (a : AuR M' = AuR M) : Ok (q + 1) M' :=
  h.mk1 hq ((lo_VC f).trans h.2.1.1) v (lo_AC f) a (fun _ => rfl) (fun _ h => h) h.2.2.next
theorem T_ground {q : Nat} {M : Mem} {p1 p2 : Int32} (h : Ok q M) (hq : q < 512) : P_X6_ground p1 p2 M (fun M1 => P_X7_ground p1 p2 M1 (fun M2 => M2 118 0 = 0 ∧ Ok (q + 1) M2)) (fun E M1 => E = "java/lang/IllegalArgumentException" ∧ P_X7_ground p1 p2 M1 (fun M2 => M2 118 0 = 1 ∧ Ok (q + 1) M2)) := by
  have bad : (p1 < 0 ∨ 2000 < p1) ∨ (p2 < 0 ∨ 20 < p2) → P_X7_ground p1 p2 M (fun M2 => M2 118 0 = 1 ∧ Ok (q + 1) M2) := fun g => by
    intro J27 J32 hJ27 hJ32
    refine wr_thr (fun M1 f1 v1 a1 t1 => ?_)
    have fin : ∀ M1, Lo M M1 → VR M1 = VR M → AuR M1 = AuR M → J27 M1 := fun M1 f1 v1 a1 => by
      apply hJ27
      apply hJ32
      refine thr1 (wr_thr (fun M2 f2 v2 a2 t2 => br_f (by decide) ⟨t2, h.same hq (f1.tr f2) (v2.trans v1) (a2.trans a1)⟩))
    by_cases g1 : p1 < 0 ∨ 2000 < p1
    · exact in0 g1 (br_t rfl (fin _ f1 v1 a1))
    · refine in1 (fun h => g1 (Or.inl h)) (fun h => g1 (Or.inr h)) (br_f (by decide) (in0 (g.resolve_left g1) ⟨fun h => absurd rfl h, fun _ => fin _ f1 v1 a1⟩))
  by_cases g1 : p1 < 0 ∨ 2000 < p1
  · exact wi0 g1 (br_t rfl ⟨rfl, bad (Or.inl g1)⟩)
  · refine wi1 (fun h => g1 (Or.inl h)) (fun h => g1 (Or.inr h)) (br_f (by decide) ?_)
    by_cases g2 : p2 < 0 ∨ 20 < p2
    · exact wi0 g2 ⟨fun h => absurd rfl h, fun _ => ⟨rfl, bad (Or.inr g2)⟩⟩
    · refine wi1 (fun h => g2 (Or.inl h)) (fun h => g2 (Or.inr h)) ⟨fun _ => ?_, fun h => absurd h (by decide)⟩
      refine wc_2 (fun M1 f1 v1 a1 => wc_3 (fun M2 f2 v2 a2 => ?_))
      intro J27 J32 hJ27 hJ32
      refine wr_thr (fun M3 f3 v3 a3 t3 => in1 (fun h => g1 (Or.inl h)) (fun h => g1 (Or.inr h)) (br_f (by decide) (in1 (fun h => g2 (Or.inl h)) (fun h => g2 (Or.inr h)) ⟨fun _ => ?_, fun h => absurd h (by decide)⟩)))
      apply hJ32
      refine thr0 (br_t rfl ?_)
      refine wr_2 (fun M4 f4 v4 a4 t4 => wr_3 (fun M5 f5 v5 a5 t5 => ?_))
      refine ⟨by rw [t5, t4, t3], h.mk1 (V := vu (vu (VR M) 2 0 0 p1) 3 0 0 p2) hq ?_ ?_ ?_ ?_ (fun _ => rfl) (fun _ h => h) ?_⟩
      · rw [lo_VC f5, lo_VC f4, lo_VC f3, v2, v1, h.2.1.1]
      · rw [v5, v4, v3, hi_VR f2, hi_VR f1]
      · rw [lo_AC f5, lo_AC f4, lo_AC f3, a2, a1]
      · rw [a5, a4, a3, hi_AR f2, hi_AR f1]
      · obtain ⟨h0, h11, h15, ⟨⟨h4a, h4b, h4c, h4d⟩, h4q⟩, hr⟩ := h.2.2.next
        refine ⟨h0, h11, h15, ⟨⟨?_, ?_, h4c, h4d⟩, h4q⟩, hr⟩
        · rw [i32_lt, i32_lt] at g1
          have : (2000 : Int32).toInt = 2000 := rfl
          show rg p1 0 2000
          unfold rg
          rw [t0, this] at g1
          omega
        · rw [i32_lt, i32_lt] at g2
          have : (20 : Int32).toInt = 20 := rfl
          show rg p2 0 20
          unfold rg
          rw [t0, this] at g2
          omega
