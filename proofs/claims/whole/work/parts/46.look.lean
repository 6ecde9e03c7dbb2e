/-! ===== looking things up ===== -/
theorem rng_bad {p : Int32} {n : Nat} (hn : n ≤ 1000) (h : p < 0 ∨ nI n ≤ p) : p < 0 ∨ nI n - 1 < p := by
  rcases h with h | h
  · exact Or.inl h
  · right
    have e : (nI n - 1).toInt = (nI n).toInt - (1 : Int32).toInt := sub_toInt (by rw [nI_toInt (by omega)]; have : (1 : Int32).toInt = 1 := rfl; omega)
    have e1 : (1 : Int32).toInt = 1 := rfl
    rw [i32_le] at h
    rw [i32_lt, e, e1]
    omega
theorem rng_ok {c n : Nat} (hn : n ≤ 1000) (h : c < n) : ¬ nI n - 1 < nI c := by
  have e : (nI n - 1).toInt = (nI n).toInt - (1 : Int32).toInt := sub_toInt (by rw [nI_toInt (by omega)]; have : (1 : Int32).toInt = 1 := rfl; omega)
  have e1 : (1 : Int32).toInt = 1 := rfl
  rw [i32_lt, e, e1, nI_toInt (by omega), nI_toInt (by omega)]
  omega
section LOOK
variable {M : Mem} {p w : Int32} {c s : Nat} {Q : Int32 → Mem → Prop} {QN : Nat → Mem → Prop} {X : String → Mem → Prop}
theorem r_noCh0 (h0 : I0 (VR M)) (h : p < 0 ∨ nI (nc (VR M)) ≤ p) (k : Q 1 M) : P_X7_noChannel p M Q := by
  obtain ⟨hn, en⟩ := nc_eq h0
  unfold P_X7_noChannel
  rw [rr_0 M, en]
  exact in0 (rng_bad (by omega) h) ⟨fun h => absurd rfl h, fun _ => k⟩
theorem r_noCh1 (h0 : I0 (VR M)) (h : c < nc (VR M)) (k : Q 0 M) : P_X7_noChannel (nI c) M Q := by
  obtain ⟨hn, en⟩ := nc_eq h0
  unfold P_X7_noChannel
  rw [rr_0 M, en]
  exact in1 (nI_pos (by omega)) (rng_ok (by omega) h) ⟨fun _ => k, fun h => absurd h (by decide)⟩
theorem r_noSh0 (h0 : I6 (VR M)) (h : p < 0 ∨ nI (ns (VR M)) ≤ p) (k : Q 1 M) : P_X7_noShare p M Q := by
  obtain ⟨hn, en⟩ := ns_eq h0
  unfold P_X7_noShare
  rw [rr_6 M, en]
  exact in0 (rng_bad (by omega) h) ⟨fun h => absurd rfl h, fun _ => k⟩
theorem r_noSh1 (h0 : I6 (VR M)) (h : c < ns (VR M)) (k : Q 0 M) : P_X7_noShare (nI c) M Q := by
  obtain ⟨hn, en⟩ := ns_eq h0
  unfold P_X7_noShare
  rw [rr_6 M, en]
  exact in1 (nI_pos (by omega)) (rng_ok (by omega) h) ⟨fun _ => k, fun h => absurd h (by decide)⟩
theorem r_noW0 (h0 : I0 (VR M)) (h : p < 0 ∨ nI (nc (VR M)) ≤ p) (k : Q 1 M) : P_X7_noWell p w M Q :=
  r_noCh0 h0 h ⟨fun _ => k, fun h => absurd h (by decide)⟩
theorem r_noW1 (h0 : I0 (VR M)) (h11 : I11 (VR M)) (hc : c < nc (VR M)) (h : w < 0 ∨ nI (nw (VR M) c) ≤ w) (k : Q 1 M) : P_X7_noWell (nI c) w M Q := by
  obtain ⟨hn, en⟩ := nc_eq h0
  obtain ⟨hm, em⟩ := nw_eq h11 c
  refine r_noCh1 h0 hc ⟨fun h => absurd rfl h, fun _ => ⟨vp_in_nI (by omega) (by omega), ?_⟩⟩
  rw [nI_clamp (by omega), rr_11 M (by omega), em]
  exact in0 (rng_bad (by omega) h) ⟨fun h => absurd rfl h, fun _ => k⟩
theorem r_noW2 (h0 : I0 (VR M)) (h11 : I11 (VR M)) (hc : c < nc (VR M)) (h : s < nw (VR M) c) (k : Q 0 M) : P_X7_noWell (nI c) (nI s) M Q := by
  obtain ⟨hn, en⟩ := nc_eq h0
  obtain ⟨hm, em⟩ := nw_eq h11 c
  refine r_noCh1 h0 hc ⟨fun h => absurd rfl h, fun _ => ⟨vp_in_nI (by omega) (by omega), ?_⟩⟩
  rw [nI_clamp (by omega), rr_11 M (by omega), em]
  exact in1 (nI_pos (by omega)) (rng_ok (by omega) h) ⟨fun _ => k, fun h => absurd h (by decide)⟩
theorem c_ch0 (h0 : I0 (VC M)) (h : p < 0 ∨ nI (nc (VC M)) ≤ p) (k : X "java/lang/IndexOutOfBoundsException" M) : P_X6_channelAt p M QN X := by
  obtain ⟨hn, en⟩ := nc_eq h0
  unfold P_X6_channelAt
  rw [rc_0 M, en]
  refine br_c (fun _ => k) (fun h1 => br_f ?_ k)
  have := h.resolve_left h1
  rw [i32_le] at this
  rw [i32_lt]
  omega
theorem c_ch1 (h0 : I0 (VC M)) (h : c < nc (VC M)) (k : QN c M) : P_X6_channelAt (nI c) M QN X := by
  obtain ⟨hn, en⟩ := nc_eq h0
  unfold P_X6_channelAt
  rw [rc_0 M, en]
  refine br_f (nI_pos (by omega)) (br_t (nI_lt h (by omega)) ⟨vp_in_nI (by omega) (by omega), ?_⟩)
  rw [nI_clamp (by omega)]
  exact k
theorem c_un0 (h0 : I0 (VC M)) (h : p < 0 ∨ nI (nc (VC M)) ≤ p) (k : X "java/lang/IndexOutOfBoundsException" M) : P_X6_undugAt p M QN X := c_ch0 h0 h k
theorem c_un1 (h0 : I0 (VC M)) (h : c < nc (VC M)) (hd : 0 < VC M 12 c 0) (k : X "java/lang/IllegalStateException" M) : P_X6_undugAt (nI c) M QN X := by
  have hn := (nc_eq h0).1
  refine c_ch1 h0 h (c_isDug (by omega) ?_)
  rw [if_pos hd]
  exact br_f (by decide) k
theorem c_un2 (h0 : I0 (VC M)) (h : c < nc (VC M)) (hd : ¬ 0 < VC M 12 c 0) (k : QN c M) : P_X6_undugAt (nI c) M QN X := by
  have hn := (nc_eq h0).1
  refine c_ch1 h0 h (c_isDug (by omega) ?_)
  rw [if_neg hd]
  exact br_t rfl k
theorem c_dg0 (h0 : I0 (VC M)) (h : p < 0 ∨ nI (nc (VC M)) ≤ p) (k : X "java/lang/IndexOutOfBoundsException" M) : P_X6_dugAt p M QN X := c_ch0 h0 h k
theorem c_dg1 (h0 : I0 (VC M)) (h : c < nc (VC M)) (hd : ¬ 0 < VC M 12 c 0) (k : X "java/lang/IllegalStateException" M) : P_X6_dugAt (nI c) M QN X := by
  have hn := (nc_eq h0).1
  refine c_ch1 h0 h (c_isDug (by omega) ?_)
  rw [if_neg hd]
  exact ⟨fun h => absurd rfl h, fun _ => k⟩
theorem c_dg2 (h0 : I0 (VC M)) (h : c < nc (VC M)) (hd : 0 < VC M 12 c 0) (k : QN c M) : P_X6_dugAt (nI c) M QN X := by
  have hn := (nc_eq h0).1
  refine c_ch1 h0 h (c_isDug (by omega) ?_)
  rw [if_pos hd]
  exact ⟨fun _ => k, fun h => absurd h (by decide)⟩
theorem c_dw0 (h0 : I0 (VC M)) (h : p < 0 ∨ nI (nc (VC M)) ≤ p) (k : X "java/lang/IndexOutOfBoundsException" M) : P_X6_dugWithWell p w M QN X := c_ch0 h0 h k
theorem c_dw1 (h0 : I0 (VC M)) (h11 : I11 (VC M)) (hc : c < nc (VC M)) (h : w < 0 ∨ nI (nw (VC M) c) ≤ w) (k : X "java/lang/IndexOutOfBoundsException" M) : P_X6_dugWithWell (nI c) w M QN X := by
  have hn := (nc_eq h0).1
  obtain ⟨hm, em⟩ := nw_eq h11 c
  refine c_ch1 h0 hc ?_
  rw [rc_11 M (by omega), em]
  refine br_c (fun _ => k) (fun h1 => br_f ?_ k)
  have := h.resolve_left h1
  rw [i32_le] at this
  rw [i32_lt]
  omega
theorem c_dw2 (h0 : I0 (VC M)) (h11 : I11 (VC M)) (hc : c < nc (VC M)) (h : s < nw (VC M) c) (hd : ¬ 0 < VC M 12 c 0) (k : X "java/lang/IllegalStateException" M) : P_X6_dugWithWell (nI c) (nI s) M QN X := by
  have hn := (nc_eq h0).1
  obtain ⟨hm, em⟩ := nw_eq h11 c
  refine c_ch1 h0 hc ?_
  rw [rc_11 M (by omega), em]
  refine br_f (nI_pos (by omega)) (br_t (nI_lt h (by omega)) (c_isDug (by omega) ?_))
  rw [if_neg hd]
  exact ⟨fun h => absurd rfl h, fun _ => k⟩
theorem c_dw3 (h0 : I0 (VC M)) (h11 : I11 (VC M)) (hc : c < nc (VC M)) (h : s < nw (VC M) c) (hd : 0 < VC M 12 c 0) (k : QN c M) : P_X6_dugWithWell (nI c) (nI s) M QN X := by
  have hn := (nc_eq h0).1
  obtain ⟨hm, em⟩ := nw_eq h11 c
  refine c_ch1 h0 hc ?_
  rw [rc_11 M (by omega), em]
  refine br_f (nI_pos (by omega)) (br_t (nI_lt h (by omega)) (c_isDug (by omega) ?_))
  rw [if_pos hd]
  exact ⟨fun _ => k, fun h => absurd h (by decide)⟩
theorem c_sh0 (h0 : I6 (VC M)) (h : p < 0 ∨ nI (ns (VC M)) ≤ p) (k : X "java/lang/IndexOutOfBoundsException" M) : P_X6_shareAt p M QN X := by
  obtain ⟨hn, en⟩ := ns_eq h0
  unfold P_X6_shareAt
  rw [rc_6 M, en]
  refine br_c (fun _ => k) (fun h1 => br_f ?_ k)
  have := h.resolve_left h1
  rw [i32_le] at this
  rw [i32_lt]
  omega
theorem c_sh1 (h0 : I6 (VC M)) (h : s < ns (VC M)) (k : QN s M) : P_X6_shareAt (nI s) M QN X := by
  obtain ⟨hn, en⟩ := ns_eq h0
  unfold P_X6_shareAt
  rw [rc_6 M, en]
  refine br_f (nI_pos (by omega)) (br_t (nI_lt h (by omega)) ⟨vp_in_nI (by omega) (by omega), ?_⟩)
  rw [nI_clamp (by omega)]
  exact k
/-- a share is let now -/
def ltV (V : Vw) (s : Nat) : Prop := ¬ V 25 s 0 ≤ V 5 0 0
theorem c_let (hs : s < 60) (hy : ltV (VC M) s → Q 1 M) (hn : ¬ ltV (VC M) s → Q 0 M) : P_X4_isLetFrom s (M 0 12) M Q := by
  unfold P_X4_isLetFrom
  rw [rc_25 M hs, rc_5 M]
  exact br_c (fun h => hn (fun h2 => h2 h)) (fun h => hy h)
theorem r_let (hs : s < 60) (hy : ltV (VR M) s → Q 1 M) (hn : ¬ ltV (VR M) s → Q 0 M) : P_X7_isLet (nI s) M Q := by
  unfold P_X7_isLet
  rw [show (6 : Int32) = nI 6 from rfl, ix7, nI_clamp (by omega), rr_25 M hs, rr_5 M]
  exact ⟨vp_in_nI (by omega) (by omega), br_c (fun h => hn (fun h2 => h2 h)) (fun h => hy h)⟩
theorem c_ul0 (h0 : I6 (VC M)) (h : p < 0 ∨ nI (ns (VC M)) ≤ p) (k : X "java/lang/IndexOutOfBoundsException" M) : P_X6_unletAt p M QN X := c_sh0 h0 h k
theorem c_ul1 (h0 : I6 (VC M)) (h : s < ns (VC M)) (hl : ltV (VC M) s) (k : X "java/lang/IllegalStateException" M) : P_X6_unletAt (nI s) M QN X := by
  have hn := (ns_eq h0).1
  exact c_sh1 h0 h (c_let (by omega) (fun _ => br_f (by decide) k) (fun h => absurd hl h))
theorem c_ul2 (h0 : I6 (VC M)) (h : s < ns (VC M)) (hl : ¬ ltV (VC M) s) (k : QN s M) : P_X6_unletAt (nI s) M QN X := by
  have hn := (ns_eq h0).1
  exact c_sh1 h0 h (c_let (by omega) (fun h => absurd h hl) (fun _ => br_t rfl k))
theorem ow1 (h1 : ¬ p < 0) (h2 : ¬ 30 < p) (k : Q 1 M) : P_X6_isOwner p M Q := wi1 h1 h2 ⟨Or.inr rfl, k⟩
theorem ow0 (h1 : p < 0 ∨ 30 < p) (k : Q 0 M) : P_X6_isOwner p M Q := wi0 h1 ⟨Or.inl rfl, k⟩
theorem no1 (h1 : p < 0 ∨ 30 < p) (k : Q 1 M) : P_X7_noOwner p M Q := in0 h1 ⟨fun h => absurd rfl h, fun _ => k⟩
theorem no0 (h1 : ¬ p < 0) (h2 : ¬ 30 < p) (k : Q 0 M) : P_X7_noOwner p M Q := in1 h1 h2 ⟨fun _ => k, fun h => absurd h (by decide)⟩
end LOOK
