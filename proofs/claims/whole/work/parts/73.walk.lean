/-! ===== the law from its entry ===== -/
theorem dv_X6 : ∀ j, j < 16 → defaultValue (tyX6 j) = vp_V [.null, .null, .null, .int 0, .null, .int 0, .int 0, .int 0, .int 0, .int 0, .null, .int 0, .int 0, .null, .null, .null] j := by decide +kernel
theorem dv_X7 : ∀ j, j < 36 → defaultValue (tyX7 j) = vp_V [.int 0, .int 0, .int 0, .int 0, .int 0, .null, .null, .null, .null, .null, .int 0, .int 0, .null, .null, .null, .null, .null, .int 0, .null, .null, .null, .null, .null, .null, .int 0, .int 0, .int 0, .int 0, .int 0, .null, .null, .null, .null, .null, .int 0, .null] j := by decide +kernel
set_option maxRecDepth 100000 in
theorem w_L_k8 : Cond.classLink RL 8 RX6 ∈ wsL_law_ := by decide +kernel
set_option maxRecDepth 100000 in
theorem w_L_nX6 : Cond.instantiable RX6 16 ∈ wsL_law_ := by decide +kernel
set_option maxRecDepth 100000 in
theorem w_L_iX6 : Cond.initialized RX6 ∈ wsL_law_ := by decide +kernel
set_option maxRecDepth 100000 in
theorem w_L_k90 : Cond.classLink RL 90 RX7 ∈ wsL_law_ := by decide +kernel
set_option maxRecDepth 100000 in
theorem w_L_nX7 : Cond.instantiable RX7 36 ∈ wsL_law_ := by decide +kernel
set_option maxRecDepth 100000 in
theorem w_L_iX7 : Cond.initialized RX7 ∈ wsL_law_ := by decide +kernel
set_option maxRecDepth 100000 in
theorem w_L_m89 : Cond.methodLink RL 89 yX6_init ∈ wsL_law_ := by decide +kernel
set_option maxRecDepth 100000 in
theorem w_L_m92 : Cond.methodLink RL 92 yX7_init ∈ wsL_law_ := by decide +kernel
set_option maxRecDepth 100000 in
theorem w_L_im6 : Cond.instanceMethod yX6_init ∈ wsL_law_ := by decide +kernel
set_option maxRecDepth 100000 in
theorem w_L_im7 : Cond.instanceMethod yX7_init ∈ wsL_law_ := by decide +kernel
set_option maxRecDepth 100000 in
theorem w_L_acL : Cond.arrayClass .long ∈ wsL_law_ := by decide +kernel
theorem in_L_X6 : ∀ w ∈ wsX60, w ∈ wsL_law_ := fun w hw => (gL_law__X6_init w (in_X6_init_X6 w hw)).1
theorem in_L_X7 : ∀ w ∈ wsX70, w ∈ wsL_law_ := fun w hw => (gL_law__X7_init w (in_X7_init_X7 w hw)).1
theorem wM_inj {G : Gx} {A : Nat → Prop} {ad : Nat → Nat} {lf : Nat → Int64} {M : Mem} (h : va_D A (wM ad (gc G) lf M)) : Inj ad := fun i j hi hj e => h.1 i j _ _ (wM_at hi) (wM_at hj) e
set_option maxRecDepth 20000 in
set_option maxHeartbeats 4000000 in
theorem law_walk {K : Kx} {G : Gx} {b L : Nat} {xs : Nat → Int32} (hst : (gl G).stackTraces = false) (C : Cx K G code 7 RL ret wsL_law_ room_1) (hX : Sc K G b L xs) (hL : L ≤ 5632)
    (hfin : ∀ cn sn lv ws, cn ≤ 601024 → sn ≤ 7293034 → Ev K G 7 cn sn 1747 lv [] ws) : Ev K G 7 0 0 0 [some (.ref b), none, none, none, none, none, none] [] [] := by
  have h0 : Stt (gc G) 0 (fun _ => 0) Sf [] := ⟨rfl, fun k hk => absurd hk (Nat.not_lt_zero _)⟩
  refine f_newO C (ci := 6) (CN := RX6) (TT := TX6) (N := 16) tyX6 dL_law__0 (pc' := 3) rfl in_L_X6 tyX6_ok w_L_k8 w_L_nX6 w_L_iX6 rfl dv_X6 (by decide) (by decide) (cn' := 1) (sn' := 16) rfl rfl (T := fun q ws => ∃ ad, ad 0 = q ∧ Stt (gc G) 1 ad (upS Sf 0 (.inl (6, o0L))) ws) (t_NO h0 o0L rfl (fun r hr => by simp [o0L, zz] at hr) (fun q ws' ad' _ e h => ⟨ad', e, h⟩)) (fun q ws h => ?_)
  obtain ⟨ad, ea, h⟩ := h
  refine e_dup C rfl dL_law__3 (pc' := 4) rfl ?_
  refine e_callv (Q := fun ws => ∃ ad', ad' 0 = q ∧ Stt (gc G) 118 ad' Sf ws) (run_I (n := 0) C (m_X6_init hst (i_X6 h ea.symm (fun ws' ad' g h' => ⟨ad', (g 0 (by omega)).trans ea, h'⟩))) gL_law__X6_init rfl w_L_iX6 w_L_m89 w_L_im6 rfl ⟨by decide, by decide, by decide +kernel⟩ ⟨by decide, by decide⟩ rfl (Nat.le_of_ble_eq_true rfl) dL_law__4 ⟨by decide, by decide⟩ (As := []) rfl) (pc' := 7) rfl (cn' := 201) (sn' := 4016) rfl rfl (fun ws h2 => ?_)
  obtain ⟨ad2, ea2, h2⟩ := h2
  refine e_astore_n C (by decide) dL_law__7 (pc' := 8) rfl (lv' := [some (.ref b), some (.ref q), none, none, none, none, none]) rfl ?_
  refine f_newO C (ci := 7) (CN := RX7) (TT := TX7) (N := 36) tyX7 dL_law__8 (pc' := 11) rfl in_L_X7 tyX7_ok w_L_k90 w_L_nX7 w_L_iX7 rfl dv_X7 (by decide) (by decide) (cn' := 202) (sn' := 4052) rfl rfl (T := fun q2 ws => ∃ ad, ad 0 = q ∧ ad 118 = q2 ∧ Stt (gc G) 119 ad (upS Sf 118 (.inl (7, m0L))) ws) (t_NO h2 m0L rfl (fun r hr => by simp [m0L, zz] at hr) (fun q2 ws' ad' g e h => ⟨ad', (g 0 (by omega)).trans ea2, e, h⟩)) (fun q2 ws h3 => ?_)
  obtain ⟨ad3, ea3, eb3, h3⟩ := h3
  refine e_dup C rfl dL_law__11 (pc' := 12) rfl ?_
  refine e_callv (Q := fun ws => ∃ ad', ad' 0 = q ∧ ad' 118 = q2 ∧ Stt (gc G) 141 ad' Sf ws) (run_I (n := 0) C (m_X7_init hst (i_X7 h3 eb3.symm (fun ws' ad' g h' => ⟨ad', (g 0 (by omega)).trans ea3, (g 118 (by omega)).trans eb3, h'⟩))) gL_law__X7_init rfl w_L_iX7 w_L_m92 w_L_im7 rfl ⟨by decide, by decide, by decide +kernel⟩ ⟨by decide, by decide⟩ rfl (Nat.le_of_ble_eq_true rfl) dL_law__12 ⟨by decide, by decide⟩ (As := []) rfl) (pc' := 15) rfl (cn' := 224) (sn' := 6147) rfl rfl (fun ws h4 => ?_)
  obtain ⟨ad4, ea4, eb4, h4⟩ := h4
  refine e_astore_n C (by decide) dL_law__15 (pc' := 16) rfl (lv' := [some (.ref b), some (.ref q), some (.ref q2), none, none, none, none]) rfl ?_
  refine e_iconst C (v := (1 : Int32)) (by decide) dL_law__16 (pc' := 17) rfl ?_
  refine f_newL C (N := 1) dL_law__17 (pc' := 19) rfl w_L_acL (by decide) (by decide) (by decide) (by decide) (by decide) (cn' := 225) (sn' := 6148) rfl rfl (T := fun q3 ws => ∃ ad, ad 0 = q ∧ ad 118 = q2 ∧ ad 141 = q3 ∧ ws = wM ad (gc G) (fun _ => 0) M0) (fun q3 => ?_) (fun q3 ws h5 => ?_)
  · obtain ⟨ad', g, e, h'⟩ := h4.fin (q := q3)
    exact ⟨ad', (g 0 (by omega)).trans ea4, (g 118 (by omega)).trans eb4, e, h'⟩
  clear h4 eb4 ea4 h3 eb3 ea3 h2 ea2 h ea
  obtain ⟨ad, ea, eb, ec, h⟩ := h5
  subst ea
  subst eb
  subst ec
  subst h
  refine e_astore_n C (by decide) dL_law__19 (pc' := 20) rfl (lv' := [some (.ref b), some (.ref (ad 0)), some (.ref (ad 118)), some (.ref (ad 141)), none, none, none]) rfl ?_
  refine e_iconst C (v := (0 : Int32)) (by decide) dL_law__20 (pc' := 21) rfl ?_
  refine e_istore C (by decide) dL_law__21 (pc' := 23) rfl (lv' := [some (.ref b), some (.ref (ad 0)), some (.ref (ad 118)), some (.ref (ad 141)), some (.int (nI (11 * 0))), none, none]) rfl ?_
  have key : Inj ad → Ev K G 7 225 6148 23 [some (.ref b), some (.ref (ad 0)), some (.ref (ad 118)), some (.ref (ad 141)), some (.int (nI (11 * 0))), none, none] [] (wM ad (gc G) (fun _ => 0) M0) := fun hA =>
    law_loop_open (Ok := Ok) hst C hX hL (fun c q cn sn M lf hc hq hO => k_all hA hO hq hL hc) (fun q M hq hO => hO.same (by omega) Lo.rfl' rfl rfl) hfin 513 0 M0 (fun _ => 0) 225 6148 (by omega) (by omega) Ok_0 (by omega) (by omega)
  obtain ⟨p, e, R, s, m, args, below, meth, c, Q⟩ := K
  intro H ls locs hl hP hD hS
  exact key (wM_inj hD) H ls locs hl hP hD hS
