def L_7 (G : Gx) (L : Nat) (xs : Nat → Int32) (x m o : Nat) (i : Int32) (cn sn : Nat) (ws : va_W) (N : Nat → Nat → va_W → Prop) : Prop := ∀ (J634 : Nat → Nat → va_W → Prop), (∀ (cn : Nat) (sn : Nat) (ws : va_W), N cn sn ws → J634 cn sn ws) → qX L xs (i + (1 : Int32)) (fun v1 => (F_L_years G x v1 o ws (fun v2 ws => qX L xs (i + (1 : Int32)) (fun v3 => (qV 7 m ws ∧ F_X7_years G m v3 ws (fun v4 ws => (qV 7 m ws ∧ F_X7_thrown G m ws (fun v5 ws => ((v5 = v2 → ((¬ v2 = 0 → J634 (cn + 1) (sn + 6) ws) ∧ (v2 = 0 → qLa (gc G 5) o (0 : Int32) ws (fun v6 => (((lg_cmp v6 v4.toInt64) = 0 → J634 (cn + 1) (sn + 6) ws) ∧ (¬ (lg_cmp v6 v4.toInt64) = 0 → False)))))) ∧ (¬ v5 = v2 → False))))))))))
set_option maxRecDepth 20000 in
set_option maxHeartbeats 4000000 in
theorem lc_7 {K : Kx} {G : Gx} {b L x m o cn sn : Nat} {xs : Nat → Int32} {i : Int32} {ws : va_W} {N : Nat → Nat → va_W → Prop} (hst : (gl G).stackTraces = false) (C : Cx K G code 7 RL ret wsL_law_ room_1) (hX : Sc K G b L xs) (hcn : cn + 20 ≤ 601024) (hsn : sn + 200 ≤ 7293034)
    (hN : ∀ cn sn ws, N cn sn ws → Ev K G 7 cn sn 1741 [some (.ref b), some (.ref x), some (.ref m), some (.ref o), some (.int i), none, none] [] ws) (h : L_7 G L xs x m o i cn sn ws N) : Ev K G 7 cn sn 581 [some (.ref b), some (.ref x), some (.ref m), some (.ref o), some (.int i), none, none] [] ws := by
  replace h := h (fun cn sn ws => (cn + 16 ≤ 601024 ∧ sn + 160 ≤ 7293034) → Ev K G 7 cn sn 634 [some (.ref b), some (.ref x), some (.ref m), some (.ref o), some (.int i), none, none] [] ws)
  replace h := h (by
    intro cn sn ws h hb9
    obtain ⟨hcn9, hsn9⟩ := hb9
    show Ev K G 7 cn sn 634 [some (.ref b), some (.ref x), some (.ref m), some (.ref o), some (.int i), none, none] [] ws
    refine e_goto C (tg := 1741) dL_law__634 (by decide) ?_
    exact hN _ _ _ h)
  refine e_aload_n C (x := x) rfl dL_law__581 (pc' := 582) rfl ?_
  refine e_aload_n C (x := b) rfl dL_law__582 (pc' := 583) rfl ?_
  refine e_iload C (x := i) rfl dL_law__583 (pc' := 585) rfl ?_
  refine e_iconst C (v := (1 : Int32)) (by decide) dL_law__585 (pc' := 586) rfl ?_
  refine e_iadd C dL_law__586 (pc' := 587) rfl ?_
  refine f_sld C hX dL_law__587 (pc' := 588) rfl h (fun v1 h => ?_)
  refine e_aload_n C (x := o) rfl dL_law__588 (pc' := 589) rfl ?_
  refine e_calli (run_SW (n := 3) C (m_L_years hst h) gL_law__L_years rfl ⟨by decide, by decide, by decide +kernel⟩ ⟨by decide, by decide⟩ rfl (Nat.le_of_ble_eq_true rfl) dL_law__589 ⟨(by show cn + 1 ≤ 601024; omega), (by show sn + 6 ≤ 7293034; omega)⟩ (As := [.ref x, .int v1, .ref o]) rfl) (pc' := 592) rfl (cn' := cn + 1) (sn' := sn + 6) rfl rfl (fun v2 ws h => ?_)
  refine e_istore C (by decide) dL_law__592 (pc' := 594) rfl (lv' := [some (.ref b), some (.ref x), some (.ref m), some (.ref o), some (.int i), some (.int v2), none]) rfl ?_
  refine e_aload_n C (x := m) rfl dL_law__594 (pc' := 595) rfl ?_
  refine e_aload_n C (x := b) rfl dL_law__595 (pc' := 596) rfl ?_
  refine e_iload C (x := i) rfl dL_law__596 (pc' := 598) rfl ?_
  refine e_iconst C (v := (1 : Int32)) (by decide) dL_law__598 (pc' := 599) rfl ?_
  refine e_iadd C dL_law__599 (pc' := 600) rfl ?_
  refine f_sld C hX dL_law__600 (pc' := 601) rfl h (fun v3 h => ?_)
  obtain ⟨hv, h⟩ := h
  refine e_calli (run_V (n := 1) C (m_X7_years hst h) gL_law__X7_years rfl ⟨rfl, by decide, by decide, by decide +kernel⟩ ⟨by decide, by decide⟩ (ci := 7) rfl rfl hv rfl (Nat.le_of_ble_eq_true rfl) dL_law__601 ⟨(by show cn + 1 ≤ 601024; omega), (by show sn + 6 ≤ 7293034; omega)⟩ (As := [.int v3]) rfl) (pc' := 604) rfl (cn' := cn + 1) (sn' := sn + 6) rfl rfl (fun v4 ws h => ?_)
  refine e_istore C (by decide) dL_law__604 (pc' := 606) rfl (lv' := [some (.ref b), some (.ref x), some (.ref m), some (.ref o), some (.int i), some (.int v2), some (.int v4)]) rfl ?_
  refine e_aload_n C (x := m) rfl dL_law__606 (pc' := 607) rfl ?_
  obtain ⟨hv, h⟩ := h
  refine e_calli (run_V (n := 0) C (m_X7_thrown hst h) gL_law__X7_thrown rfl ⟨rfl, by decide, by decide, by decide +kernel⟩ ⟨by decide, by decide⟩ (ci := 7) rfl rfl hv rfl (Nat.le_of_ble_eq_true rfl) dL_law__607 ⟨(by show cn + 1 ≤ 601024; omega), (by show sn + 6 ≤ 7293034; omega)⟩ (As := []) rfl) (pc' := 610) rfl (cn' := cn + 1) (sn' := sn + 6) rfl rfl (fun v5 ws h => ?_)
  refine e_iload C (x := v2) rfl dL_law__610 (pc' := 612) rfl ?_
  refine e_icmp_eq C (tg := 617) dL_law__612 (by decide) (pc' := 615) rfl (fun hc => ?_) (fun hc => ?_)
  · replace h := h.1 hc
    refine e_iload C (x := v2) rfl dL_law__617 (pc' := 619) rfl ?_
    refine e_if_ne C (tg := 634) dL_law__619 (by decide) (pc' := 622) rfl (fun hc => ?_) (fun hc => ?_)
    · replace h := h.1 hc
      refine e_mask [true, true, true, true, true, false, false] (lv' := [some (.ref b), some (.ref x), some (.ref m), some (.ref o), some (.int i), none, none]) rfl ?_
      exact h ⟨by omega, by omega⟩
    · replace h := h.2 hc
      refine e_aload_n C (x := o) rfl dL_law__622 (pc' := 623) rfl ?_
      refine e_iconst C (v := (0 : Int32)) (by decide) dL_law__623 (pc' := 624) rfl ?_
      refine f_laload C dL_law__624 (pc' := 625) rfl h (fun v6 h => ?_)
      refine e_iload C (x := v4) rfl dL_law__625 (pc' := 627) rfl ?_
      refine e_i2l C dL_law__627 (pc' := 628) rfl ?_
      refine e_lcmp C dL_law__628 (pc' := 629) rfl ?_
      refine e_if_eq C (tg := 634) dL_law__629 (by decide) (pc' := 632) rfl (fun hc => ?_) (fun hc => ?_)
      · replace h := h.1 hc
        refine e_mask [true, true, true, true, true, false, false] (lv' := [some (.ref b), some (.ref x), some (.ref m), some (.ref o), some (.int i), none, none]) rfl ?_
        exact h ⟨by omega, by omega⟩
      · replace h := h.2 hc
        refine e_iconst C (v := (0 : Int32)) (by decide) dL_law__632 (pc' := 633) rfl ?_
        exact h.elim
  · replace h := h.2 hc
    refine e_iconst C (v := (0 : Int32)) (by decide) dL_law__615 (pc' := 616) rfl ?_
    exact h.elim
def L_8 (G : Gx) (L : Nat) (xs : Nat → Int32) (x m o : Nat) (i : Int32) (cn sn : Nat) (ws : va_W) (N : Nat → Nat → va_W → Prop) : Prop := ∀ (J664 : Int32 → Int32 → Int32 → Nat → Nat → Nat → va_W → Prop), ∀ (J697 : Int32 → Int32 → Int32 → Int32 → Nat → Nat → Nat → va_W → Prop), ∀ (J737 : Nat → Nat → va_W → Prop), ∀ (J731 : Int64 → Int64 → Nat → Nat → va_W → Prop), (∀ (t0 : Int32) (t1 : Int32) (t2 : Int32) (t3 : Nat) (cn : Nat) (sn : Nat) (ws : va_W), (F_L_collapse G t3 t2 t1 t0 o ws (fun v4 ws => qX L xs (i + (1 : Int32)) (fun v5 => qX L xs (i + (2 : Int32)) (fun v6 => qX L xs (i + (3 : Int32)) (fun v7 => ((v7 = 0 → J697 v4 (0 : Int32) v6 v5 m (cn + 2) (sn + 12) ws) ∧ (¬ v7 = 0 → J697 v4 (1 : Int32) v6 v5 m (cn + 2) (sn + 12) ws))))))) → J664 t0 t1 t2 t3 cn sn ws) → (∀ (x5 : Int32) (t0 : Int32) (t1 : Int32) (t2 : Int32) (t3 : Nat) (cn : Nat) (sn : Nat) (ws : va_W), (qV 7 t3 ws ∧ F_X7_collapse G t3 t2 t1 t0 ws (fun v8 ws => (qV 7 m ws ∧ F_X7_thrown G m ws (fun v9 ws => ((v9 = x5 → ((¬ x5 = 0 → J737 cn sn ws) ∧ (x5 = 0 → qLa (gc G 5) o (0 : Int32) ws (fun v10 => ((v8 = 0 → J731 (0 : Int64) v10 cn sn ws) ∧ (¬ v8 = 0 → J731 (1 : Int64) v10 cn sn ws)))))) ∧ (¬ v9 = x5 → False)))))) → J697 x5 t0 t1 t2 t3 cn sn ws) → (∀ (cn : Nat) (sn : Nat) (ws : va_W), N cn sn ws → J737 cn sn ws) → (∀ (t0 : Int64) (t1 : Int64) (cn : Nat) (sn : Nat) (ws : va_W), (((lg_cmp t1 t0) = 0 → J737 cn sn ws) ∧ (¬ (lg_cmp t1 t0) = 0 → False)) → J731 t0 t1 cn sn ws) → qX L xs (i + (1 : Int32)) (fun v1 => qX L xs (i + (2 : Int32)) (fun v2 => qX L xs (i + (3 : Int32)) (fun v3 => ((v3 = 0 → J664 (0 : Int32) v2 v1 x cn sn ws) ∧ (¬ v3 = 0 → J664 (1 : Int32) v2 v1 x cn sn ws)))))
set_option maxRecDepth 20000 in
set_option maxHeartbeats 4000000 in
theorem lc_8 {K : Kx} {G : Gx} {b L x m o cn sn : Nat} {xs : Nat → Int32} {i : Int32} {ws : va_W} {N : Nat → Nat → va_W → Prop} (hst : (gl G).stackTraces = false) (C : Cx K G code 7 RL ret wsL_law_ room_1) (hX : Sc K G b L xs) (hcn : cn + 20 ≤ 601024) (hsn : sn + 200 ≤ 7293034)
    (hN : ∀ cn sn ws, N cn sn ws → Ev K G 7 cn sn 1741 [some (.ref b), some (.ref x), some (.ref m), some (.ref o), some (.int i), none, none] [] ws) (h : L_8 G L xs x m o i cn sn ws N) : Ev K G 7 cn sn 637 [some (.ref b), some (.ref x), some (.ref m), some (.ref o), some (.int i), none, none] [] ws := by
  replace h := h (fun t0 t1 t2 t3 cn sn ws => (cn + 16 ≤ 601024 ∧ sn + 160 ≤ 7293034) → Ev K G 7 cn sn 664 [some (.ref b), some (.ref x), some (.ref m), some (.ref o), some (.int i), none, none] [.int t0, .int t1, .int t2, .ref t3] ws) (fun x5 t0 t1 t2 t3 cn sn ws => (cn + 12 ≤ 601024 ∧ sn + 120 ≤ 7293034) → Ev K G 7 cn sn 697 [some (.ref b), some (.ref x), some (.ref m), some (.ref o), some (.int i), some (.int x5), none] [.int t0, .int t1, .int t2, .ref t3] ws) (fun cn sn ws => (cn + 4 ≤ 601024 ∧ sn + 40 ≤ 7293034) → Ev K G 7 cn sn 737 [some (.ref b), some (.ref x), some (.ref m), some (.ref o), some (.int i), none, none] [] ws) (fun t0 t1 cn sn ws => (cn + 8 ≤ 601024 ∧ sn + 80 ≤ 7293034) → Ev K G 7 cn sn 731 [some (.ref b), some (.ref x), some (.ref m), some (.ref o), some (.int i), none, none] [.long t0, .long t1] ws)
  replace h := h (by
    intro t0 t1 t2 t3 cn sn ws h hb9
    obtain ⟨hcn9, hsn9⟩ := hb9
    show Ev K G 7 cn sn 664 [some (.ref b), some (.ref x), some (.ref m), some (.ref o), some (.int i), none, none] [.int t0, .int t1, .int t2, .ref t3] ws
    refine e_aload_n C (x := o) rfl dL_law__664 (pc' := 665) rfl ?_
    refine e_calli (run_SW (n := 5) C (m_L_collapse hst h) gL_law__L_collapse rfl ⟨by decide, by decide, by decide +kernel⟩ ⟨by decide, by decide⟩ rfl (Nat.le_of_ble_eq_true rfl) dL_law__665 ⟨(by show cn + 2 ≤ 601024; omega), (by show sn + 12 ≤ 7293034; omega)⟩ (As := [.ref t3, .int t2, .int t1, .int t0, .ref o]) rfl) (pc' := 668) rfl (cn' := cn + 2) (sn' := sn + 12) rfl rfl (fun v4 ws h => ?_)
    refine e_istore C (by decide) dL_law__668 (pc' := 670) rfl (lv' := [some (.ref b), some (.ref x), some (.ref m), some (.ref o), some (.int i), some (.int v4), none]) rfl ?_
    refine e_aload_n C (x := m) rfl dL_law__670 (pc' := 671) rfl ?_
    refine e_aload_n C (x := b) rfl dL_law__671 (pc' := 672) rfl ?_
    refine e_iload C (x := i) rfl dL_law__672 (pc' := 674) rfl ?_
    refine e_iconst C (v := (1 : Int32)) (by decide) dL_law__674 (pc' := 675) rfl ?_
    refine e_iadd C dL_law__675 (pc' := 676) rfl ?_
    refine f_sld C hX dL_law__676 (pc' := 677) rfl h (fun v5 h => ?_)
    refine e_aload_n C (x := b) rfl dL_law__677 (pc' := 678) rfl ?_
    refine e_iload C (x := i) rfl dL_law__678 (pc' := 680) rfl ?_
    refine e_iconst C (v := (2 : Int32)) (by decide) dL_law__680 (pc' := 681) rfl ?_
    refine e_iadd C dL_law__681 (pc' := 682) rfl ?_
    refine f_sld C hX dL_law__682 (pc' := 683) rfl h (fun v6 h => ?_)
    refine e_aload_n C (x := b) rfl dL_law__683 (pc' := 684) rfl ?_
    refine e_iload C (x := i) rfl dL_law__684 (pc' := 686) rfl ?_
    refine e_iconst C (v := (3 : Int32)) (by decide) dL_law__686 (pc' := 687) rfl ?_
    refine e_iadd C dL_law__687 (pc' := 688) rfl ?_
    refine f_sld C hX dL_law__688 (pc' := 689) rfl h (fun v7 h => ?_)
    refine e_if_eq C (tg := 696) dL_law__689 (by decide) (pc' := 692) rfl (fun hc => ?_) (fun hc => ?_)
    · replace h := h.1 hc
      refine e_iconst C (v := (0 : Int32)) (by decide) dL_law__696 (pc' := 697) rfl ?_
      exact h ⟨by omega, by omega⟩
    · replace h := h.2 hc
      refine e_iconst C (v := (1 : Int32)) (by decide) dL_law__692 (pc' := 693) rfl ?_
      refine e_goto C (tg := 697) dL_law__693 (by decide) ?_
      exact h ⟨by omega, by omega⟩)
  replace h := h (by
    intro x5 t0 t1 t2 t3 cn sn ws h hb9
    obtain ⟨hcn9, hsn9⟩ := hb9
    show Ev K G 7 cn sn 697 [some (.ref b), some (.ref x), some (.ref m), some (.ref o), some (.int i), some (.int x5), none] [.int t0, .int t1, .int t2, .ref t3] ws
    obtain ⟨hv, h⟩ := h
    refine e_calli (run_V (n := 3) C (m_X7_collapse hst h) gL_law__X7_collapse rfl ⟨rfl, by decide, by decide, by decide +kernel⟩ ⟨by decide, by decide⟩ (ci := 7) rfl rfl hv rfl (Nat.le_of_ble_eq_true rfl) dL_law__697 ⟨(by show cn ≤ 601024; omega), (by show sn ≤ 7293034; omega)⟩ (As := [.int t2, .int t1, .int t0]) rfl) (pc' := 700) rfl (cn' := cn) (sn' := sn) rfl rfl (fun v8 ws h => ?_)
    refine e_istore C (by decide) dL_law__700 (pc' := 702) rfl (lv' := [some (.ref b), some (.ref x), some (.ref m), some (.ref o), some (.int i), some (.int x5), some (.int v8)]) rfl ?_
    refine e_aload_n C (x := m) rfl dL_law__702 (pc' := 703) rfl ?_
    obtain ⟨hv, h⟩ := h
    refine e_calli (run_V (n := 0) C (m_X7_thrown hst h) gL_law__X7_thrown rfl ⟨rfl, by decide, by decide, by decide +kernel⟩ ⟨by decide, by decide⟩ (ci := 7) rfl rfl hv rfl (Nat.le_of_ble_eq_true rfl) dL_law__703 ⟨(by show cn ≤ 601024; omega), (by show sn ≤ 7293034; omega)⟩ (As := []) rfl) (pc' := 706) rfl (cn' := cn) (sn' := sn) rfl rfl (fun v9 ws h => ?_)
    refine e_iload C (x := x5) rfl dL_law__706 (pc' := 708) rfl ?_
    refine e_icmp_eq C (tg := 713) dL_law__708 (by decide) (pc' := 711) rfl (fun hc => ?_) (fun hc => ?_)
    · replace h := h.1 hc
      refine e_iload C (x := x5) rfl dL_law__713 (pc' := 715) rfl ?_
      refine e_if_ne C (tg := 737) dL_law__715 (by decide) (pc' := 718) rfl (fun hc => ?_) (fun hc => ?_)
      · replace h := h.1 hc
        refine e_mask [true, true, true, true, true, false, false] (lv' := [some (.ref b), some (.ref x), some (.ref m), some (.ref o), some (.int i), none, none]) rfl ?_
        exact h ⟨by omega, by omega⟩
      · replace h := h.2 hc
        refine e_aload_n C (x := o) rfl dL_law__718 (pc' := 719) rfl ?_
        refine e_iconst C (v := (0 : Int32)) (by decide) dL_law__719 (pc' := 720) rfl ?_
        refine f_laload C dL_law__720 (pc' := 721) rfl h (fun v10 h => ?_)
        refine e_iload C (x := v8) rfl dL_law__721 (pc' := 723) rfl ?_
        refine e_if_eq C (tg := 730) dL_law__723 (by decide) (pc' := 726) rfl (fun hc => ?_) (fun hc => ?_)
        · replace h := h.1 hc
          refine e_lconst C (v := (0 : Int64)) (by decide) dL_law__730 (pc' := 731) rfl ?_
          refine e_mask [true, true, true, true, true, false, false] (lv' := [some (.ref b), some (.ref x), some (.ref m), some (.ref o), some (.int i), none, none]) rfl ?_
          exact h ⟨by omega, by omega⟩
        · replace h := h.2 hc
          refine e_lconst C (v := (1 : Int64)) (by decide) dL_law__726 (pc' := 727) rfl ?_
          refine e_goto C (tg := 731) dL_law__727 (by decide) ?_
          refine e_mask [true, true, true, true, true, false, false] (lv' := [some (.ref b), some (.ref x), some (.ref m), some (.ref o), some (.int i), none, none]) rfl ?_
          exact h ⟨by omega, by omega⟩
    · replace h := h.2 hc
      refine e_iconst C (v := (0 : Int32)) (by decide) dL_law__711 (pc' := 712) rfl ?_
      exact h.elim)
  replace h := h (by
    intro cn sn ws h hb9
    obtain ⟨hcn9, hsn9⟩ := hb9
    show Ev K G 7 cn sn 737 [some (.ref b), some (.ref x), some (.ref m), some (.ref o), some (.int i), none, none] [] ws
    refine e_goto C (tg := 1741) dL_law__737 (by decide) ?_
    exact hN _ _ _ h)
  replace h := h (by
    intro t0 t1 cn sn ws h hb9
    obtain ⟨hcn9, hsn9⟩ := hb9
    show Ev K G 7 cn sn 731 [some (.ref b), some (.ref x), some (.ref m), some (.ref o), some (.int i), none, none] [.long t0, .long t1] ws
    refine e_lcmp C dL_law__731 (pc' := 732) rfl ?_
    refine e_if_eq C (tg := 737) dL_law__732 (by decide) (pc' := 735) rfl (fun hc => ?_) (fun hc => ?_)
    · replace h := h.1 hc
      exact h ⟨by omega, by omega⟩
    · replace h := h.2 hc
      refine e_iconst C (v := (0 : Int32)) (by decide) dL_law__735 (pc' := 736) rfl ?_
      exact h.elim)
  refine e_aload_n C (x := x) rfl dL_law__637 (pc' := 638) rfl ?_
  refine e_aload_n C (x := b) rfl dL_law__638 (pc' := 639) rfl ?_
  refine e_iload C (x := i) rfl dL_law__639 (pc' := 641) rfl ?_
  refine e_iconst C (v := (1 : Int32)) (by decide) dL_law__641 (pc' := 642) rfl ?_
  refine e_iadd C dL_law__642 (pc' := 643) rfl ?_
  refine f_sld C hX dL_law__643 (pc' := 644) rfl h (fun v1 h => ?_)
  refine e_aload_n C (x := b) rfl dL_law__644 (pc' := 645) rfl ?_
  refine e_iload C (x := i) rfl dL_law__645 (pc' := 647) rfl ?_
  refine e_iconst C (v := (2 : Int32)) (by decide) dL_law__647 (pc' := 648) rfl ?_
  refine e_iadd C dL_law__648 (pc' := 649) rfl ?_
  refine f_sld C hX dL_law__649 (pc' := 650) rfl h (fun v2 h => ?_)
  refine e_aload_n C (x := b) rfl dL_law__650 (pc' := 651) rfl ?_
  refine e_iload C (x := i) rfl dL_law__651 (pc' := 653) rfl ?_
  refine e_iconst C (v := (3 : Int32)) (by decide) dL_law__653 (pc' := 654) rfl ?_
  refine e_iadd C dL_law__654 (pc' := 655) rfl ?_
  refine f_sld C hX dL_law__655 (pc' := 656) rfl h (fun v3 h => ?_)
  refine e_if_eq C (tg := 663) dL_law__656 (by decide) (pc' := 659) rfl (fun hc => ?_) (fun hc => ?_)
  · replace h := h.1 hc
    refine e_iconst C (v := (0 : Int32)) (by decide) dL_law__663 (pc' := 664) rfl ?_
    exact h ⟨by omega, by omega⟩
  · replace h := h.2 hc
    refine e_iconst C (v := (1 : Int32)) (by decide) dL_law__659 (pc' := 660) rfl ?_
    refine e_goto C (tg := 664) dL_law__660 (by decide) ?_
    exact h ⟨by omega, by omega⟩
def L_9 (G : Gx) (L : Nat) (xs : Nat → Int32) (x m o : Nat) (i : Int32) (cn sn : Nat) (ws : va_W) (N : Nat → Nat → va_W → Prop) : Prop := ∀ (J793 : Nat → Nat → va_W → Prop), (∀ (cn : Nat) (sn : Nat) (ws : va_W), N cn sn ws → J793 cn sn ws) → qX L xs (i + (1 : Int32)) (fun v1 => (F_L_flow G x v1 o ws (fun v2 ws => qX L xs (i + (1 : Int32)) (fun v3 => (qV 7 m ws ∧ F_X7_flow G m v3 ws (fun v4 ws => (qV 7 m ws ∧ F_X7_thrown G m ws (fun v5 ws => ((v5 = v2 → ((¬ v2 = 0 → J793 (cn + 2) (sn + 12) ws) ∧ (v2 = 0 → qLa (gc G 5) o (0 : Int32) ws (fun v6 => (((lg_cmp v6 v4.toInt64) = 0 → J793 (cn + 2) (sn + 12) ws) ∧ (¬ (lg_cmp v6 v4.toInt64) = 0 → False)))))) ∧ (¬ v5 = v2 → False))))))))))
set_option maxRecDepth 20000 in
set_option maxHeartbeats 4000000 in
theorem lc_9 {K : Kx} {G : Gx} {b L x m o cn sn : Nat} {xs : Nat → Int32} {i : Int32} {ws : va_W} {N : Nat → Nat → va_W → Prop} (hst : (gl G).stackTraces = false) (C : Cx K G code 7 RL ret wsL_law_ room_1) (hX : Sc K G b L xs) (hcn : cn + 20 ≤ 601024) (hsn : sn + 200 ≤ 7293034)
    (hN : ∀ cn sn ws, N cn sn ws → Ev K G 7 cn sn 1741 [some (.ref b), some (.ref x), some (.ref m), some (.ref o), some (.int i), none, none] [] ws) (h : L_9 G L xs x m o i cn sn ws N) : Ev K G 7 cn sn 740 [some (.ref b), some (.ref x), some (.ref m), some (.ref o), some (.int i), none, none] [] ws := by
  replace h := h (fun cn sn ws => (cn + 16 ≤ 601024 ∧ sn + 160 ≤ 7293034) → Ev K G 7 cn sn 793 [some (.ref b), some (.ref x), some (.ref m), some (.ref o), some (.int i), none, none] [] ws)
  replace h := h (by
    intro cn sn ws h hb9
    obtain ⟨hcn9, hsn9⟩ := hb9
    show Ev K G 7 cn sn 793 [some (.ref b), some (.ref x), some (.ref m), some (.ref o), some (.int i), none, none] [] ws
    refine e_goto C (tg := 1741) dL_law__793 (by decide) ?_
    exact hN _ _ _ h)
  refine e_aload_n C (x := x) rfl dL_law__740 (pc' := 741) rfl ?_
  refine e_aload_n C (x := b) rfl dL_law__741 (pc' := 742) rfl ?_
  refine e_iload C (x := i) rfl dL_law__742 (pc' := 744) rfl ?_
  refine e_iconst C (v := (1 : Int32)) (by decide) dL_law__744 (pc' := 745) rfl ?_
  refine e_iadd C dL_law__745 (pc' := 746) rfl ?_
  refine f_sld C hX dL_law__746 (pc' := 747) rfl h (fun v1 h => ?_)
  refine e_aload_n C (x := o) rfl dL_law__747 (pc' := 748) rfl ?_
  refine e_calli (run_SW (n := 3) C (m_L_flow hst h) gL_law__L_flow rfl ⟨by decide, by decide, by decide +kernel⟩ ⟨by decide, by decide⟩ rfl (Nat.le_of_ble_eq_true rfl) dL_law__748 ⟨(by show cn + 2 ≤ 601024; omega), (by show sn + 12 ≤ 7293034; omega)⟩ (As := [.ref x, .int v1, .ref o]) rfl) (pc' := 751) rfl (cn' := cn + 2) (sn' := sn + 12) rfl rfl (fun v2 ws h => ?_)
  refine e_istore C (by decide) dL_law__751 (pc' := 753) rfl (lv' := [some (.ref b), some (.ref x), some (.ref m), some (.ref o), some (.int i), some (.int v2), none]) rfl ?_
  refine e_aload_n C (x := m) rfl dL_law__753 (pc' := 754) rfl ?_
  refine e_aload_n C (x := b) rfl dL_law__754 (pc' := 755) rfl ?_
  refine e_iload C (x := i) rfl dL_law__755 (pc' := 757) rfl ?_
  refine e_iconst C (v := (1 : Int32)) (by decide) dL_law__757 (pc' := 758) rfl ?_
  refine e_iadd C dL_law__758 (pc' := 759) rfl ?_
  refine f_sld C hX dL_law__759 (pc' := 760) rfl h (fun v3 h => ?_)
  obtain ⟨hv, h⟩ := h
  refine e_calli (run_V (n := 1) C (m_X7_flow hst h) gL_law__X7_flow rfl ⟨rfl, by decide, by decide, by decide +kernel⟩ ⟨by decide, by decide⟩ (ci := 7) rfl rfl hv rfl (Nat.le_of_ble_eq_true rfl) dL_law__760 ⟨(by show cn + 2 ≤ 601024; omega), (by show sn + 12 ≤ 7293034; omega)⟩ (As := [.int v3]) rfl) (pc' := 763) rfl (cn' := cn + 2) (sn' := sn + 12) rfl rfl (fun v4 ws h => ?_)
  refine e_istore C (by decide) dL_law__763 (pc' := 765) rfl (lv' := [some (.ref b), some (.ref x), some (.ref m), some (.ref o), some (.int i), some (.int v2), some (.int v4)]) rfl ?_
  refine e_aload_n C (x := m) rfl dL_law__765 (pc' := 766) rfl ?_
  obtain ⟨hv, h⟩ := h
  refine e_calli (run_V (n := 0) C (m_X7_thrown hst h) gL_law__X7_thrown rfl ⟨rfl, by decide, by decide, by decide +kernel⟩ ⟨by decide, by decide⟩ (ci := 7) rfl rfl hv rfl (Nat.le_of_ble_eq_true rfl) dL_law__766 ⟨(by show cn + 2 ≤ 601024; omega), (by show sn + 12 ≤ 7293034; omega)⟩ (As := []) rfl) (pc' := 769) rfl (cn' := cn + 2) (sn' := sn + 12) rfl rfl (fun v5 ws h => ?_)
  refine e_iload C (x := v2) rfl dL_law__769 (pc' := 771) rfl ?_
  refine e_icmp_eq C (tg := 776) dL_law__771 (by decide) (pc' := 774) rfl (fun hc => ?_) (fun hc => ?_)
  · replace h := h.1 hc
    refine e_iload C (x := v2) rfl dL_law__776 (pc' := 778) rfl ?_
    refine e_if_ne C (tg := 793) dL_law__778 (by decide) (pc' := 781) rfl (fun hc => ?_) (fun hc => ?_)
    · replace h := h.1 hc
      refine e_mask [true, true, true, true, true, false, false] (lv' := [some (.ref b), some (.ref x), some (.ref m), some (.ref o), some (.int i), none, none]) rfl ?_
      exact h ⟨by omega, by omega⟩
    · replace h := h.2 hc
      refine e_aload_n C (x := o) rfl dL_law__781 (pc' := 782) rfl ?_
      refine e_iconst C (v := (0 : Int32)) (by decide) dL_law__782 (pc' := 783) rfl ?_
      refine f_laload C dL_law__783 (pc' := 784) rfl h (fun v6 h => ?_)
      refine e_iload C (x := v4) rfl dL_law__784 (pc' := 786) rfl ?_
      refine e_i2l C dL_law__786 (pc' := 787) rfl ?_
      refine e_lcmp C dL_law__787 (pc' := 788) rfl ?_
      refine e_if_eq C (tg := 793) dL_law__788 (by decide) (pc' := 791) rfl (fun hc => ?_) (fun hc => ?_)
      · replace h := h.1 hc
        refine e_mask [true, true, true, true, true, false, false] (lv' := [some (.ref b), some (.ref x), some (.ref m), some (.ref o), some (.int i), none, none]) rfl ?_
        exact h ⟨by omega, by omega⟩
      · replace h := h.2 hc
        refine e_iconst C (v := (0 : Int32)) (by decide) dL_law__791 (pc' := 792) rfl ?_
        exact h.elim
  · replace h := h.2 hc
    refine e_iconst C (v := (0 : Int32)) (by decide) dL_law__774 (pc' := 775) rfl ?_
    exact h.elim
def L_10 (G : Gx) (L : Nat) (xs : Nat → Int32) (x m o : Nat) (i : Int32) (cn sn : Nat) (ws : va_W) (N : Nat → Nat → va_W → Prop) : Prop := ∀ (J849 : Nat → Nat → va_W → Prop), (∀ (cn : Nat) (sn : Nat) (ws : va_W), N cn sn ws → J849 cn sn ws) → qX L xs (i + (1 : Int32)) (fun v1 => (F_L_harm G x v1 o ws (fun v2 ws => qX L xs (i + (1 : Int32)) (fun v3 => (qV 7 m ws ∧ F_X7_harm G m v3 ws (fun v4 ws => (qV 7 m ws ∧ F_X7_thrown G m ws (fun v5 ws => ((v5 = v2 → ((¬ v2 = 0 → J849 (cn + 2) (sn + 12) ws) ∧ (v2 = 0 → qLa (gc G 5) o (0 : Int32) ws (fun v6 => (((lg_cmp v6 v4.toInt64) = 0 → J849 (cn + 2) (sn + 12) ws) ∧ (¬ (lg_cmp v6 v4.toInt64) = 0 → False)))))) ∧ (¬ v5 = v2 → False))))))))))
set_option maxRecDepth 20000 in
set_option maxHeartbeats 4000000 in
theorem lc_10 {K : Kx} {G : Gx} {b L x m o cn sn : Nat} {xs : Nat → Int32} {i : Int32} {ws : va_W} {N : Nat → Nat → va_W → Prop} (hst : (gl G).stackTraces = false) (C : Cx K G code 7 RL ret wsL_law_ room_1) (hX : Sc K G b L xs) (hcn : cn + 20 ≤ 601024) (hsn : sn + 200 ≤ 7293034)
    (hN : ∀ cn sn ws, N cn sn ws → Ev K G 7 cn sn 1741 [some (.ref b), some (.ref x), some (.ref m), some (.ref o), some (.int i), none, none] [] ws) (h : L_10 G L xs x m o i cn sn ws N) : Ev K G 7 cn sn 796 [some (.ref b), some (.ref x), some (.ref m), some (.ref o), some (.int i), none, none] [] ws := by
  replace h := h (fun cn sn ws => (cn + 16 ≤ 601024 ∧ sn + 160 ≤ 7293034) → Ev K G 7 cn sn 849 [some (.ref b), some (.ref x), some (.ref m), some (.ref o), some (.int i), none, none] [] ws)
  replace h := h (by
    intro cn sn ws h hb9
    obtain ⟨hcn9, hsn9⟩ := hb9
    show Ev K G 7 cn sn 849 [some (.ref b), some (.ref x), some (.ref m), some (.ref o), some (.int i), none, none] [] ws
    refine e_goto C (tg := 1741) dL_law__849 (by decide) ?_
    exact hN _ _ _ h)
  refine e_aload_n C (x := x) rfl dL_law__796 (pc' := 797) rfl ?_
  refine e_aload_n C (x := b) rfl dL_law__797 (pc' := 798) rfl ?_
  refine e_iload C (x := i) rfl dL_law__798 (pc' := 800) rfl ?_
  refine e_iconst C (v := (1 : Int32)) (by decide) dL_law__800 (pc' := 801) rfl ?_
  refine e_iadd C dL_law__801 (pc' := 802) rfl ?_
  refine f_sld C hX dL_law__802 (pc' := 803) rfl h (fun v1 h => ?_)
  refine e_aload_n C (x := o) rfl dL_law__803 (pc' := 804) rfl ?_
  refine e_calli (run_SW (n := 3) C (m_L_harm hst h) gL_law__L_harm rfl ⟨by decide, by decide, by decide +kernel⟩ ⟨by decide, by decide⟩ rfl (Nat.le_of_ble_eq_true rfl) dL_law__804 ⟨(by show cn + 2 ≤ 601024; omega), (by show sn + 12 ≤ 7293034; omega)⟩ (As := [.ref x, .int v1, .ref o]) rfl) (pc' := 807) rfl (cn' := cn + 2) (sn' := sn + 12) rfl rfl (fun v2 ws h => ?_)
  refine e_istore C (by decide) dL_law__807 (pc' := 809) rfl (lv' := [some (.ref b), some (.ref x), some (.ref m), some (.ref o), some (.int i), some (.int v2), none]) rfl ?_
  refine e_aload_n C (x := m) rfl dL_law__809 (pc' := 810) rfl ?_
  refine e_aload_n C (x := b) rfl dL_law__810 (pc' := 811) rfl ?_
  refine e_iload C (x := i) rfl dL_law__811 (pc' := 813) rfl ?_
  refine e_iconst C (v := (1 : Int32)) (by decide) dL_law__813 (pc' := 814) rfl ?_
  refine e_iadd C dL_law__814 (pc' := 815) rfl ?_
  refine f_sld C hX dL_law__815 (pc' := 816) rfl h (fun v3 h => ?_)
  obtain ⟨hv, h⟩ := h
  refine e_calli (run_V (n := 1) C (m_X7_harm hst h) gL_law__X7_harm rfl ⟨rfl, by decide, by decide, by decide +kernel⟩ ⟨by decide, by decide⟩ (ci := 7) rfl rfl hv rfl (Nat.le_of_ble_eq_true rfl) dL_law__816 ⟨(by show cn + 2 ≤ 601024; omega), (by show sn + 12 ≤ 7293034; omega)⟩ (As := [.int v3]) rfl) (pc' := 819) rfl (cn' := cn + 2) (sn' := sn + 12) rfl rfl (fun v4 ws h => ?_)
  refine e_istore C (by decide) dL_law__819 (pc' := 821) rfl (lv' := [some (.ref b), some (.ref x), some (.ref m), some (.ref o), some (.int i), some (.int v2), some (.int v4)]) rfl ?_
  refine e_aload_n C (x := m) rfl dL_law__821 (pc' := 822) rfl ?_
  obtain ⟨hv, h⟩ := h
  refine e_calli (run_V (n := 0) C (m_X7_thrown hst h) gL_law__X7_thrown rfl ⟨rfl, by decide, by decide, by decide +kernel⟩ ⟨by decide, by decide⟩ (ci := 7) rfl rfl hv rfl (Nat.le_of_ble_eq_true rfl) dL_law__822 ⟨(by show cn + 2 ≤ 601024; omega), (by show sn + 12 ≤ 7293034; omega)⟩ (As := []) rfl) (pc' := 825) rfl (cn' := cn + 2) (sn' := sn + 12) rfl rfl (fun v5 ws h => ?_)
  refine e_iload C (x := v2) rfl dL_law__825 (pc' := 827) rfl ?_
  refine e_icmp_eq C (tg := 832) dL_law__827 (by decide) (pc' := 830) rfl (fun hc => ?_) (fun hc => ?_)
  · replace h := h.1 hc
    refine e_iload C (x := v2) rfl dL_law__832 (pc' := 834) rfl ?_
    refine e_if_ne C (tg := 849) dL_law__834 (by decide) (pc' := 837) rfl (fun hc => ?_) (fun hc => ?_)
    · replace h := h.1 hc
      refine e_mask [true, true, true, true, true, false, false] (lv' := [some (.ref b), some (.ref x), some (.ref m), some (.ref o), some (.int i), none, none]) rfl ?_
      exact h ⟨by omega, by omega⟩
    · replace h := h.2 hc
      refine e_aload_n C (x := o) rfl dL_law__837 (pc' := 838) rfl ?_
      refine e_iconst C (v := (0 : Int32)) (by decide) dL_law__838 (pc' := 839) rfl ?_
      refine f_laload C dL_law__839 (pc' := 840) rfl h (fun v6 h => ?_)
      refine e_iload C (x := v4) rfl dL_law__840 (pc' := 842) rfl ?_
      refine e_i2l C dL_law__842 (pc' := 843) rfl ?_
      refine e_lcmp C dL_law__843 (pc' := 844) rfl ?_
      refine e_if_eq C (tg := 849) dL_law__844 (by decide) (pc' := 847) rfl (fun hc => ?_) (fun hc => ?_)
      · replace h := h.1 hc
        refine e_mask [true, true, true, true, true, false, false] (lv' := [some (.ref b), some (.ref x), some (.ref m), some (.ref o), some (.int i), none, none]) rfl ?_
        exact h ⟨by omega, by omega⟩
      · replace h := h.2 hc
        refine e_iconst C (v := (0 : Int32)) (by decide) dL_law__847 (pc' := 848) rfl ?_
        exact h.elim
  · replace h := h.2 hc
    refine e_iconst C (v := (0 : Int32)) (by decide) dL_law__830 (pc' := 831) rfl ?_
    exact h.elim
def L_11 (G : Gx) (L : Nat) (xs : Nat → Int32) (x m o : Nat) (i : Int32) (cn sn : Nat) (ws : va_W) (N : Nat → Nat → va_W → Prop) : Prop := ∀ (J917 : Nat → Nat → va_W → Prop), (∀ (cn : Nat) (sn : Nat) (ws : va_W), N cn sn ws → J917 cn sn ws) → qX L xs (i + (1 : Int32)) (fun v1 => qX L xs (i + (2 : Int32)) (fun v2 => (F_L_seep G x v1 v2 o ws (fun v3 ws => qX L xs (i + (1 : Int32)) (fun v4 => qX L xs (i + (2 : Int32)) (fun v5 => (qV 7 m ws ∧ F_X7_seep G m v4 v5 ws (fun v6 ws => (qV 7 m ws ∧ F_X7_thrown G m ws (fun v7 ws => ((v7 = v3 → ((¬ v3 = 0 → J917 (cn + 2) (sn + 12) ws) ∧ (v3 = 0 → qLa (gc G 5) o (0 : Int32) ws (fun v8 => (((lg_cmp v8 v6.toInt64) = 0 → J917 (cn + 2) (sn + 12) ws) ∧ (¬ (lg_cmp v8 v6.toInt64) = 0 → False)))))) ∧ (¬ v7 = v3 → False))))))))))))
set_option maxRecDepth 20000 in
set_option maxHeartbeats 4000000 in
theorem lc_11 {K : Kx} {G : Gx} {b L x m o cn sn : Nat} {xs : Nat → Int32} {i : Int32} {ws : va_W} {N : Nat → Nat → va_W → Prop} (hst : (gl G).stackTraces = false) (C : Cx K G code 7 RL ret wsL_law_ room_1) (hX : Sc K G b L xs) (hcn : cn + 20 ≤ 601024) (hsn : sn + 200 ≤ 7293034)
    (hN : ∀ cn sn ws, N cn sn ws → Ev K G 7 cn sn 1741 [some (.ref b), some (.ref x), some (.ref m), some (.ref o), some (.int i), none, none] [] ws) (h : L_11 G L xs x m o i cn sn ws N) : Ev K G 7 cn sn 852 [some (.ref b), some (.ref x), some (.ref m), some (.ref o), some (.int i), none, none] [] ws := by
  replace h := h (fun cn sn ws => (cn + 16 ≤ 601024 ∧ sn + 160 ≤ 7293034) → Ev K G 7 cn sn 917 [some (.ref b), some (.ref x), some (.ref m), some (.ref o), some (.int i), none, none] [] ws)
  replace h := h (by
    intro cn sn ws h hb9
    obtain ⟨hcn9, hsn9⟩ := hb9
    show Ev K G 7 cn sn 917 [some (.ref b), some (.ref x), some (.ref m), some (.ref o), some (.int i), none, none] [] ws
    refine e_goto C (tg := 1741) dL_law__917 (by decide) ?_
    exact hN _ _ _ h)
  refine e_aload_n C (x := x) rfl dL_law__852 (pc' := 853) rfl ?_
  refine e_aload_n C (x := b) rfl dL_law__853 (pc' := 854) rfl ?_
  refine e_iload C (x := i) rfl dL_law__854 (pc' := 856) rfl ?_
  refine e_iconst C (v := (1 : Int32)) (by decide) dL_law__856 (pc' := 857) rfl ?_
  refine e_iadd C dL_law__857 (pc' := 858) rfl ?_
  refine f_sld C hX dL_law__858 (pc' := 859) rfl h (fun v1 h => ?_)
  refine e_aload_n C (x := b) rfl dL_law__859 (pc' := 860) rfl ?_
  refine e_iload C (x := i) rfl dL_law__860 (pc' := 862) rfl ?_
  refine e_iconst C (v := (2 : Int32)) (by decide) dL_law__862 (pc' := 863) rfl ?_
  refine e_iadd C dL_law__863 (pc' := 864) rfl ?_
  refine f_sld C hX dL_law__864 (pc' := 865) rfl h (fun v2 h => ?_)
  refine e_aload_n C (x := o) rfl dL_law__865 (pc' := 866) rfl ?_
  refine e_calli (run_SW (n := 4) C (m_L_seep hst h) gL_law__L_seep rfl ⟨by decide, by decide, by decide +kernel⟩ ⟨by decide, by decide⟩ rfl (Nat.le_of_ble_eq_true rfl) dL_law__866 ⟨(by show cn + 2 ≤ 601024; omega), (by show sn + 12 ≤ 7293034; omega)⟩ (As := [.ref x, .int v1, .int v2, .ref o]) rfl) (pc' := 869) rfl (cn' := cn + 2) (sn' := sn + 12) rfl rfl (fun v3 ws h => ?_)
  refine e_istore C (by decide) dL_law__869 (pc' := 871) rfl (lv' := [some (.ref b), some (.ref x), some (.ref m), some (.ref o), some (.int i), some (.int v3), none]) rfl ?_
  refine e_aload_n C (x := m) rfl dL_law__871 (pc' := 872) rfl ?_
  refine e_aload_n C (x := b) rfl dL_law__872 (pc' := 873) rfl ?_
  refine e_iload C (x := i) rfl dL_law__873 (pc' := 875) rfl ?_
  refine e_iconst C (v := (1 : Int32)) (by decide) dL_law__875 (pc' := 876) rfl ?_
  refine e_iadd C dL_law__876 (pc' := 877) rfl ?_
  refine f_sld C hX dL_law__877 (pc' := 878) rfl h (fun v4 h => ?_)
  refine e_aload_n C (x := b) rfl dL_law__878 (pc' := 879) rfl ?_
  refine e_iload C (x := i) rfl dL_law__879 (pc' := 881) rfl ?_
  refine e_iconst C (v := (2 : Int32)) (by decide) dL_law__881 (pc' := 882) rfl ?_
  refine e_iadd C dL_law__882 (pc' := 883) rfl ?_
  refine f_sld C hX dL_law__883 (pc' := 884) rfl h (fun v5 h => ?_)
  obtain ⟨hv, h⟩ := h
  refine e_calli (run_V (n := 2) C (m_X7_seep hst h) gL_law__X7_seep rfl ⟨rfl, by decide, by decide, by decide +kernel⟩ ⟨by decide, by decide⟩ (ci := 7) rfl rfl hv rfl (Nat.le_of_ble_eq_true rfl) dL_law__884 ⟨(by show cn + 2 ≤ 601024; omega), (by show sn + 12 ≤ 7293034; omega)⟩ (As := [.int v4, .int v5]) rfl) (pc' := 887) rfl (cn' := cn + 2) (sn' := sn + 12) rfl rfl (fun v6 ws h => ?_)
  refine e_istore C (by decide) dL_law__887 (pc' := 889) rfl (lv' := [some (.ref b), some (.ref x), some (.ref m), some (.ref o), some (.int i), some (.int v3), some (.int v6)]) rfl ?_
  refine e_aload_n C (x := m) rfl dL_law__889 (pc' := 890) rfl ?_
  obtain ⟨hv, h⟩ := h
  refine e_calli (run_V (n := 0) C (m_X7_thrown hst h) gL_law__X7_thrown rfl ⟨rfl, by decide, by decide, by decide +kernel⟩ ⟨by decide, by decide⟩ (ci := 7) rfl rfl hv rfl (Nat.le_of_ble_eq_true rfl) dL_law__890 ⟨(by show cn + 2 ≤ 601024; omega), (by show sn + 12 ≤ 7293034; omega)⟩ (As := []) rfl) (pc' := 893) rfl (cn' := cn + 2) (sn' := sn + 12) rfl rfl (fun v7 ws h => ?_)
  refine e_iload C (x := v3) rfl dL_law__893 (pc' := 895) rfl ?_
  refine e_icmp_eq C (tg := 900) dL_law__895 (by decide) (pc' := 898) rfl (fun hc => ?_) (fun hc => ?_)
  · replace h := h.1 hc
    refine e_iload C (x := v3) rfl dL_law__900 (pc' := 902) rfl ?_
    refine e_if_ne C (tg := 917) dL_law__902 (by decide) (pc' := 905) rfl (fun hc => ?_) (fun hc => ?_)
    · replace h := h.1 hc
      refine e_mask [true, true, true, true, true, false, false] (lv' := [some (.ref b), some (.ref x), some (.ref m), some (.ref o), some (.int i), none, none]) rfl ?_
      exact h ⟨by omega, by omega⟩
    · replace h := h.2 hc
      refine e_aload_n C (x := o) rfl dL_law__905 (pc' := 906) rfl ?_
      refine e_iconst C (v := (0 : Int32)) (by decide) dL_law__906 (pc' := 907) rfl ?_
      refine f_laload C dL_law__907 (pc' := 908) rfl h (fun v8 h => ?_)
      refine e_iload C (x := v6) rfl dL_law__908 (pc' := 910) rfl ?_
      refine e_i2l C dL_law__910 (pc' := 911) rfl ?_
      refine e_lcmp C dL_law__911 (pc' := 912) rfl ?_
      refine e_if_eq C (tg := 917) dL_law__912 (by decide) (pc' := 915) rfl (fun hc => ?_) (fun hc => ?_)
      · replace h := h.1 hc
        refine e_mask [true, true, true, true, true, false, false] (lv' := [some (.ref b), some (.ref x), some (.ref m), some (.ref o), some (.int i), none, none]) rfl ?_
        exact h ⟨by omega, by omega⟩
      · replace h := h.2 hc
        refine e_iconst C (v := (0 : Int32)) (by decide) dL_law__915 (pc' := 916) rfl ?_
        exact h.elim
  · replace h := h.2 hc
    refine e_iconst C (v := (0 : Int32)) (by decide) dL_law__898 (pc' := 899) rfl ?_
    exact h.elim
def L_12 (G : Gx) (L : Nat) (xs : Nat → Int32) (x m o : Nat) (i : Int32) (cn sn : Nat) (ws : va_W) (N : Nat → Nat → va_W → Prop) : Prop := qX L xs (i + (1 : Int32)) (fun v1 => qX L xs (i + (2 : Int32)) (fun v2 => qX L xs (i + (3 : Int32)) (fun v3 => qX L xs (i + (4 : Int32)) (fun v4 => (F_L_sell G x v1 v2 v3 v4 ws (fun v5 ws => qX L xs (i + (1 : Int32)) (fun v6 => qX L xs (i + (2 : Int32)) (fun v7 => qX L xs (i + (3 : Int32)) (fun v8 => qX L xs (i + (4 : Int32)) (fun v9 => (qV 7 m ws ∧ F_X7_sell G m v6 v7 v8 v9 ws (fun ws => (qV 7 m ws ∧ F_X7_thrown G m ws (fun v11 ws => ((v11 = v5 → N (cn + 3) (sn + 18) ws) ∧ (¬ v11 = v5 → False))))))))))))))))
set_option maxRecDepth 20000 in
set_option maxHeartbeats 4000000 in
theorem lc_12 {K : Kx} {G : Gx} {b L x m o cn sn : Nat} {xs : Nat → Int32} {i : Int32} {ws : va_W} {N : Nat → Nat → va_W → Prop} (hst : (gl G).stackTraces = false) (C : Cx K G code 7 RL ret wsL_law_ room_1) (hX : Sc K G b L xs) (hcn : cn + 20 ≤ 601024) (hsn : sn + 200 ≤ 7293034)
    (hN : ∀ cn sn ws, N cn sn ws → Ev K G 7 cn sn 1741 [some (.ref b), some (.ref x), some (.ref m), some (.ref o), some (.int i), none, none] [] ws) (h : L_12 G L xs x m o i cn sn ws N) : Ev K G 7 cn sn 920 [some (.ref b), some (.ref x), some (.ref m), some (.ref o), some (.int i), none, none] [] ws := by
  refine e_aload_n C (x := x) rfl dL_law__920 (pc' := 921) rfl ?_
  refine e_aload_n C (x := b) rfl dL_law__921 (pc' := 922) rfl ?_
  refine e_iload C (x := i) rfl dL_law__922 (pc' := 924) rfl ?_
  refine e_iconst C (v := (1 : Int32)) (by decide) dL_law__924 (pc' := 925) rfl ?_
  refine e_iadd C dL_law__925 (pc' := 926) rfl ?_
  refine f_sld C hX dL_law__926 (pc' := 927) rfl h (fun v1 h => ?_)
  refine e_aload_n C (x := b) rfl dL_law__927 (pc' := 928) rfl ?_
  refine e_iload C (x := i) rfl dL_law__928 (pc' := 930) rfl ?_
  refine e_iconst C (v := (2 : Int32)) (by decide) dL_law__930 (pc' := 931) rfl ?_
  refine e_iadd C dL_law__931 (pc' := 932) rfl ?_
  refine f_sld C hX dL_law__932 (pc' := 933) rfl h (fun v2 h => ?_)
  refine e_aload_n C (x := b) rfl dL_law__933 (pc' := 934) rfl ?_
  refine e_iload C (x := i) rfl dL_law__934 (pc' := 936) rfl ?_
  refine e_iconst C (v := (3 : Int32)) (by decide) dL_law__936 (pc' := 937) rfl ?_
  refine e_iadd C dL_law__937 (pc' := 938) rfl ?_
  refine f_sld C hX dL_law__938 (pc' := 939) rfl h (fun v3 h => ?_)
  refine e_aload_n C (x := b) rfl dL_law__939 (pc' := 940) rfl ?_
  refine e_iload C (x := i) rfl dL_law__940 (pc' := 942) rfl ?_
  refine e_iconst C (v := (4 : Int32)) (by decide) dL_law__942 (pc' := 943) rfl ?_
  refine e_iadd C dL_law__943 (pc' := 944) rfl ?_
  refine f_sld C hX dL_law__944 (pc' := 945) rfl h (fun v4 h => ?_)
  refine e_calli (run_SW (n := 5) C (m_L_sell hst h) gL_law__L_sell rfl ⟨by decide, by decide, by decide +kernel⟩ ⟨by decide, by decide⟩ rfl (Nat.le_of_ble_eq_true rfl) dL_law__945 ⟨(by show cn + 3 ≤ 601024; omega), (by show sn + 18 ≤ 7293034; omega)⟩ (As := [.ref x, .int v1, .int v2, .int v3, .int v4]) rfl) (pc' := 948) rfl (cn' := cn + 3) (sn' := sn + 18) rfl rfl (fun v5 ws h => ?_)
  refine e_istore C (by decide) dL_law__948 (pc' := 950) rfl (lv' := [some (.ref b), some (.ref x), some (.ref m), some (.ref o), some (.int i), some (.int v5), none]) rfl ?_
  refine e_aload_n C (x := m) rfl dL_law__950 (pc' := 951) rfl ?_
  refine e_aload_n C (x := b) rfl dL_law__951 (pc' := 952) rfl ?_
  refine e_iload C (x := i) rfl dL_law__952 (pc' := 954) rfl ?_
  refine e_iconst C (v := (1 : Int32)) (by decide) dL_law__954 (pc' := 955) rfl ?_
  refine e_iadd C dL_law__955 (pc' := 956) rfl ?_
  refine f_sld C hX dL_law__956 (pc' := 957) rfl h (fun v6 h => ?_)
  refine e_aload_n C (x := b) rfl dL_law__957 (pc' := 958) rfl ?_
  refine e_iload C (x := i) rfl dL_law__958 (pc' := 960) rfl ?_
  refine e_iconst C (v := (2 : Int32)) (by decide) dL_law__960 (pc' := 961) rfl ?_
  refine e_iadd C dL_law__961 (pc' := 962) rfl ?_
  refine f_sld C hX dL_law__962 (pc' := 963) rfl h (fun v7 h => ?_)
  refine e_aload_n C (x := b) rfl dL_law__963 (pc' := 964) rfl ?_
  refine e_iload C (x := i) rfl dL_law__964 (pc' := 966) rfl ?_
  refine e_iconst C (v := (3 : Int32)) (by decide) dL_law__966 (pc' := 967) rfl ?_
  refine e_iadd C dL_law__967 (pc' := 968) rfl ?_
  refine f_sld C hX dL_law__968 (pc' := 969) rfl h (fun v8 h => ?_)
  refine e_aload_n C (x := b) rfl dL_law__969 (pc' := 970) rfl ?_
  refine e_iload C (x := i) rfl dL_law__970 (pc' := 972) rfl ?_
  refine e_iconst C (v := (4 : Int32)) (by decide) dL_law__972 (pc' := 973) rfl ?_
  refine e_iadd C dL_law__973 (pc' := 974) rfl ?_
  refine f_sld C hX dL_law__974 (pc' := 975) rfl h (fun v9 h => ?_)
  obtain ⟨hv, h⟩ := h
  refine e_callv (run_V (n := 4) C (m_X7_sell hst h) gL_law__X7_sell rfl ⟨rfl, by decide, by decide, by decide +kernel⟩ ⟨by decide, by decide⟩ (ci := 7) rfl rfl hv rfl (Nat.le_of_ble_eq_true rfl) dL_law__975 ⟨(by show cn + 3 ≤ 601024; omega), (by show sn + 18 ≤ 7293034; omega)⟩ (As := [.int v6, .int v7, .int v8, .int v9]) rfl) (pc' := 978) rfl (cn' := cn + 3) (sn' := sn + 18) rfl rfl (fun ws h => ?_)
  refine e_aload_n C (x := m) rfl dL_law__978 (pc' := 979) rfl ?_
  obtain ⟨hv, h⟩ := h
  refine e_calli (run_V (n := 0) C (m_X7_thrown hst h) gL_law__X7_thrown rfl ⟨rfl, by decide, by decide, by decide +kernel⟩ ⟨by decide, by decide⟩ (ci := 7) rfl rfl hv rfl (Nat.le_of_ble_eq_true rfl) dL_law__979 ⟨(by show cn + 3 ≤ 601024; omega), (by show sn + 18 ≤ 7293034; omega)⟩ (As := []) rfl) (pc' := 982) rfl (cn' := cn + 3) (sn' := sn + 18) rfl rfl (fun v11 ws h => ?_)
  refine e_iload C (x := v5) rfl dL_law__982 (pc' := 984) rfl ?_
  refine e_icmp_eq C (tg := 989) dL_law__984 (by decide) (pc' := 987) rfl (fun hc => ?_) (fun hc => ?_)
  · replace h := h.1 hc
    refine e_goto C (tg := 1741) dL_law__989 (by decide) ?_
    refine e_mask [true, true, true, true, true, false, false] (lv' := [some (.ref b), some (.ref x), some (.ref m), some (.ref o), some (.int i), none, none]) rfl ?_
    exact hN _ _ _ h
  · replace h := h.2 hc
    refine e_iconst C (v := (0 : Int32)) (by decide) dL_law__987 (pc' := 988) rfl ?_
    exact h.elim
def L_13 (G : Gx) (L : Nat) (xs : Nat → Int32) (x m o : Nat) (i : Int32) (cn sn : Nat) (ws : va_W) (N : Nat → Nat → va_W → Prop) : Prop := ∀ (J1163 : Nat → Nat → va_W → Prop), (∀ (cn : Nat) (sn : Nat) (ws : va_W), N cn sn ws → J1163 cn sn ws) → qX L xs (i + (1 : Int32)) (fun v1 => qX L xs (i + (2 : Int32)) (fun v2 => qX L xs (i + (3 : Int32)) (fun v3 => qX L xs (i + (4 : Int32)) (fun v4 => qX L xs (i + (5 : Int32)) (fun v5 => qX L xs (i + (6 : Int32)) (fun v6 => qX L xs (i + (7 : Int32)) (fun v7 => qX L xs (i + (8 : Int32)) (fun v8 => qX L xs (i + (9 : Int32)) (fun v9 => qX L xs (i + (10 : Int32)) (fun v10 => (F_L_heirs G x v1 v2 v3 v4 v5 v6 v7 v8 v9 v10 o ws (fun v11 ws => qX L xs (i + (1 : Int32)) (fun v12 => qX L xs (i + (2 : Int32)) (fun v13 => qX L xs (i + (3 : Int32)) (fun v14 => qX L xs (i + (4 : Int32)) (fun v15 => qX L xs (i + (5 : Int32)) (fun v16 => qX L xs (i + (6 : Int32)) (fun v17 => qX L xs (i + (7 : Int32)) (fun v18 => qX L xs (i + (8 : Int32)) (fun v19 => qX L xs (i + (9 : Int32)) (fun v20 => qX L xs (i + (10 : Int32)) (fun v21 => (qV 7 m ws ∧ F_X7_heirs G m v12 v13 v14 v15 v16 v17 v18 v19 v20 v21 ws (fun v22 ws => (qV 7 m ws ∧ F_X7_thrown G m ws (fun v23 ws => ((v23 = v11 → ((¬ v11 = 0 → J1163 (cn + 3) (sn + 18) ws) ∧ (v11 = 0 → qLa (gc G 5) o (0 : Int32) ws (fun v24 => (((lg_cmp v24 v22.toInt64) = 0 → J1163 (cn + 3) (sn + 18) ws) ∧ (¬ (lg_cmp v24 v22.toInt64) = 0 → False)))))) ∧ (¬ v23 = v11 → False))))))))))))))))))))))))))))
set_option maxRecDepth 20000 in
set_option maxHeartbeats 4000000 in
theorem lc_13 {K : Kx} {G : Gx} {b L x m o cn sn : Nat} {xs : Nat → Int32} {i : Int32} {ws : va_W} {N : Nat → Nat → va_W → Prop} (hst : (gl G).stackTraces = false) (C : Cx K G code 7 RL ret wsL_law_ room_1) (hX : Sc K G b L xs) (hcn : cn + 20 ≤ 601024) (hsn : sn + 200 ≤ 7293034)
    (hN : ∀ cn sn ws, N cn sn ws → Ev K G 7 cn sn 1741 [some (.ref b), some (.ref x), some (.ref m), some (.ref o), some (.int i), none, none] [] ws) (h : L_13 G L xs x m o i cn sn ws N) : Ev K G 7 cn sn 992 [some (.ref b), some (.ref x), some (.ref m), some (.ref o), some (.int i), none, none] [] ws := by
  replace h := h (fun cn sn ws => (cn + 16 ≤ 601024 ∧ sn + 160 ≤ 7293034) → Ev K G 7 cn sn 1163 [some (.ref b), some (.ref x), some (.ref m), some (.ref o), some (.int i), none, none] [] ws)
  replace h := h (by
    intro cn sn ws h hb9
    obtain ⟨hcn9, hsn9⟩ := hb9
    show Ev K G 7 cn sn 1163 [some (.ref b), some (.ref x), some (.ref m), some (.ref o), some (.int i), none, none] [] ws
    refine e_goto C (tg := 1741) dL_law__1163 (by decide) ?_
    exact hN _ _ _ h)
  refine e_aload_n C (x := x) rfl dL_law__992 (pc' := 993) rfl ?_
  refine e_aload_n C (x := b) rfl dL_law__993 (pc' := 994) rfl ?_
  refine e_iload C (x := i) rfl dL_law__994 (pc' := 996) rfl ?_
  refine e_iconst C (v := (1 : Int32)) (by decide) dL_law__996 (pc' := 997) rfl ?_
  refine e_iadd C dL_law__997 (pc' := 998) rfl ?_
  refine f_sld C hX dL_law__998 (pc' := 999) rfl h (fun v1 h => ?_)
  refine e_aload_n C (x := b) rfl dL_law__999 (pc' := 1000) rfl ?_
  refine e_iload C (x := i) rfl dL_law__1000 (pc' := 1002) rfl ?_
  refine e_iconst C (v := (2 : Int32)) (by decide) dL_law__1002 (pc' := 1003) rfl ?_
  refine e_iadd C dL_law__1003 (pc' := 1004) rfl ?_
  refine f_sld C hX dL_law__1004 (pc' := 1005) rfl h (fun v2 h => ?_)
  refine e_aload_n C (x := b) rfl dL_law__1005 (pc' := 1006) rfl ?_
  refine e_iload C (x := i) rfl dL_law__1006 (pc' := 1008) rfl ?_
  refine e_iconst C (v := (3 : Int32)) (by decide) dL_law__1008 (pc' := 1009) rfl ?_
  refine e_iadd C dL_law__1009 (pc' := 1010) rfl ?_
  refine f_sld C hX dL_law__1010 (pc' := 1011) rfl h (fun v3 h => ?_)
  refine e_aload_n C (x := b) rfl dL_law__1011 (pc' := 1012) rfl ?_
  refine e_iload C (x := i) rfl dL_law__1012 (pc' := 1014) rfl ?_
  refine e_iconst C (v := (4 : Int32)) (by decide) dL_law__1014 (pc' := 1015) rfl ?_
  refine e_iadd C dL_law__1015 (pc' := 1016) rfl ?_
  refine f_sld C hX dL_law__1016 (pc' := 1017) rfl h (fun v4 h => ?_)
  refine e_aload_n C (x := b) rfl dL_law__1017 (pc' := 1018) rfl ?_
  refine e_iload C (x := i) rfl dL_law__1018 (pc' := 1020) rfl ?_
  refine e_iconst C (v := (5 : Int32)) (by decide) dL_law__1020 (pc' := 1021) rfl ?_
  refine e_iadd C dL_law__1021 (pc' := 1022) rfl ?_
  refine f_sld C hX dL_law__1022 (pc' := 1023) rfl h (fun v5 h => ?_)
  refine e_aload_n C (x := b) rfl dL_law__1023 (pc' := 1024) rfl ?_
  refine e_iload C (x := i) rfl dL_law__1024 (pc' := 1026) rfl ?_
  refine e_bipush C (v := (6 : Int32)) (by decide) dL_law__1026 (pc' := 1028) rfl ?_
  refine e_iadd C dL_law__1028 (pc' := 1029) rfl ?_
  refine f_sld C hX dL_law__1029 (pc' := 1030) rfl h (fun v6 h => ?_)
  refine e_aload_n C (x := b) rfl dL_law__1030 (pc' := 1031) rfl ?_
  refine e_iload C (x := i) rfl dL_law__1031 (pc' := 1033) rfl ?_
  refine e_bipush C (v := (7 : Int32)) (by decide) dL_law__1033 (pc' := 1035) rfl ?_
  refine e_iadd C dL_law__1035 (pc' := 1036) rfl ?_
  refine f_sld C hX dL_law__1036 (pc' := 1037) rfl h (fun v7 h => ?_)
  refine e_aload_n C (x := b) rfl dL_law__1037 (pc' := 1038) rfl ?_
  refine e_iload C (x := i) rfl dL_law__1038 (pc' := 1040) rfl ?_
  refine e_bipush C (v := (8 : Int32)) (by decide) dL_law__1040 (pc' := 1042) rfl ?_
  refine e_iadd C dL_law__1042 (pc' := 1043) rfl ?_
  refine f_sld C hX dL_law__1043 (pc' := 1044) rfl h (fun v8 h => ?_)
  refine e_aload_n C (x := b) rfl dL_law__1044 (pc' := 1045) rfl ?_
  refine e_iload C (x := i) rfl dL_law__1045 (pc' := 1047) rfl ?_
  refine e_bipush C (v := (9 : Int32)) (by decide) dL_law__1047 (pc' := 1049) rfl ?_
  refine e_iadd C dL_law__1049 (pc' := 1050) rfl ?_
  refine f_sld C hX dL_law__1050 (pc' := 1051) rfl h (fun v9 h => ?_)
  refine e_aload_n C (x := b) rfl dL_law__1051 (pc' := 1052) rfl ?_
  refine e_iload C (x := i) rfl dL_law__1052 (pc' := 1054) rfl ?_
  refine e_bipush C (v := (10 : Int32)) (by decide) dL_law__1054 (pc' := 1056) rfl ?_
  refine e_iadd C dL_law__1056 (pc' := 1057) rfl ?_
  refine f_sld C hX dL_law__1057 (pc' := 1058) rfl h (fun v10 h => ?_)
  refine e_aload_n C (x := o) rfl dL_law__1058 (pc' := 1059) rfl ?_
  refine e_calli (run_SW (n := 12) C (m_L_heirs hst h) gL_law__L_heirs rfl ⟨by decide, by decide, by decide +kernel⟩ ⟨by decide, by decide⟩ rfl (Nat.le_of_ble_eq_true rfl) dL_law__1059 ⟨(by show cn + 3 ≤ 601024; omega), (by show sn + 18 ≤ 7293034; omega)⟩ (As := [.ref x, .int v1, .int v2, .int v3, .int v4, .int v5, .int v6, .int v7, .int v8, .int v9, .int v10, .ref o]) rfl) (pc' := 1062) rfl (cn' := cn + 3) (sn' := sn + 18) rfl rfl (fun v11 ws h => ?_)
  refine e_istore C (by decide) dL_law__1062 (pc' := 1064) rfl (lv' := [some (.ref b), some (.ref x), some (.ref m), some (.ref o), some (.int i), some (.int v11), none]) rfl ?_
  refine e_aload_n C (x := m) rfl dL_law__1064 (pc' := 1065) rfl ?_
  refine e_aload_n C (x := b) rfl dL_law__1065 (pc' := 1066) rfl ?_
  refine e_iload C (x := i) rfl dL_law__1066 (pc' := 1068) rfl ?_
  refine e_iconst C (v := (1 : Int32)) (by decide) dL_law__1068 (pc' := 1069) rfl ?_
  refine e_iadd C dL_law__1069 (pc' := 1070) rfl ?_
  refine f_sld C hX dL_law__1070 (pc' := 1071) rfl h (fun v12 h => ?_)
  refine e_aload_n C (x := b) rfl dL_law__1071 (pc' := 1072) rfl ?_
  refine e_iload C (x := i) rfl dL_law__1072 (pc' := 1074) rfl ?_
  refine e_iconst C (v := (2 : Int32)) (by decide) dL_law__1074 (pc' := 1075) rfl ?_
  refine e_iadd C dL_law__1075 (pc' := 1076) rfl ?_
  refine f_sld C hX dL_law__1076 (pc' := 1077) rfl h (fun v13 h => ?_)
  refine e_aload_n C (x := b) rfl dL_law__1077 (pc' := 1078) rfl ?_
  refine e_iload C (x := i) rfl dL_law__1078 (pc' := 1080) rfl ?_
  refine e_iconst C (v := (3 : Int32)) (by decide) dL_law__1080 (pc' := 1081) rfl ?_
  refine e_iadd C dL_law__1081 (pc' := 1082) rfl ?_
  refine f_sld C hX dL_law__1082 (pc' := 1083) rfl h (fun v14 h => ?_)
  refine e_aload_n C (x := b) rfl dL_law__1083 (pc' := 1084) rfl ?_
  refine e_iload C (x := i) rfl dL_law__1084 (pc' := 1086) rfl ?_
  refine e_iconst C (v := (4 : Int32)) (by decide) dL_law__1086 (pc' := 1087) rfl ?_
  refine e_iadd C dL_law__1087 (pc' := 1088) rfl ?_
  refine f_sld C hX dL_law__1088 (pc' := 1089) rfl h (fun v15 h => ?_)
  refine e_aload_n C (x := b) rfl dL_law__1089 (pc' := 1090) rfl ?_
  refine e_iload C (x := i) rfl dL_law__1090 (pc' := 1092) rfl ?_
  refine e_iconst C (v := (5 : Int32)) (by decide) dL_law__1092 (pc' := 1093) rfl ?_
  refine e_iadd C dL_law__1093 (pc' := 1094) rfl ?_
  refine f_sld C hX dL_law__1094 (pc' := 1095) rfl h (fun v16 h => ?_)
  refine e_aload_n C (x := b) rfl dL_law__1095 (pc' := 1096) rfl ?_
  refine e_iload C (x := i) rfl dL_law__1096 (pc' := 1098) rfl ?_
  refine e_bipush C (v := (6 : Int32)) (by decide) dL_law__1098 (pc' := 1100) rfl ?_
  refine e_iadd C dL_law__1100 (pc' := 1101) rfl ?_
  refine f_sld C hX dL_law__1101 (pc' := 1102) rfl h (fun v17 h => ?_)
  refine e_aload_n C (x := b) rfl dL_law__1102 (pc' := 1103) rfl ?_
  refine e_iload C (x := i) rfl dL_law__1103 (pc' := 1105) rfl ?_
  refine e_bipush C (v := (7 : Int32)) (by decide) dL_law__1105 (pc' := 1107) rfl ?_
  refine e_iadd C dL_law__1107 (pc' := 1108) rfl ?_
  refine f_sld C hX dL_law__1108 (pc' := 1109) rfl h (fun v18 h => ?_)
  refine e_aload_n C (x := b) rfl dL_law__1109 (pc' := 1110) rfl ?_
  refine e_iload C (x := i) rfl dL_law__1110 (pc' := 1112) rfl ?_
  refine e_bipush C (v := (8 : Int32)) (by decide) dL_law__1112 (pc' := 1114) rfl ?_
  refine e_iadd C dL_law__1114 (pc' := 1115) rfl ?_
  refine f_sld C hX dL_law__1115 (pc' := 1116) rfl h (fun v19 h => ?_)
  refine e_aload_n C (x := b) rfl dL_law__1116 (pc' := 1117) rfl ?_
  refine e_iload C (x := i) rfl dL_law__1117 (pc' := 1119) rfl ?_
  refine e_bipush C (v := (9 : Int32)) (by decide) dL_law__1119 (pc' := 1121) rfl ?_
  refine e_iadd C dL_law__1121 (pc' := 1122) rfl ?_
  refine f_sld C hX dL_law__1122 (pc' := 1123) rfl h (fun v20 h => ?_)
  refine e_aload_n C (x := b) rfl dL_law__1123 (pc' := 1124) rfl ?_
  refine e_iload C (x := i) rfl dL_law__1124 (pc' := 1126) rfl ?_
  refine e_bipush C (v := (10 : Int32)) (by decide) dL_law__1126 (pc' := 1128) rfl ?_
  refine e_iadd C dL_law__1128 (pc' := 1129) rfl ?_
  refine f_sld C hX dL_law__1129 (pc' := 1130) rfl h (fun v21 h => ?_)
  obtain ⟨hv, h⟩ := h
  refine e_calli (run_V (n := 10) C (m_X7_heirs hst h) gL_law__X7_heirs rfl ⟨rfl, by decide, by decide, by decide +kernel⟩ ⟨by decide, by decide⟩ (ci := 7) rfl rfl hv rfl (Nat.le_of_ble_eq_true rfl) dL_law__1130 ⟨(by show cn + 3 ≤ 601024; omega), (by show sn + 18 ≤ 7293034; omega)⟩ (As := [.int v12, .int v13, .int v14, .int v15, .int v16, .int v17, .int v18, .int v19, .int v20, .int v21]) rfl) (pc' := 1133) rfl (cn' := cn + 3) (sn' := sn + 18) rfl rfl (fun v22 ws h => ?_)
  refine e_istore C (by decide) dL_law__1133 (pc' := 1135) rfl (lv' := [some (.ref b), some (.ref x), some (.ref m), some (.ref o), some (.int i), some (.int v11), some (.int v22)]) rfl ?_
  refine e_aload_n C (x := m) rfl dL_law__1135 (pc' := 1136) rfl ?_
  obtain ⟨hv, h⟩ := h
  refine e_calli (run_V (n := 0) C (m_X7_thrown hst h) gL_law__X7_thrown rfl ⟨rfl, by decide, by decide, by decide +kernel⟩ ⟨by decide, by decide⟩ (ci := 7) rfl rfl hv rfl (Nat.le_of_ble_eq_true rfl) dL_law__1136 ⟨(by show cn + 3 ≤ 601024; omega), (by show sn + 18 ≤ 7293034; omega)⟩ (As := []) rfl) (pc' := 1139) rfl (cn' := cn + 3) (sn' := sn + 18) rfl rfl (fun v23 ws h => ?_)
  refine e_iload C (x := v11) rfl dL_law__1139 (pc' := 1141) rfl ?_
  refine e_icmp_eq C (tg := 1146) dL_law__1141 (by decide) (pc' := 1144) rfl (fun hc => ?_) (fun hc => ?_)
  · replace h := h.1 hc
    refine e_iload C (x := v11) rfl dL_law__1146 (pc' := 1148) rfl ?_
    refine e_if_ne C (tg := 1163) dL_law__1148 (by decide) (pc' := 1151) rfl (fun hc => ?_) (fun hc => ?_)
    · replace h := h.1 hc
      refine e_mask [true, true, true, true, true, false, false] (lv' := [some (.ref b), some (.ref x), some (.ref m), some (.ref o), some (.int i), none, none]) rfl ?_
      exact h ⟨by omega, by omega⟩
    · replace h := h.2 hc
      refine e_aload_n C (x := o) rfl dL_law__1151 (pc' := 1152) rfl ?_
      refine e_iconst C (v := (0 : Int32)) (by decide) dL_law__1152 (pc' := 1153) rfl ?_
      refine f_laload C dL_law__1153 (pc' := 1154) rfl h (fun v24 h => ?_)
      refine e_iload C (x := v22) rfl dL_law__1154 (pc' := 1156) rfl ?_
      refine e_i2l C dL_law__1156 (pc' := 1157) rfl ?_
      refine e_lcmp C dL_law__1157 (pc' := 1158) rfl ?_
      refine e_if_eq C (tg := 1163) dL_law__1158 (by decide) (pc' := 1161) rfl (fun hc => ?_) (fun hc => ?_)
      · replace h := h.1 hc
        refine e_mask [true, true, true, true, true, false, false] (lv' := [some (.ref b), some (.ref x), some (.ref m), some (.ref o), some (.int i), none, none]) rfl ?_
        exact h ⟨by omega, by omega⟩
      · replace h := h.2 hc
        refine e_iconst C (v := (0 : Int32)) (by decide) dL_law__1161 (pc' := 1162) rfl ?_
        exact h.elim
  · replace h := h.2 hc
    refine e_iconst C (v := (0 : Int32)) (by decide) dL_law__1144 (pc' := 1145) rfl ?_
    exact h.elim
