/-! ===== the law's loop, out of its 25 cases ===== -/
def Lc (c : Nat) (G : Gx) (L : Nat) (xs : Nat → Int32) (x m o : Nat) (i : Int32) (cn sn : Nat) (ws : va_W) (N : Nat → Nat → va_W → Prop) : Prop := match c with
  | 0 => L_0 G L xs x m o i cn sn ws N
  | 1 => L_1 G L xs x m o i cn sn ws N
  | 2 => L_2 G L xs x m o i cn sn ws N
  | 3 => L_3 G L xs x m o i cn sn ws N
  | 4 => L_4 G L xs x m o i cn sn ws N
  | 5 => L_5 G L xs x m o i cn sn ws N
  | 6 => L_6 G L xs x m o i cn sn ws N
  | 7 => L_7 G L xs x m o i cn sn ws N
  | 8 => L_8 G L xs x m o i cn sn ws N
  | 9 => L_9 G L xs x m o i cn sn ws N
  | 10 => L_10 G L xs x m o i cn sn ws N
  | 11 => L_11 G L xs x m o i cn sn ws N
  | 12 => L_12 G L xs x m o i cn sn ws N
  | 13 => L_13 G L xs x m o i cn sn ws N
  | 14 => L_14 G L xs x m o i cn sn ws N
  | 15 => L_15 G L xs x m o i cn sn ws N
  | 16 => L_16 G L xs x m o i cn sn ws N
  | 17 => L_17 G L xs x m o i cn sn ws N
  | 18 => L_18 G L xs x m o i cn sn ws N
  | 19 => L_19 G L xs x m o i cn sn ws N
  | 20 => L_20 G L xs x m o i cn sn ws N
  | 21 => L_21 G L xs x m o i cn sn ws N
  | 22 => L_22 G L xs x m o i cn sn ws N
  | 23 => L_23 G L xs x m o i cn sn ws N
  | 24 => L_24 G L xs x m o i cn sn ws N
  | _ => True
/-- where a case may go on: a world of the same cells that is right again, with few more cells -/
def Nx (G : Gx) (ad : Nat → Nat) (Ok : Mem → Prop) (cn sn : Nat) (cn' sn' : Nat) (ws : va_W) : Prop := ∃ (M : Mem) (lf : Nat → Int64), Ok M ∧ cn' ≤ cn + 4 ∧ sn' ≤ sn + 24 ∧ ws = wM ad (gc G) lf M
theorem and31 (x : Int32) : ∃ q : Nat, q < 32 ∧ x &&& 31 = Int32.ofNat q := by
  obtain ⟨j, hj, e⟩ := pk_andE x (m := 31) 5 (by decide)
  exact ⟨j, hj, e⟩
set_option maxRecDepth 20000 in
set_option maxHeartbeats 4000000 in
theorem law_loop_open {K : Kx} {G : Gx} {b L : Nat} {xs : Nat → Int32} {ad : Nat → Nat} {Ok : Nat → Mem → Prop} (hst : (gl G).stackTraces = false) (C : Cx K G code 7 RL ret wsL_law_ room_1) (hX : Sc K G b L xs) (hL : L ≤ 5632)
    (hk : ∀ (c q cn sn : Nat) (M : Mem) (lf : Nat → Int64), c < 25 → 11 * q + 11 ≤ L → Ok q M → Lc c G L xs (ad 0) (ad 118) (ad 141) (nI (11 * q)) cn sn (wM ad (gc G) lf M) (Nx G ad (Ok (q + 1)) cn sn))
    (hsame : ∀ (q : Nat) (M : Mem), 11 * q + 11 ≤ L → Ok q M → Ok (q + 1) M)
    (hfin : ∀ cn sn lv ws, cn ≤ 601024 → sn ≤ 7293034 → Ev K G 7 cn sn 1747 lv [] ws) :
    ∀ (n q : Nat) (M : Mem) (lf : Nat → Int64) (cn sn : Nat), L < 11 * q + 11 * n → 11 * q ≤ L + 10 → Ok q M → cn ≤ 400 + 4 * q → sn ≤ 8000 + 24 * q → Ev K G 7 cn sn 23 [some (.ref b), some (.ref (ad 0)), some (.ref (ad 118)), some (.ref (ad 141)), some (.int (nI (11 * q))), none, none] [] (wM ad (gc G) lf M) := by
  intro n
  induction n with
  | zero =>
    intro q M lf cn sn h1 h2 hO h3 h4
    refine e_iload C (x := nI (11 * q)) rfl dL_law__23 (pc' := 25) rfl ?_
    refine e_aload_n C (x := b) rfl dL_law__25 (pc' := 26) rfl ?_
    refine e_slen C hX dL_law__26 (pc' := 27) rfl ?_
    refine e_bipush C (v := (11 : Int32)) (by decide) dL_law__27 (pc' := 29) rfl ?_
    refine e_isub C dL_law__29 (pc' := 30) rfl ?_
    refine e_icmp_gt C (tg := 1747) dL_law__30 (by decide) (pc' := 33) rfl (fun _ => hfin _ _ _ _ (by omega) (by omega)) (fun hc => absurd ?_ hc)
    have e1 : (Int32.ofNat L - 11).toInt = (L : Int) - 11 := pk_sub_toInt (a := L) (b := 11) (by omega) (by omega)
    have e2 : (nI (11 * q)).toInt = ((11 * q : Nat) : Int) := nI_toInt (by omega)
    rw [Int32.lt_iff_toInt_lt, e1, e2]
    omega
  | succ n ih =>
    intro q M lf cn sn h1 h2 hO h3 h4
    refine e_iload C (x := nI (11 * q)) rfl dL_law__23 (pc' := 25) rfl ?_
    refine e_aload_n C (x := b) rfl dL_law__25 (pc' := 26) rfl ?_
    refine e_slen C hX dL_law__26 (pc' := 27) rfl ?_
    refine e_bipush C (v := (11 : Int32)) (by decide) dL_law__27 (pc' := 29) rfl ?_
    refine e_isub C dL_law__29 (pc' := 30) rfl ?_
    refine e_icmp_gt C (tg := 1747) dL_law__30 (by decide) (pc' := 33) rfl (fun _ => hfin _ _ _ _ (by omega) (by omega)) (fun hc => ?_)
    have e1 : (Int32.ofNat L - 11).toInt = (L : Int) - 11 := pk_sub_toInt (a := L) (b := 11) (by omega) (by omega)
    have e2 : (nI (11 * q)).toInt = ((11 * q : Nat) : Int) := nI_toInt (by omega)
    rw [Int32.lt_iff_toInt_lt, e1, e2] at hc
    have hq : 11 * q + 11 ≤ L := by omega
    have hN : ∀ cn' sn' ws, Nx G ad (Ok (q + 1)) cn sn cn' sn' ws → Ev K G 7 cn' sn' 1741 [some (.ref b), some (.ref (ad 0)), some (.ref (ad 118)), some (.ref (ad 141)), some (.int (nI (11 * q))), none, none] [] ws := by
      intro cn' sn' ws hx
      obtain ⟨M', lf', g1, g2, g3, rfl⟩ := hx
      refine e_iinc C dL_law__1741 (x := nI (11 * q)) (v := nI (11 * (q + 1))) rfl ?_ (by decide) (pc' := 1744) rfl (lv' := [some (.ref b), some (.ref (ad 0)), some (.ref (ad 118)), some (.ref (ad 141)), some (.int (nI (11 * (q + 1)))), none, none]) rfl ?_
      · show nI (11 * q) + nI 11 = nI (11 * (q + 1))
        rw [nI_add]
        congr 1
      · refine e_goto C (tg := 23) dL_law__1744 (by decide) ?_
        exact ih (q + 1) M' lf' cn' sn' (by omega) (by omega) g1 (by omega) (by omega)
    refine e_aload_n C (x := b) rfl dL_law__33 (pc' := 34) rfl ?_
    refine e_iload C (x := nI (11 * q)) rfl dL_law__34 (pc' := 36) rfl ?_
    refine f_sld C hX dL_law__36 (pc' := 37) rfl (T := fun v => v = xs (nI (11 * q)).toNatClampNeg) ⟨vp_in_nI (by omega) (by omega), rfl⟩ (fun v hv => ?_)
    refine e_bipush C (v := (31 : Int32)) (by decide) dL_law__37 (pc' := 39) rfl ?_
    refine e_iand C dL_law__39 (pc' := 40) rfl ?_
    obtain ⟨c, hc32, ec⟩ := and31 v
    rw [show (v &&& (31 : Int32)) = Int32.ofNat c from ec]
    by_cases hc25 : c < 25
    · have hcase := hk c q cn sn M lf hc25 hq hO
      rcases (show c = 0 ∨ c = 1 ∨ c = 2 ∨ c = 3 ∨ c = 4 ∨ c = 5 ∨ c = 6 ∨ c = 7 ∨ c = 8 ∨ c = 9 ∨ c = 10 ∨ c = 11 ∨ c = 12 ∨ c = 13 ∨ c = 14 ∨ c = 15 ∨ c = 16 ∨ c = 17 ∨ c = 18 ∨ c = 19 ∨ c = 20 ∨ c = 21 ∨ c = 22 ∨ c = 23 ∨ c = 24 by omega) with rfl | rfl | rfl | rfl | rfl | rfl | rfl | rfl | rfl | rfl | rfl | rfl | rfl | rfl | rfl | rfl | rfl | rfl | rfl | rfl | rfl | rfl | rfl | rfl | rfl
      · refine e_tabIn C (tg := 156) dL_law__40 (by decide) (by decide) rfl (by decide) ?_
        exact lc_0 hst C hX (by omega) (by omega) hN hcase
      · refine e_tabIn C (tg := 229) dL_law__40 (by decide) (by decide) rfl (by decide) ?_
        exact lc_1 hst C hX (by omega) (by omega) hN hcase
      · refine e_tabIn C (tg := 254) dL_law__40 (by decide) (by decide) rfl (by decide) ?_
        exact lc_2 hst C hX (by omega) (by omega) hN hcase
      · refine e_tabIn C (tg := 302) dL_law__40 (by decide) (by decide) rfl (by decide) ?_
        exact lc_3 hst C hX (by omega) (by omega) hN hcase
      · refine e_tabIn C (tg := 346) dL_law__40 (by decide) (by decide) rfl (by decide) ?_
        exact lc_4 hst C hX (by omega) (by omega) hN hcase
      · refine e_tabIn C (tg := 438) dL_law__40 (by decide) (by decide) rfl (by decide) ?_
        exact lc_5 hst C hX (by omega) (by omega) hN hcase
      · refine e_tabIn C (tg := 501) dL_law__40 (by decide) (by decide) rfl (by decide) ?_
        exact lc_6 hst C hX (by omega) (by omega) hN hcase
      · refine e_tabIn C (tg := 581) dL_law__40 (by decide) (by decide) rfl (by decide) ?_
        exact lc_7 hst C hX (by omega) (by omega) hN hcase
      · refine e_tabIn C (tg := 637) dL_law__40 (by decide) (by decide) rfl (by decide) ?_
        exact lc_8 hst C hX (by omega) (by omega) hN hcase
      · refine e_tabIn C (tg := 740) dL_law__40 (by decide) (by decide) rfl (by decide) ?_
        exact lc_9 hst C hX (by omega) (by omega) hN hcase
      · refine e_tabIn C (tg := 796) dL_law__40 (by decide) (by decide) rfl (by decide) ?_
        exact lc_10 hst C hX (by omega) (by omega) hN hcase
      · refine e_tabIn C (tg := 852) dL_law__40 (by decide) (by decide) rfl (by decide) ?_
        exact lc_11 hst C hX (by omega) (by omega) hN hcase
      · refine e_tabIn C (tg := 920) dL_law__40 (by decide) (by decide) rfl (by decide) ?_
        exact lc_12 hst C hX (by omega) (by omega) hN hcase
      · refine e_tabIn C (tg := 992) dL_law__40 (by decide) (by decide) rfl (by decide) ?_
        exact lc_13 hst C hX (by omega) (by omega) hN hcase
      · refine e_tabIn C (tg := 1166) dL_law__40 (by decide) (by decide) rfl (by decide) ?_
        exact lc_14 hst C hX (by omega) (by omega) hN hcase
      · refine e_tabIn C (tg := 1238) dL_law__40 (by decide) (by decide) rfl (by decide) ?_
        exact lc_15 hst C hX (by omega) (by omega) hN hcase
      · refine e_tabIn C (tg := 1294) dL_law__40 (by decide) (by decide) rfl (by decide) ?_
        exact lc_16 hst C hX (by omega) (by omega) hN hcase
      · refine e_tabIn C (tg := 1362) dL_law__40 (by decide) (by decide) rfl (by decide) ?_
        exact lc_17 hst C hX (by omega) (by omega) hN hcase
      · refine e_tabIn C (tg := 1430) dL_law__40 (by decide) (by decide) rfl (by decide) ?_
        exact lc_18 hst C hX (by omega) (by omega) hN hcase
      · refine e_tabIn C (tg := 1474) dL_law__40 (by decide) (by decide) rfl (by decide) ?_
        exact lc_19 hst C hX (by omega) (by omega) hN hcase
      · refine e_tabIn C (tg := 1487) dL_law__40 (by decide) (by decide) rfl (by decide) ?_
        exact lc_20 hst C hX (by omega) (by omega) hN hcase
      · refine e_tabIn C (tg := 1543) dL_law__40 (by decide) (by decide) rfl (by decide) ?_
        exact lc_21 hst C hX (by omega) (by omega) hN hcase
      · refine e_tabIn C (tg := 1623) dL_law__40 (by decide) (by decide) rfl (by decide) ?_
        exact lc_22 hst C hX (by omega) (by omega) hN hcase
      · refine e_tabIn C (tg := 1703) dL_law__40 (by decide) (by decide) rfl (by decide) ?_
        exact lc_23 hst C hX (by omega) (by omega) hN hcase
      · refine e_tabIn C (tg := 1716) dL_law__40 (by decide) (by decide) rfl (by decide) ?_
        exact lc_24 hst C hX (by omega) (by omega) hN hcase
    · refine e_tabOut C (tg := 1741) dL_law__40 (Or.inr ?_) (by decide) ?_
      · have e3 : (Int32.ofNat c).toInt = (c : Int) := nI_toInt (by omega)
        rw [e3]
        omega
      · exact hN cn sn _ ⟨M, lf, hsame q M hq hO, by omega, by omega, rfl⟩
