/-! ===== the words' texts: String.length(), String.charAt(int) on them ===== -/
section STR
variable {K : Kx} {G : Gx} {cc : ByteArray} {nL cn sn pc pc' : Nat} {own : String} {ret : Option FieldType} {Ts : List Cond} {rm : Room} {lv lv' : List (Option Value)} {st : List Value} {ws : va_W} {i ix : Nat}
theorem e_compact (C : Cx K G cc nL own ret Ts rm) (d : decode cc pc = .ok (.getstatic ix, 3)) (hn : pc + 3 = pc') (hlk : Cond.fieldLink own ix RJ0 "COMPACT_STRINGS" "Z" ∈ Ts) (k : Ev K G nL cn sn pc' lv (.int 1 :: st) ws) : Ev K G nL cn sn pc lv st ws := by
  obtain ⟨p, e, R, s, m, args, below, meth, c, Q⟩ := K
  intro H ls locs hl hP hD hS
  obtain ⟨hx, hb, hml, hown, hts, hr, hlk9, hK, hbs, hO, hxt, hR, hst⟩ := C
  subst hn
  exact va_gets hx hb hO.2.2.2.2.2.2.2.2.1 hS hown (hts _ hlk) (fun _ h => h) d (k H ls locs hl hP hD hS)
theorem e_sioobe (C : Cx K G cc nL own ret Ts rm) (d : decode cc pc = .ok (.getstatic ix, 3)) (hn : pc + 3 = pc') (hlk : Cond.fieldLink own ix RJ3 "SIOOBE_FORMATTER" "Ljava/util/function/BiFunction;" ∈ Ts) (k : ∀ v, (v = .null ∨ ∃ t, v = .ref t) → Ev K G nL cn sn pc' lv (v :: st) ws) : Ev K G nL cn sn pc lv st ws := by
  obtain ⟨p, e, R, s, m, args, below, meth, c, Q⟩ := K
  intro H ls locs hl hP hD hS
  obtain ⟨hx, hb, hml, hown, hts, hr, hlk9, hK, hbs, hO, hxt, hR, hst⟩ := C
  subst hn
  rcases hO.2.2.2.2.2.2.2.2.2.1 with h | ⟨t, h⟩
  · exact va_gets hx hb h hS hown (hts _ hlk) (fun _ h => h) d (k _ (Or.inl rfl) H ls locs hl hP hD hS)
  · exact va_gets hx hb h hS hown (hts _ hlk) (fun _ h => h) d (k _ (Or.inr ⟨t, rfl⟩) H ls locs hl hP hD hS)
theorem e_strVal (C : Cx K G cc nL own ret Ts rm) (hi : i < 6) (d : decode cc pc = .ok (.getfield ix, 3)) (hn : pc + 3 = pc') (hlk : Cond.fieldLink own ix RJ0 "value" "[B" ∈ Ts) (k : Ev K G nL cn sn pc' lv (.ref (gv G i) :: st) ws) : Ev K G nL cn sn pc lv (.ref (gk G i) :: st) ws := by
  obtain ⟨p, e, R, s, m, args, below, meth, c, Q⟩ := K
  intro H ls locs hl hP hD hS
  obtain ⟨hx, hb, hml, hown, hts, hr, hlk9, hK, hbs, hO, hxt, hR, hst⟩ := C
  subst hn
  exact vk_getf hx hb (hO.2.2.2.1.1 i hi).2.2.1 hS hown (hts _ hlk) (fun _ h => h) d (k H ls locs hl hP hD hS)
theorem e_strCoder (C : Cx K G cc nL own ret Ts rm) (hi : i < 6) (d : decode cc pc = .ok (.getfield ix, 3)) (hn : pc + 3 = pc') (hlk : Cond.fieldLink own ix RJ0 "coder" "B" ∈ Ts) (k : Ev K G nL cn sn pc' lv (.int 0 :: st) ws) : Ev K G nL cn sn pc lv (.ref (gk G i) :: st) ws := by
  obtain ⟨p, e, R, s, m, args, below, meth, c, Q⟩ := K
  intro H ls locs hl hP hD hS
  obtain ⟨hx, hb, hml, hown, hts, hr, hlk9, hK, hbs, hO, hxt, hR, hst⟩ := C
  subst hn
  exact vk_getf hx hb (hO.2.2.2.1.1 i hi).2.1 hS hown (hts _ hlk) (fun _ h => h) d (k H ls locs hl hP hD hS)
theorem e_strLen (C : Cx K G cc nL own ret Ts rm) (hi : i < 6) (d : decode cc pc = .ok (.arraylength, 1)) (hn : pc + 1 = pc') (k : Ev K G nL cn sn pc' lv (.int (nI (wLen.getD i 0)) :: st) ws) : Ev K G nL cn sn pc lv (.ref (gv G i) :: st) ws := by
  obtain ⟨p, e, R, s, m, args, below, meth, c, Q⟩ := K
  intro H ls locs hl hP hD hS
  obtain ⟨hx, hb, hml, hown, hts, hr, hlk9, hK, hbs, hO, hxt, hR, hst⟩ := C
  subst hn
  exact va_tlen hx hb (hO.2.2.2.1.1 i hi).2.2.2 hS rfl d (k H ls locs hl hP hD hS)
theorem e_strBa (C : Cx K G cc nL own ret Ts rm) (hi : i < 6) {j : Int32} (hj : vp_in j (wLen.getD i 0)) (d : decode cc pc = .ok (.baload, 1)) (hn : pc + 1 = pc') (k : Ev K G nL cn sn pc' lv (.int ((wByt.getD i []).getD j.toNatClampNeg 0) :: st) ws) : Ev K G nL cn sn pc lv (.int j :: .ref (gv G i) :: st) ws := by
  obtain ⟨p, e, R, s, m, args, below, meth, c, Q⟩ := K
  intro H ls locs hl hP hD hS
  obtain ⟨hx, hb, hml, hown, hts, hr, hlk9, hK, hbs, hO, hxt, hR, hst⟩ := C
  subst hn
  exact va_tb hx hb (hO.2.2.2.1.1 i hi).2.2.2 hS hj rfl d (k H ls locs hl hP hD hS)
theorem e_i2c (C : Cx K G cc nL own ret Ts rm) {x : Int32} (d : decode cc pc = .ok (.i2c, 1)) (hn : pc + 1 = pc') (k : Ev K G nL cn sn pc' lv (.int (x.toUInt32 % 65536).toInt32 :: st) ws) : Ev K G nL cn sn pc lv (.int x :: st) ws := by
  obtain ⟨p, e, R, s, m, args, below, meth, c, Q⟩ := K
  intro H ls locs hl hP hD hS
  obtain ⟨hx, hb, hml, hown, hts, hr, hlk9, hK, hbs, hO, hxt, hR, hst⟩ := C
  subst hn
  exact lv_i2c hx hb d rfl (k H ls locs hl hP hD hS)
theorem r_nar {ty : FieldType} {Q : Int32 → va_W → Prop} (C : Cx K G cc nL own (some ty) Ts rm) (F : Fin K G rm (QtI G Q)) {v : Int32} (d : decode cc pc = .ok (.ireturn, 1)) (h1 : cn ≤ rm.cells) (h2 : sn ≤ rm.slots) (hv : narrow ty (.int v) = .int v) (hq : Q v ws) : Ev K G nL cn sn pc lv [.int v] ws := by
  obtain ⟨p, e, R, s, m, args, below, meth, c, Qf⟩ := K
  intro H ls locs hl hP hD hS
  obtain ⟨hx, hb, hml, hown, hts, hr, hlk, hK, hbs, hO, hxt, hR, hst⟩ := C
  cases F
  refine W.widen h1 h2 ?_
  exact W.zret (v := v) hx hb hr hv (fun t ht hW => ⟨⟨v, ws, rfl, hq, Wd.at_end hbs hK hO hP hD hS ht hW⟩, hS.F ht⟩) hS.2.2 d hlk
variable {y : MethodName} {wy wy' : List Cond} {rm' : Room} {bytes : ByteArray} {maxL n : Nat} {ret' : Option FieldType} {As pst : List Value} {Qc : Array Value → State → Outcome → State → Prop}
theorem run_SO (C : Cx K G cc nL own ret Ts rm) (hM : Mt G y wy rm' As ws Qc) (hG : GoodIn Ts (va_wsS own ix y wy)) (hw : wy = Cond.code y bytes maxL ret' :: wy')
    (hd : y.cls ≠ "java/lang/invoke/MethodHandle" ∧ y.cls ≠ "java/lang/invoke/VarHandle" ∧ (parseMethodDescriptor y.desc).map (fun d => d.parameters.length) = some n) (hR : rm'.frames + 1 ≤ rm.frames ∧ 8 + (maxL + 11) + rm'.locals ≤ rm.locals)
    (hn : As.length = n) (hst9 : (st.map fun v => v.category).sum ≤ 8) (d : decode cc pc = .ok (.invokestatic ix, 3)) (hcs : cn + rm'.cells ≤ rm.cells ∧ sn + rm'.slots ≤ rm.slots) (hp : pst = As.reverse ++ st) : Rn K G nL cn sn pc lv pst st ws rm'.cells rm'.slots As Qc := by
  obtain ⟨p, e, R, s, m, args, below, meth, c, Qf⟩ := K
  intro H ls locs hl hP hD hS
  obtain ⟨hx, hb, hml, hown, hts, hr, hlk, hK, hbs, hO, hxt, hRr, hst⟩ := C
  subst hRr
  exact va_runS (As := As) (rest := st) ⟨hx, hb, hml, hown, hts⟩ hM (va_cwS n hts hG hw rfl rfl hd hR) ⟨Wd.blind, fun U hU hW => ⟨rfl, Wd.at_call hbs hK hO hP hD hS hU hW⟩⟩ rfl hn hl.1 hp (lv_room hst9) d hcs
theorem run_VS (C : Cx K G cc nL own ret Ts rm) (hi : i < 6) (hM : Mt G y wy rm' (.ref (gk G i) :: As) ws Qc) (hG : GoodIn Ts (wsV own ix RJ0 y wy)) (hw : wy = Cond.code y bytes maxL ret' :: wy')
    (hd : y.cls = RJ0 ∧ y.cls ≠ "java/lang/invoke/MethodHandle" ∧ y.cls ≠ "java/lang/invoke/VarHandle" ∧ (parseMethodDescriptor y.desc).map (fun d => d.parameters.length) = some n) (hR : rm'.frames + 1 ≤ rm.frames ∧ 8 + (maxL + 11) + rm'.locals ≤ rm.locals)
    (hn : As.length = n) (hst9 : (st.map fun v => v.category).sum ≤ 8) (d : decode cc pc = .ok (.invokevirtual ix, 3)) (hcs : cn + rm'.cells ≤ rm.cells ∧ sn + rm'.slots ≤ rm.slots) (hp : pst = As.reverse ++ .ref (gk G i) :: st) : Rn K G nL cn sn pc lv pst st ws rm'.cells rm'.slots (.ref (gk G i) :: As) Qc := by
  obtain ⟨p, e, R, s, m, args, below, meth, c, Qf⟩ := K
  intro H ls locs hl hP hD hS
  obtain ⟨hx, hb, hml, hown, hts, hr, hlk, hK, hbs, hO, hxt, hRr, hst⟩ := C
  subst hRr
  exact va_runV (As := As) (rest := st) ⟨hx, hb, hml, hown, hts⟩ hM (cwV n hts hG hw rfl rfl hd hR) ⟨Wd.blind, vk_recv hO.2.2.2.1 hi hS, fun U hU hW => ⟨rfl, Wd.at_call hbs hK hO hP hD hS hU hW⟩⟩ rfl hn hl.1 hp (lv_room hst9) d hcs
end STR
abbrev rmJ (f lo : Nat) : Room := { frames := f, cells := 0, slots := 0, locals := lo }
section JDK
variable {G : Gx} {ws : va_W} {Q : Int32 → va_W → Prop} {i : Nat}
set_option maxRecDepth 20000 in
theorem m_J0_coder (hst : (gl G).stackTraces = false) (hi : i < 6) (h : Q 0 ws) : Mt G yJ0_coder_7d493 wsJ0_coder_7d493 (rmJ 0 0) [.ref (gk G i)] ws (QtI G Q) := by
  refine mk_Mt (cc := cJ0_coder_7d493) (nL := 1) (own := RJ0) (ret := some .byte) (lv0 := [some (.ref (gk G i))]) hst (by decide) rfl rfl (Nat.le_of_ble_eq_true rfl) rfl ?_
  intro K C F
  refine e_compact C dJ0_coder_7d493_0 (pc' := 3) rfl (by decide +kernel) ?_
  refine e_if_eq C (tg := 13) dJ0_coder_7d493_3 (by decide) (pc' := 6) rfl (fun hc => absurd hc (by decide)) (fun _ => ?_)
  refine e_aload_n C (x := gk G i) rfl dJ0_coder_7d493_6 (pc' := 7) rfl ?_
  refine e_strCoder C hi dJ0_coder_7d493_7 (pc' := 10) rfl (by decide +kernel) ?_
  refine e_goto C (tg := 14) dJ0_coder_7d493_10 (by decide) ?_
  exact r_nar C F dJ0_coder_7d493_14 (by decide) (by decide) rfl h
set_option maxRecDepth 20000 in
theorem m_J0_isLatin1 (hst : (gl G).stackTraces = false) (hi : i < 6) (h : Q 1 ws) : Mt G yJ0_isLatin1_aae02 wsJ0_isLatin1_aae02 (rmJ 0 0) [.ref (gk G i)] ws (QtI G Q) := by
  refine mk_Mt (cc := cJ0_isLatin1_aae02) (nL := 1) (own := RJ0) (ret := some .boolean) (lv0 := [some (.ref (gk G i))]) hst (by decide) rfl rfl (Nat.le_of_ble_eq_true rfl) rfl ?_
  intro K C F
  refine e_compact C dJ0_isLatin1_aae02_0 (pc' := 3) rfl (by decide +kernel) ?_
  refine e_if_eq C (tg := 17) dJ0_isLatin1_aae02_3 (by decide) (pc' := 6) rfl (fun hc => absurd hc (by decide)) (fun _ => ?_)
  refine e_aload_n C (x := gk G i) rfl dJ0_isLatin1_aae02_6 (pc' := 7) rfl ?_
  refine e_strCoder C hi dJ0_isLatin1_aae02_7 (pc' := 10) rfl (by decide +kernel) ?_
  refine e_if_ne C (tg := 17) dJ0_isLatin1_aae02_10 (by decide) (pc' := 13) rfl (fun hc => absurd rfl hc) (fun _ => ?_)
  refine e_iconst C (v := (1 : Int32)) (by decide) dJ0_isLatin1_aae02_13 (pc' := 14) rfl ?_
  refine e_goto C (tg := 18) dJ0_isLatin1_aae02_14 (by decide) ?_
  exact r_bool C F dJ0_isLatin1_aae02_18 (by decide) (by decide) (Or.inr rfl) h
set_option maxRecDepth 20000 in
theorem m_J3_checkIndex (hst : (gl G).stackTraces = false) {a b : Int32} {v : Value} (hv : v = .null ∨ ∃ t, v = .ref t) (h0 : ¬ a < 0) (h1 : a < b) (h : Q a ws) : Mt G yJ3_checkIndex_8e157 wsJ3_checkIndex_8e157 (rmJ 0 0) [.int a, .int b, v] ws (QtI G Q) := by
  refine mk_Mt (cc := cJ3_checkIndex_8e157) (nL := 3) (own := RJ3) (ret := some .int) (lv0 := [some (.int a), some (.int b), some v]) hst (by decide) rfl rfl (by rcases hv with rfl | ⟨t, rfl⟩ <;> exact Nat.le_of_ble_eq_true rfl) (by rcases hv with rfl | ⟨t, rfl⟩ <;> rfl) ?_
  intro K C F
  refine e_iload_n C (x := a) rfl dJ3_checkIndex_8e157_0 (pc' := 1) rfl ?_
  refine e_if_lt C (tg := 9) dJ3_checkIndex_8e157_1 (by decide) (pc' := 4) rfl (fun hc => absurd hc h0) (fun _ => ?_)
  refine e_iload_n C (x := a) rfl dJ3_checkIndex_8e157_4 (pc' := 5) rfl ?_
  refine e_iload_n C (x := b) rfl dJ3_checkIndex_8e157_5 (pc' := 6) rfl ?_
  refine e_icmp_lt C (tg := 16) dJ3_checkIndex_8e157_6 (by decide) (pc' := 9) rfl (fun _ => ?_) (fun hc => absurd h1 hc)
  refine e_iload_n C (x := a) rfl dJ3_checkIndex_8e157_16 (pc' := 17) rfl ?_
  exact r_int C F dJ3_checkIndex_8e157_17 (by decide) (by decide) h
set_option maxRecDepth 20000 in
theorem m_J0_checkIndex (hst : (gl G).stackTraces = false) {a b : Int32} {Q : va_W → Prop} (h0 : ¬ a < 0) (h1 : a < b) (h : Q ws) : Mt G yJ0_checkIndex_df160 wsJ0_checkIndex_df160 (rmJ 1 22) [.int a, .int b] ws (QtV G Q) := by
  refine mk_Mt (cc := cJ0_checkIndex_df160) (nL := 2) (own := RJ0) (ret := none) (lv0 := [some (.int a), some (.int b)]) hst (by decide) rfl rfl (Nat.le_of_ble_eq_true rfl) rfl ?_
  intro K C F
  refine e_iload_n C (x := a) rfl dJ0_checkIndex_df160_0 (pc' := 1) rfl ?_
  refine e_iload_n C (x := b) rfl dJ0_checkIndex_df160_1 (pc' := 2) rfl ?_
  refine e_sioobe C dJ0_checkIndex_df160_2 (pc' := 5) rfl (by decide +kernel) (fun v hv => ?_)
  refine e_calli (run_SO (n := 3) C (m_J3_checkIndex (Q := fun r u => r = a ∧ ws = u) hst hv h0 h1 ⟨rfl, rfl⟩) gJ0_checkIndex_df160_J3_checkIndex_8e157 rfl ⟨by decide, by decide, by decide +kernel⟩ ⟨by decide, by decide⟩ rfl (Nat.le_of_ble_eq_true rfl) dJ0_checkIndex_df160_5 ⟨by decide, by decide⟩ (As := [.int a, .int b, v]) rfl) (pc' := 8) rfl (cn' := 0) (sn' := 0) rfl rfl (fun r u hq => ?_)
  obtain ⟨rfl, rfl⟩ := hq
  refine e_pop C rfl dJ0_checkIndex_df160_8 (pc' := 9) rfl ?_
  exact r_void C F dJ0_checkIndex_df160_9 (by decide) (by decide) h
theorem w_all : ∀ i, i < 6 → wLen.getD i 0 < 2 ^ 31 ∧ ∀ k, k < wLen.getD i 0 → ((((wByt.getD i []).getD k 0) &&& 255).toUInt32 % 65536).toInt32 = (wByt.getD i []).getD k 0 ∧ narrow .char (.int ((wByt.getD i []).getD k 0)) = .int ((wByt.getD i []).getD k 0) := by decide +kernel
set_option maxRecDepth 20000 in
theorem m_J1_charAt (hst : (gl G).stackTraces = false) (hi : i < 6) {j : Int32} (hj : vp_in j (wLen.getD i 0)) (h : Q ((wByt.getD i []).getD j.toNatClampNeg 0) ws) : Mt G yJ1_charAt_3b067 wsJ1_charAt_3b067 (rmJ 2 43) [.ref (gv G i), .int j] ws (QtI G Q) := by
  refine mk_Mt (cc := cJ1_charAt_3b067) (nL := 2) (own := RJ1) (ret := some .char) (lv0 := [some (.ref (gv G i)), some (.int j)]) hst (by decide) rfl rfl (Nat.le_of_ble_eq_true rfl) rfl ?_
  intro K C F
  obtain ⟨hL, hw⟩ := w_all i hi
  obtain ⟨k, hk, rfl⟩ := vp_in_of hj hL
  refine e_iload_n C (x := nI k) rfl dJ1_charAt_3b067_0 (pc' := 1) rfl ?_
  refine e_aload_n C (x := gv G i) rfl dJ1_charAt_3b067_1 (pc' := 2) rfl ?_
  refine e_strLen C hi dJ1_charAt_3b067_2 (pc' := 3) rfl ?_
  refine e_callv (run_SO (n := 2) C (m_J0_checkIndex (Q := fun u => ws = u) hst (nI_pos (by omega)) (nI_lt hk hL) rfl) gJ1_charAt_3b067_J0_checkIndex_df160 rfl ⟨by decide, by decide, by decide +kernel⟩ ⟨by decide, by decide⟩ rfl (Nat.le_of_ble_eq_true rfl) dJ1_charAt_3b067_3 ⟨by decide, by decide⟩ (As := [.int (nI k), .int (nI (wLen.getD i 0))]) rfl) (pc' := 6) rfl (cn' := 0) (sn' := 0) rfl rfl (fun u hq => ?_)
  subst hq
  refine e_aload_n C (x := gv G i) rfl dJ1_charAt_3b067_6 (pc' := 7) rfl ?_
  refine e_iload_n C (x := nI k) rfl dJ1_charAt_3b067_7 (pc' := 8) rfl ?_
  refine e_strBa C hi hj dJ1_charAt_3b067_8 (pc' := 9) rfl ?_
  rw [nI_clamp (by omega)] at h ⊢
  refine e_sipush C (v := (255 : Int32)) (by decide) dJ1_charAt_3b067_9 (pc' := 12) rfl ?_
  refine e_iand C dJ1_charAt_3b067_12 (pc' := 13) rfl ?_
  refine e_i2c C dJ1_charAt_3b067_13 (pc' := 14) rfl ?_
  rw [(hw k hk).1]
  exact r_nar C F dJ1_charAt_3b067_14 (by decide) (by decide) (hw k hk).2 h
set_option maxRecDepth 20000 in
theorem m_J0_length (hst : (gl G).stackTraces = false) (hi : i < 6) (h : Q (nI (wLen.getD i 0)) ws) : Mt G yJ0_length_8abf5 wsJ0_length_8abf5 (rmJ 1 20) [.ref (gk G i)] ws (QtI G Q) := by
  refine mk_Mt (cc := cJ0_length_8abf5) (nL := 1) (own := RJ0) (ret := some .int) (lv0 := [some (.ref (gk G i))]) hst (by decide) rfl rfl (Nat.le_of_ble_eq_true rfl) rfl ?_
  intro K C F
  refine e_aload_n C (x := gk G i) rfl dJ0_length_8abf5_0 (pc' := 1) rfl ?_
  refine e_strVal C hi dJ0_length_8abf5_1 (pc' := 4) rfl (by decide +kernel) ?_
  refine e_strLen C hi dJ0_length_8abf5_4 (pc' := 5) rfl ?_
  refine e_aload_n C (x := gk G i) rfl dJ0_length_8abf5_5 (pc' := 6) rfl ?_
  refine e_calli (run_VS (n := 0) C hi (m_J0_coder (Q := fun r u => r = 0 ∧ ws = u) hst hi ⟨rfl, rfl⟩) gJ0_length_8abf5_J0_coder_7d493 rfl ⟨rfl, by decide, by decide, by decide +kernel⟩ ⟨by decide, by decide⟩ rfl (Nat.le_of_ble_eq_true rfl) dJ0_length_8abf5_6 ⟨by decide, by decide⟩ (As := []) rfl) (pc' := 9) rfl (cn' := 0) (sn' := 0) rfl rfl (fun r u hq => ?_)
  obtain ⟨rfl, rfl⟩ := hq
  refine e_ishr C dJ0_length_8abf5_9 (pc' := 10) rfl ?_
  rw [sb_shr0]
  exact r_int C F dJ0_length_8abf5_10 (by decide) (by decide) h
set_option maxRecDepth 20000 in
theorem m_J0_charAt (hst : (gl G).stackTraces = false) (hi : i < 6) {j : Int32} (hj : vp_in j (wLen.getD i 0)) (h : Q ((wByt.getD i []).getD j.toNatClampNeg 0) ws) : Mt G yJ0_charAt_5068e wsJ0_charAt_5068e (rmJ 3 64) [.ref (gk G i), .int j] ws (QtI G Q) := by
  refine mk_Mt (cc := cJ0_charAt_5068e) (nL := 2) (own := RJ0) (ret := some .char) (lv0 := [some (.ref (gk G i)), some (.int j)]) hst (by decide) rfl rfl (Nat.le_of_ble_eq_true rfl) rfl ?_
  intro K C F
  obtain ⟨hL, hw⟩ := w_all i hi
  obtain ⟨k, hk, rfl⟩ := vp_in_of hj hL
  refine e_aload_n C (x := gk G i) rfl dJ0_charAt_5068e_0 (pc' := 1) rfl ?_
  refine e_calli (run_VS (n := 0) C hi (m_J0_isLatin1 (Q := fun r u => r = 1 ∧ ws = u) hst hi ⟨rfl, rfl⟩) gJ0_charAt_5068e_J0_isLatin1_aae02 rfl ⟨rfl, by decide, by decide, by decide +kernel⟩ ⟨by decide, by decide⟩ rfl (Nat.le_of_ble_eq_true rfl) dJ0_charAt_5068e_1 ⟨by decide, by decide⟩ (As := []) rfl) (pc' := 4) rfl (cn' := 0) (sn' := 0) rfl rfl (fun r u hq => ?_)
  obtain ⟨rfl, rfl⟩ := hq
  refine e_if_eq C (tg := 16) dJ0_charAt_5068e_4 (by decide) (pc' := 7) rfl (fun hc => absurd hc (by decide)) (fun _ => ?_)
  refine e_aload_n C (x := gk G i) rfl dJ0_charAt_5068e_7 (pc' := 8) rfl ?_
  refine e_strVal C hi dJ0_charAt_5068e_8 (pc' := 11) rfl (by decide +kernel) ?_
  refine e_iload_n C (x := nI k) rfl dJ0_charAt_5068e_11 (pc' := 12) rfl ?_
  refine e_calli (run_SO (n := 2) C (m_J1_charAt (Q := fun r u => r = (wByt.getD i []).getD (nI k).toNatClampNeg 0 ∧ ws = u) hst hi hj ⟨rfl, rfl⟩) gJ0_charAt_5068e_J1_charAt_3b067 rfl ⟨by decide, by decide, by decide +kernel⟩ ⟨by decide, by decide⟩ rfl (Nat.le_of_ble_eq_true rfl) dJ0_charAt_5068e_12 ⟨by decide, by decide⟩ (As := [.ref (gv G i), .int (nI k)]) rfl) (pc' := 15) rfl (cn' := 0) (sn' := 0) rfl rfl (fun r u hq => ?_)
  obtain ⟨rfl, rfl⟩ := hq
  refine r_nar C F dJ0_charAt_5068e_15 (by decide) (by decide) ?_ h
  rw [nI_clamp (by omega)]
  exact (hw k hk).2
end JDK
/-- what the class asks of a word's text -/
def qLn (G : Gx) (a : Nat) (T : Int32 → Prop) : Prop := ∃ i, i < 6 ∧ a = gk G i ∧ T (nI (wLen.getD i 0))
def qCh (G : Gx) (a : Nat) (j : Int32) (T : Int32 → Prop) : Prop := ∃ i, i < 6 ∧ a = gk G i ∧ vp_in j (wLen.getD i 0) ∧ T ((wByt.getD i []).getD j.toNatClampNeg 0)
section FSTR
variable {K : Kx} {G : Gx} {cc : ByteArray} {nL cn sn pc pc' : Nat} {own : String} {ret : Option FieldType} {Ts : List Cond} {rm : Room} {lv lv' : List (Option Value)} {st : List Value} {ws : va_W} {ix a : Nat}
theorem f_length (C : Cx K G cc nL own ret Ts rm) (hst : (gl G).stackTraces = false) {T : Int32 → Prop} (d : decode cc pc = .ok (.invokevirtual ix, 3)) (hn : pc + 3 = pc') (hG : GoodIn Ts (wsV own ix RJ0 yJ0_length_8abf5 wsJ0_length_8abf5)) (hR : 2 ≤ rm.frames ∧ 40 ≤ rm.locals) (hst9 : (st.map fun v => v.category).sum ≤ 8) (hcs : cn ≤ rm.cells ∧ sn ≤ rm.slots) (h : qLn G a T) (kk : ∀ v, T v → Ev K G nL cn sn pc' lv (.int v :: st) ws) : Ev K G nL cn sn pc lv (.ref a :: st) ws := by
  obtain ⟨i, hi, rfl, hT⟩ := h
  refine e_calli (run_VS (n := 0) C hi (m_J0_length (Q := fun r u => r = nI (wLen.getD i 0) ∧ ws = u) hst hi ⟨rfl, rfl⟩) hG rfl ⟨rfl, by decide, by decide, by decide +kernel⟩ hR rfl hst9 d hcs (As := []) rfl) hn (cn' := cn) (sn' := sn) rfl rfl (fun r u hq => ?_)
  obtain ⟨rfl, rfl⟩ := hq
  exact kk _ hT
theorem f_charAt (C : Cx K G cc nL own ret Ts rm) (hst : (gl G).stackTraces = false) {j : Int32} {T : Int32 → Prop} (d : decode cc pc = .ok (.invokevirtual ix, 3)) (hn : pc + 3 = pc') (hG : GoodIn Ts (wsV own ix RJ0 yJ0_charAt_5068e wsJ0_charAt_5068e)) (hR : 4 ≤ rm.frames ∧ 85 ≤ rm.locals) (hst9 : (st.map fun v => v.category).sum ≤ 8) (hcs : cn ≤ rm.cells ∧ sn ≤ rm.slots) (h : qCh G a j T) (kk : ∀ v, T v → Ev K G nL cn sn pc' lv (.int v :: st) ws) : Ev K G nL cn sn pc lv (.int j :: .ref a :: st) ws := by
  obtain ⟨i, hi, rfl, hj, hT⟩ := h
  refine e_calli (run_VS (n := 1) C hi (m_J0_charAt (Q := fun r u => r = (wByt.getD i []).getD j.toNatClampNeg 0 ∧ ws = u) hst hi hj ⟨rfl, rfl⟩) hG rfl ⟨rfl, by decide, by decide, by decide +kernel⟩ hR rfl hst9 d hcs (As := [.int j]) rfl) hn (cn' := cn) (sn' := sn) rfl rfl (fun r u hq => ?_)
  obtain ⟨rfl, rfl⟩ := hq
  exact kk _ hT
end FSTR
