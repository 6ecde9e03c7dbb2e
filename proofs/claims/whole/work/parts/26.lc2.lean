def L_14 (G : Gx) (L : Nat) (xs : Nat → Int32) (x m o : Nat) (i : Int32) (cn sn : Nat) (ws : va_W) (N : Nat → Nat → va_W → Prop) : Prop := qX L xs (i + (1 : Int32)) (fun v1 => qX L xs (i + (2 : Int32)) (fun v2 => qX L xs (i + (3 : Int32)) (fun v3 => qX L xs (i + (4 : Int32)) (fun v4 => (F_L_let G x v1 v2 v3 v4 ws (fun v5 ws => qX L xs (i + (1 : Int32)) (fun v6 => qX L xs (i + (2 : Int32)) (fun v7 => qX L xs (i + (3 : Int32)) (fun v8 => qX L xs (i + (4 : Int32)) (fun v9 => (qV 7 m ws ∧ F_X7_let G m v6 v7 v8 v9 ws (fun ws => (qV 7 m ws ∧ F_X7_thrown G m ws (fun v11 ws => ((v11 = v5 → N (cn + 3) (sn + 18) ws) ∧ (¬ v11 = v5 → False))))))))))))))))
set_option maxRecDepth 20000 in
set_option maxHeartbeats 4000000 in
theorem lc_14 {K : Kx} {G : Gx} {b L x m o cn sn : Nat} {xs : Nat → Int32} {i : Int32} {ws : va_W} {N : Nat → Nat → va_W → Prop} (hst : (gl G).stackTraces = false) (C : Cx K G code 7 RL ret wsL_law_ room_1) (hX : Sc K G b L xs) (hcn : cn + 20 ≤ 601024) (hsn : sn + 200 ≤ 7293034)
    (hN : ∀ cn sn ws, N cn sn ws → Ev K G 7 cn sn 1741 [some (.ref b), some (.ref x), some (.ref m), some (.ref o), some (.int i), none, none] [] ws) (h : L_14 G L xs x m o i cn sn ws N) : Ev K G 7 cn sn 1166 [some (.ref b), some (.ref x), some (.ref m), some (.ref o), some (.int i), none, none] [] ws := by
  refine e_aload_n C (x := x) rfl dL_law__1166 (pc' := 1167) rfl ?_
  refine e_aload_n C (x := b) rfl dL_law__1167 (pc' := 1168) rfl ?_
  refine e_iload C (x := i) rfl dL_law__1168 (pc' := 1170) rfl ?_
  refine e_iconst C (v := (1 : Int32)) (by decide) dL_law__1170 (pc' := 1171) rfl ?_
  refine e_iadd C dL_law__1171 (pc' := 1172) rfl ?_
  refine f_sld C hX dL_law__1172 (pc' := 1173) rfl h (fun v1 h => ?_)
  refine e_aload_n C (x := b) rfl dL_law__1173 (pc' := 1174) rfl ?_
  refine e_iload C (x := i) rfl dL_law__1174 (pc' := 1176) rfl ?_
  refine e_iconst C (v := (2 : Int32)) (by decide) dL_law__1176 (pc' := 1177) rfl ?_
  refine e_iadd C dL_law__1177 (pc' := 1178) rfl ?_
  refine f_sld C hX dL_law__1178 (pc' := 1179) rfl h (fun v2 h => ?_)
  refine e_aload_n C (x := b) rfl dL_law__1179 (pc' := 1180) rfl ?_
  refine e_iload C (x := i) rfl dL_law__1180 (pc' := 1182) rfl ?_
  refine e_iconst C (v := (3 : Int32)) (by decide) dL_law__1182 (pc' := 1183) rfl ?_
  refine e_iadd C dL_law__1183 (pc' := 1184) rfl ?_
  refine f_sld C hX dL_law__1184 (pc' := 1185) rfl h (fun v3 h => ?_)
  refine e_aload_n C (x := b) rfl dL_law__1185 (pc' := 1186) rfl ?_
  refine e_iload C (x := i) rfl dL_law__1186 (pc' := 1188) rfl ?_
  refine e_iconst C (v := (4 : Int32)) (by decide) dL_law__1188 (pc' := 1189) rfl ?_
  refine e_iadd C dL_law__1189 (pc' := 1190) rfl ?_
  refine f_sld C hX dL_law__1190 (pc' := 1191) rfl h (fun v4 h => ?_)
  refine e_calli (run_SW (n := 5) C (m_L_let hst h) gL_law__L_let rfl ⟨by decide, by decide, by decide +kernel⟩ ⟨by decide, by decide⟩ rfl (Nat.le_of_ble_eq_true rfl) dL_law__1191 ⟨(by show cn + 3 ≤ 601024; omega), (by show sn + 18 ≤ 7293034; omega)⟩ (As := [.ref x, .int v1, .int v2, .int v3, .int v4]) rfl) (pc' := 1194) rfl (cn' := cn + 3) (sn' := sn + 18) rfl rfl (fun v5 ws h => ?_)
  refine e_istore C (by decide) dL_law__1194 (pc' := 1196) rfl (lv' := [some (.ref b), some (.ref x), some (.ref m), some (.ref o), some (.int i), some (.int v5), none]) rfl ?_
  refine e_aload_n C (x := m) rfl dL_law__1196 (pc' := 1197) rfl ?_
  refine e_aload_n C (x := b) rfl dL_law__1197 (pc' := 1198) rfl ?_
  refine e_iload C (x := i) rfl dL_law__1198 (pc' := 1200) rfl ?_
  refine e_iconst C (v := (1 : Int32)) (by decide) dL_law__1200 (pc' := 1201) rfl ?_
  refine e_iadd C dL_law__1201 (pc' := 1202) rfl ?_
  refine f_sld C hX dL_law__1202 (pc' := 1203) rfl h (fun v6 h => ?_)
  refine e_aload_n C (x := b) rfl dL_law__1203 (pc' := 1204) rfl ?_
  refine e_iload C (x := i) rfl dL_law__1204 (pc' := 1206) rfl ?_
  refine e_iconst C (v := (2 : Int32)) (by decide) dL_law__1206 (pc' := 1207) rfl ?_
  refine e_iadd C dL_law__1207 (pc' := 1208) rfl ?_
  refine f_sld C hX dL_law__1208 (pc' := 1209) rfl h (fun v7 h => ?_)
  refine e_aload_n C (x := b) rfl dL_law__1209 (pc' := 1210) rfl ?_
  refine e_iload C (x := i) rfl dL_law__1210 (pc' := 1212) rfl ?_
  refine e_iconst C (v := (3 : Int32)) (by decide) dL_law__1212 (pc' := 1213) rfl ?_
  refine e_iadd C dL_law__1213 (pc' := 1214) rfl ?_
  refine f_sld C hX dL_law__1214 (pc' := 1215) rfl h (fun v8 h => ?_)
  refine e_aload_n C (x := b) rfl dL_law__1215 (pc' := 1216) rfl ?_
  refine e_iload C (x := i) rfl dL_law__1216 (pc' := 1218) rfl ?_
  refine e_iconst C (v := (4 : Int32)) (by decide) dL_law__1218 (pc' := 1219) rfl ?_
  refine e_iadd C dL_law__1219 (pc' := 1220) rfl ?_
  refine f_sld C hX dL_law__1220 (pc' := 1221) rfl h (fun v9 h => ?_)
  obtain ⟨hv, h⟩ := h
  refine e_callv (run_V (n := 4) C (m_X7_let hst h) gL_law__X7_let rfl ⟨rfl, by decide, by decide, by decide +kernel⟩ ⟨by decide, by decide⟩ (ci := 7) rfl rfl hv rfl (Nat.le_of_ble_eq_true rfl) dL_law__1221 ⟨(by show cn + 3 ≤ 601024; omega), (by show sn + 18 ≤ 7293034; omega)⟩ (As := [.int v6, .int v7, .int v8, .int v9]) rfl) (pc' := 1224) rfl (cn' := cn + 3) (sn' := sn + 18) rfl rfl (fun ws h => ?_)
  refine e_aload_n C (x := m) rfl dL_law__1224 (pc' := 1225) rfl ?_
  obtain ⟨hv, h⟩ := h
  refine e_calli (run_V (n := 0) C (m_X7_thrown hst h) gL_law__X7_thrown rfl ⟨rfl, by decide, by decide, by decide +kernel⟩ ⟨by decide, by decide⟩ (ci := 7) rfl rfl hv rfl (Nat.le_of_ble_eq_true rfl) dL_law__1225 ⟨(by show cn + 3 ≤ 601024; omega), (by show sn + 18 ≤ 7293034; omega)⟩ (As := []) rfl) (pc' := 1228) rfl (cn' := cn + 3) (sn' := sn + 18) rfl rfl (fun v11 ws h => ?_)
  refine e_iload C (x := v5) rfl dL_law__1228 (pc' := 1230) rfl ?_
  refine e_icmp_eq C (tg := 1235) dL_law__1230 (by decide) (pc' := 1233) rfl (fun hc => ?_) (fun hc => ?_)
  · replace h := h.1 hc
    refine e_goto C (tg := 1741) dL_law__1235 (by decide) ?_
    refine e_mask [true, true, true, true, true, false, false] (lv' := [some (.ref b), some (.ref x), some (.ref m), some (.ref o), some (.int i), none, none]) rfl ?_
    exact hN _ _ _ h
  · replace h := h.2 hc
    refine e_iconst C (v := (0 : Int32)) (by decide) dL_law__1233 (pc' := 1234) rfl ?_
    exact h.elim
def L_15 (G : Gx) (L : Nat) (xs : Nat → Int32) (x m o : Nat) (i : Int32) (cn sn : Nat) (ws : va_W) (N : Nat → Nat → va_W → Prop) : Prop := ∀ (J1291 : Nat → Nat → va_W → Prop), (∀ (cn : Nat) (sn : Nat) (ws : va_W), N cn sn ws → J1291 cn sn ws) → qX L xs (i + (1 : Int32)) (fun v1 => (F_L_minutes G x v1 o ws (fun v2 ws => qX L xs (i + (1 : Int32)) (fun v3 => (qV 7 m ws ∧ F_X7_minutes G m v3 ws (fun v4 ws => (qV 7 m ws ∧ F_X7_thrown G m ws (fun v5 ws => ((v5 = v2 → ((¬ v2 = 0 → J1291 (cn + 1) (sn + 6) ws) ∧ (v2 = 0 → qLa (gc G 5) o (0 : Int32) ws (fun v6 => (((lg_cmp v6 v4.toInt64) = 0 → J1291 (cn + 1) (sn + 6) ws) ∧ (¬ (lg_cmp v6 v4.toInt64) = 0 → False)))))) ∧ (¬ v5 = v2 → False))))))))))
set_option maxRecDepth 20000 in
set_option maxHeartbeats 4000000 in
theorem lc_15 {K : Kx} {G : Gx} {b L x m o cn sn : Nat} {xs : Nat → Int32} {i : Int32} {ws : va_W} {N : Nat → Nat → va_W → Prop} (hst : (gl G).stackTraces = false) (C : Cx K G code 7 RL ret wsL_law_ room_1) (hX : Sc K G b L xs) (hcn : cn + 20 ≤ 601024) (hsn : sn + 200 ≤ 7293034)
    (hN : ∀ cn sn ws, N cn sn ws → Ev K G 7 cn sn 1741 [some (.ref b), some (.ref x), some (.ref m), some (.ref o), some (.int i), none, none] [] ws) (h : L_15 G L xs x m o i cn sn ws N) : Ev K G 7 cn sn 1238 [some (.ref b), some (.ref x), some (.ref m), some (.ref o), some (.int i), none, none] [] ws := by
  replace h := h (fun cn sn ws => (cn + 16 ≤ 601024 ∧ sn + 160 ≤ 7293034) → Ev K G 7 cn sn 1291 [some (.ref b), some (.ref x), some (.ref m), some (.ref o), some (.int i), none, none] [] ws)
  replace h := h (by
    intro cn sn ws h hb9
    obtain ⟨hcn9, hsn9⟩ := hb9
    show Ev K G 7 cn sn 1291 [some (.ref b), some (.ref x), some (.ref m), some (.ref o), some (.int i), none, none] [] ws
    refine e_goto C (tg := 1741) dL_law__1291 (by decide) ?_
    exact hN _ _ _ h)
  refine e_aload_n C (x := x) rfl dL_law__1238 (pc' := 1239) rfl ?_
  refine e_aload_n C (x := b) rfl dL_law__1239 (pc' := 1240) rfl ?_
  refine e_iload C (x := i) rfl dL_law__1240 (pc' := 1242) rfl ?_
  refine e_iconst C (v := (1 : Int32)) (by decide) dL_law__1242 (pc' := 1243) rfl ?_
  refine e_iadd C dL_law__1243 (pc' := 1244) rfl ?_
  refine f_sld C hX dL_law__1244 (pc' := 1245) rfl h (fun v1 h => ?_)
  refine e_aload_n C (x := o) rfl dL_law__1245 (pc' := 1246) rfl ?_
  refine e_calli (run_SW (n := 3) C (m_L_minutes hst h) gL_law__L_minutes rfl ⟨by decide, by decide, by decide +kernel⟩ ⟨by decide, by decide⟩ rfl (Nat.le_of_ble_eq_true rfl) dL_law__1246 ⟨(by show cn + 1 ≤ 601024; omega), (by show sn + 6 ≤ 7293034; omega)⟩ (As := [.ref x, .int v1, .ref o]) rfl) (pc' := 1249) rfl (cn' := cn + 1) (sn' := sn + 6) rfl rfl (fun v2 ws h => ?_)
  refine e_istore C (by decide) dL_law__1249 (pc' := 1251) rfl (lv' := [some (.ref b), some (.ref x), some (.ref m), some (.ref o), some (.int i), some (.int v2), none]) rfl ?_
  refine e_aload_n C (x := m) rfl dL_law__1251 (pc' := 1252) rfl ?_
  refine e_aload_n C (x := b) rfl dL_law__1252 (pc' := 1253) rfl ?_
  refine e_iload C (x := i) rfl dL_law__1253 (pc' := 1255) rfl ?_
  refine e_iconst C (v := (1 : Int32)) (by decide) dL_law__1255 (pc' := 1256) rfl ?_
  refine e_iadd C dL_law__1256 (pc' := 1257) rfl ?_
  refine f_sld C hX dL_law__1257 (pc' := 1258) rfl h (fun v3 h => ?_)
  obtain ⟨hv, h⟩ := h
  refine e_calli (run_V (n := 1) C (m_X7_minutes hst h) gL_law__X7_minutes rfl ⟨rfl, by decide, by decide, by decide +kernel⟩ ⟨by decide, by decide⟩ (ci := 7) rfl rfl hv rfl (Nat.le_of_ble_eq_true rfl) dL_law__1258 ⟨(by show cn + 1 ≤ 601024; omega), (by show sn + 6 ≤ 7293034; omega)⟩ (As := [.int v3]) rfl) (pc' := 1261) rfl (cn' := cn + 1) (sn' := sn + 6) rfl rfl (fun v4 ws h => ?_)
  refine e_istore C (by decide) dL_law__1261 (pc' := 1263) rfl (lv' := [some (.ref b), some (.ref x), some (.ref m), some (.ref o), some (.int i), some (.int v2), some (.int v4)]) rfl ?_
  refine e_aload_n C (x := m) rfl dL_law__1263 (pc' := 1264) rfl ?_
  obtain ⟨hv, h⟩ := h
  refine e_calli (run_V (n := 0) C (m_X7_thrown hst h) gL_law__X7_thrown rfl ⟨rfl, by decide, by decide, by decide +kernel⟩ ⟨by decide, by decide⟩ (ci := 7) rfl rfl hv rfl (Nat.le_of_ble_eq_true rfl) dL_law__1264 ⟨(by show cn + 1 ≤ 601024; omega), (by show sn + 6 ≤ 7293034; omega)⟩ (As := []) rfl) (pc' := 1267) rfl (cn' := cn + 1) (sn' := sn + 6) rfl rfl (fun v5 ws h => ?_)
  refine e_iload C (x := v2) rfl dL_law__1267 (pc' := 1269) rfl ?_
  refine e_icmp_eq C (tg := 1274) dL_law__1269 (by decide) (pc' := 1272) rfl (fun hc => ?_) (fun hc => ?_)
  · replace h := h.1 hc
    refine e_iload C (x := v2) rfl dL_law__1274 (pc' := 1276) rfl ?_
    refine e_if_ne C (tg := 1291) dL_law__1276 (by decide) (pc' := 1279) rfl (fun hc => ?_) (fun hc => ?_)
    · replace h := h.1 hc
      refine e_mask [true, true, true, true, true, false, false] (lv' := [some (.ref b), some (.ref x), some (.ref m), some (.ref o), some (.int i), none, none]) rfl ?_
      exact h ⟨by omega, by omega⟩
    · replace h := h.2 hc
      refine e_aload_n C (x := o) rfl dL_law__1279 (pc' := 1280) rfl ?_
      refine e_iconst C (v := (0 : Int32)) (by decide) dL_law__1280 (pc' := 1281) rfl ?_
      refine f_laload C dL_law__1281 (pc' := 1282) rfl h (fun v6 h => ?_)
      refine e_iload C (x := v4) rfl dL_law__1282 (pc' := 1284) rfl ?_
      refine e_i2l C dL_law__1284 (pc' := 1285) rfl ?_
      refine e_lcmp C dL_law__1285 (pc' := 1286) rfl ?_
      refine e_if_eq C (tg := 1291) dL_law__1286 (by decide) (pc' := 1289) rfl (fun hc => ?_) (fun hc => ?_)
      · replace h := h.1 hc
        refine e_mask [true, true, true, true, true, false, false] (lv' := [some (.ref b), some (.ref x), some (.ref m), some (.ref o), some (.int i), none, none]) rfl ?_
        exact h ⟨by omega, by omega⟩
      · replace h := h.2 hc
        refine e_iconst C (v := (0 : Int32)) (by decide) dL_law__1289 (pc' := 1290) rfl ?_
        exact h.elim
  · replace h := h.2 hc
    refine e_iconst C (v := (0 : Int32)) (by decide) dL_law__1272 (pc' := 1273) rfl ?_
    exact h.elim
def L_16 (G : Gx) (L : Nat) (xs : Nat → Int32) (x m o : Nat) (i : Int32) (cn sn : Nat) (ws : va_W) (N : Nat → Nat → va_W → Prop) : Prop := ∀ (J1359 : Nat → Nat → va_W → Prop), (∀ (cn : Nat) (sn : Nat) (ws : va_W), N cn sn ws → J1359 cn sn ws) → qX L xs (i + (1 : Int32)) (fun v1 => qX L xs (i + (2 : Int32)) (fun v2 => (F_L_holder G x v1 v2 o ws (fun v3 ws => qX L xs (i + (1 : Int32)) (fun v4 => qX L xs (i + (2 : Int32)) (fun v5 => (qV 7 m ws ∧ F_X7_holder G m v4 v5 ws (fun v6 ws => (qV 7 m ws ∧ F_X7_thrown G m ws (fun v7 ws => ((v7 = v3 → ((¬ v3 = 0 → J1359 (cn + 2) (sn + 12) ws) ∧ (v3 = 0 → qLa (gc G 5) o (0 : Int32) ws (fun v8 => (((lg_cmp v8 v6.toInt64) = 0 → J1359 (cn + 2) (sn + 12) ws) ∧ (¬ (lg_cmp v8 v6.toInt64) = 0 → False)))))) ∧ (¬ v7 = v3 → False))))))))))))
set_option maxRecDepth 20000 in
set_option maxHeartbeats 4000000 in
theorem lc_16 {K : Kx} {G : Gx} {b L x m o cn sn : Nat} {xs : Nat → Int32} {i : Int32} {ws : va_W} {N : Nat → Nat → va_W → Prop} (hst : (gl G).stackTraces = false) (C : Cx K G code 7 RL ret wsL_law_ room_1) (hX : Sc K G b L xs) (hcn : cn + 20 ≤ 601024) (hsn : sn + 200 ≤ 7293034)
    (hN : ∀ cn sn ws, N cn sn ws → Ev K G 7 cn sn 1741 [some (.ref b), some (.ref x), some (.ref m), some (.ref o), some (.int i), none, none] [] ws) (h : L_16 G L xs x m o i cn sn ws N) : Ev K G 7 cn sn 1294 [some (.ref b), some (.ref x), some (.ref m), some (.ref o), some (.int i), none, none] [] ws := by
  replace h := h (fun cn sn ws => (cn + 16 ≤ 601024 ∧ sn + 160 ≤ 7293034) → Ev K G 7 cn sn 1359 [some (.ref b), some (.ref x), some (.ref m), some (.ref o), some (.int i), none, none] [] ws)
  replace h := h (by
    intro cn sn ws h hb9
    obtain ⟨hcn9, hsn9⟩ := hb9
    show Ev K G 7 cn sn 1359 [some (.ref b), some (.ref x), some (.ref m), some (.ref o), some (.int i), none, none] [] ws
    refine e_goto C (tg := 1741) dL_law__1359 (by decide) ?_
    exact hN _ _ _ h)
  refine e_aload_n C (x := x) rfl dL_law__1294 (pc' := 1295) rfl ?_
  refine e_aload_n C (x := b) rfl dL_law__1295 (pc' := 1296) rfl ?_
  refine e_iload C (x := i) rfl dL_law__1296 (pc' := 1298) rfl ?_
  refine e_iconst C (v := (1 : Int32)) (by decide) dL_law__1298 (pc' := 1299) rfl ?_
  refine e_iadd C dL_law__1299 (pc' := 1300) rfl ?_
  refine f_sld C hX dL_law__1300 (pc' := 1301) rfl h (fun v1 h => ?_)
  refine e_aload_n C (x := b) rfl dL_law__1301 (pc' := 1302) rfl ?_
  refine e_iload C (x := i) rfl dL_law__1302 (pc' := 1304) rfl ?_
  refine e_iconst C (v := (2 : Int32)) (by decide) dL_law__1304 (pc' := 1305) rfl ?_
  refine e_iadd C dL_law__1305 (pc' := 1306) rfl ?_
  refine f_sld C hX dL_law__1306 (pc' := 1307) rfl h (fun v2 h => ?_)
  refine e_aload_n C (x := o) rfl dL_law__1307 (pc' := 1308) rfl ?_
  refine e_calli (run_SW (n := 4) C (m_L_holder hst h) gL_law__L_holder rfl ⟨by decide, by decide, by decide +kernel⟩ ⟨by decide, by decide⟩ rfl (Nat.le_of_ble_eq_true rfl) dL_law__1308 ⟨(by show cn + 2 ≤ 601024; omega), (by show sn + 12 ≤ 7293034; omega)⟩ (As := [.ref x, .int v1, .int v2, .ref o]) rfl) (pc' := 1311) rfl (cn' := cn + 2) (sn' := sn + 12) rfl rfl (fun v3 ws h => ?_)
  refine e_istore C (by decide) dL_law__1311 (pc' := 1313) rfl (lv' := [some (.ref b), some (.ref x), some (.ref m), some (.ref o), some (.int i), some (.int v3), none]) rfl ?_
  refine e_aload_n C (x := m) rfl dL_law__1313 (pc' := 1314) rfl ?_
  refine e_aload_n C (x := b) rfl dL_law__1314 (pc' := 1315) rfl ?_
  refine e_iload C (x := i) rfl dL_law__1315 (pc' := 1317) rfl ?_
  refine e_iconst C (v := (1 : Int32)) (by decide) dL_law__1317 (pc' := 1318) rfl ?_
  refine e_iadd C dL_law__1318 (pc' := 1319) rfl ?_
  refine f_sld C hX dL_law__1319 (pc' := 1320) rfl h (fun v4 h => ?_)
  refine e_aload_n C (x := b) rfl dL_law__1320 (pc' := 1321) rfl ?_
  refine e_iload C (x := i) rfl dL_law__1321 (pc' := 1323) rfl ?_
  refine e_iconst C (v := (2 : Int32)) (by decide) dL_law__1323 (pc' := 1324) rfl ?_
  refine e_iadd C dL_law__1324 (pc' := 1325) rfl ?_
  refine f_sld C hX dL_law__1325 (pc' := 1326) rfl h (fun v5 h => ?_)
  obtain ⟨hv, h⟩ := h
  refine e_calli (run_V (n := 2) C (m_X7_holder hst h) gL_law__X7_holder rfl ⟨rfl, by decide, by decide, by decide +kernel⟩ ⟨by decide, by decide⟩ (ci := 7) rfl rfl hv rfl (Nat.le_of_ble_eq_true rfl) dL_law__1326 ⟨(by show cn + 2 ≤ 601024; omega), (by show sn + 12 ≤ 7293034; omega)⟩ (As := [.int v4, .int v5]) rfl) (pc' := 1329) rfl (cn' := cn + 2) (sn' := sn + 12) rfl rfl (fun v6 ws h => ?_)
  refine e_istore C (by decide) dL_law__1329 (pc' := 1331) rfl (lv' := [some (.ref b), some (.ref x), some (.ref m), some (.ref o), some (.int i), some (.int v3), some (.int v6)]) rfl ?_
  refine e_aload_n C (x := m) rfl dL_law__1331 (pc' := 1332) rfl ?_
  obtain ⟨hv, h⟩ := h
  refine e_calli (run_V (n := 0) C (m_X7_thrown hst h) gL_law__X7_thrown rfl ⟨rfl, by decide, by decide, by decide +kernel⟩ ⟨by decide, by decide⟩ (ci := 7) rfl rfl hv rfl (Nat.le_of_ble_eq_true rfl) dL_law__1332 ⟨(by show cn + 2 ≤ 601024; omega), (by show sn + 12 ≤ 7293034; omega)⟩ (As := []) rfl) (pc' := 1335) rfl (cn' := cn + 2) (sn' := sn + 12) rfl rfl (fun v7 ws h => ?_)
  refine e_iload C (x := v3) rfl dL_law__1335 (pc' := 1337) rfl ?_
  refine e_icmp_eq C (tg := 1342) dL_law__1337 (by decide) (pc' := 1340) rfl (fun hc => ?_) (fun hc => ?_)
  · replace h := h.1 hc
    refine e_iload C (x := v3) rfl dL_law__1342 (pc' := 1344) rfl ?_
    refine e_if_ne C (tg := 1359) dL_law__1344 (by decide) (pc' := 1347) rfl (fun hc => ?_) (fun hc => ?_)
    · replace h := h.1 hc
      refine e_mask [true, true, true, true, true, false, false] (lv' := [some (.ref b), some (.ref x), some (.ref m), some (.ref o), some (.int i), none, none]) rfl ?_
      exact h ⟨by omega, by omega⟩
    · replace h := h.2 hc
      refine e_aload_n C (x := o) rfl dL_law__1347 (pc' := 1348) rfl ?_
      refine e_iconst C (v := (0 : Int32)) (by decide) dL_law__1348 (pc' := 1349) rfl ?_
      refine f_laload C dL_law__1349 (pc' := 1350) rfl h (fun v8 h => ?_)
      refine e_iload C (x := v6) rfl dL_law__1350 (pc' := 1352) rfl ?_
      refine e_i2l C dL_law__1352 (pc' := 1353) rfl ?_
      refine e_lcmp C dL_law__1353 (pc' := 1354) rfl ?_
      refine e_if_eq C (tg := 1359) dL_law__1354 (by decide) (pc' := 1357) rfl (fun hc => ?_) (fun hc => ?_)
      · replace h := h.1 hc
        refine e_mask [true, true, true, true, true, false, false] (lv' := [some (.ref b), some (.ref x), some (.ref m), some (.ref o), some (.int i), none, none]) rfl ?_
        exact h ⟨by omega, by omega⟩
      · replace h := h.2 hc
        refine e_iconst C (v := (0 : Int32)) (by decide) dL_law__1357 (pc' := 1358) rfl ?_
        exact h.elim
  · replace h := h.2 hc
    refine e_iconst C (v := (0 : Int32)) (by decide) dL_law__1340 (pc' := 1341) rfl ?_
    exact h.elim
def L_17 (G : Gx) (L : Nat) (xs : Nat → Int32) (x m o : Nat) (i : Int32) (cn sn : Nat) (ws : va_W) (N : Nat → Nat → va_W → Prop) : Prop := ∀ (J1427 : Nat → Nat → va_W → Prop), (∀ (cn : Nat) (sn : Nat) (ws : va_W), N cn sn ws → J1427 cn sn ws) → qX L xs (i + (1 : Int32)) (fun v1 => qX L xs (i + (2 : Int32)) (fun v2 => (F_L_share G x v1 v2 o ws (fun v3 ws => qX L xs (i + (1 : Int32)) (fun v4 => qX L xs (i + (2 : Int32)) (fun v5 => (qV 7 m ws ∧ F_X7_share G m v4 v5 ws (fun v6 ws => (qV 7 m ws ∧ F_X7_thrown G m ws (fun v7 ws => ((v7 = v3 → ((¬ v3 = 0 → J1427 (cn + 2) (sn + 12) ws) ∧ (v3 = 0 → qLa (gc G 5) o (0 : Int32) ws (fun v8 => (((lg_cmp v8 v6.toInt64) = 0 → J1427 (cn + 2) (sn + 12) ws) ∧ (¬ (lg_cmp v8 v6.toInt64) = 0 → False)))))) ∧ (¬ v7 = v3 → False))))))))))))
set_option maxRecDepth 20000 in
set_option maxHeartbeats 4000000 in
theorem lc_17 {K : Kx} {G : Gx} {b L x m o cn sn : Nat} {xs : Nat → Int32} {i : Int32} {ws : va_W} {N : Nat → Nat → va_W → Prop} (hst : (gl G).stackTraces = false) (C : Cx K G code 7 RL ret wsL_law_ room_1) (hX : Sc K G b L xs) (hcn : cn + 20 ≤ 601024) (hsn : sn + 200 ≤ 7293034)
    (hN : ∀ cn sn ws, N cn sn ws → Ev K G 7 cn sn 1741 [some (.ref b), some (.ref x), some (.ref m), some (.ref o), some (.int i), none, none] [] ws) (h : L_17 G L xs x m o i cn sn ws N) : Ev K G 7 cn sn 1362 [some (.ref b), some (.ref x), some (.ref m), some (.ref o), some (.int i), none, none] [] ws := by
  replace h := h (fun cn sn ws => (cn + 16 ≤ 601024 ∧ sn + 160 ≤ 7293034) → Ev K G 7 cn sn 1427 [some (.ref b), some (.ref x), some (.ref m), some (.ref o), some (.int i), none, none] [] ws)
  replace h := h (by
    intro cn sn ws h hb9
    obtain ⟨hcn9, hsn9⟩ := hb9
    show Ev K G 7 cn sn 1427 [some (.ref b), some (.ref x), some (.ref m), some (.ref o), some (.int i), none, none] [] ws
    refine e_goto C (tg := 1741) dL_law__1427 (by decide) ?_
    exact hN _ _ _ h)
  refine e_aload_n C (x := x) rfl dL_law__1362 (pc' := 1363) rfl ?_
  refine e_aload_n C (x := b) rfl dL_law__1363 (pc' := 1364) rfl ?_
  refine e_iload C (x := i) rfl dL_law__1364 (pc' := 1366) rfl ?_
  refine e_iconst C (v := (1 : Int32)) (by decide) dL_law__1366 (pc' := 1367) rfl ?_
  refine e_iadd C dL_law__1367 (pc' := 1368) rfl ?_
  refine f_sld C hX dL_law__1368 (pc' := 1369) rfl h (fun v1 h => ?_)
  refine e_aload_n C (x := b) rfl dL_law__1369 (pc' := 1370) rfl ?_
  refine e_iload C (x := i) rfl dL_law__1370 (pc' := 1372) rfl ?_
  refine e_iconst C (v := (2 : Int32)) (by decide) dL_law__1372 (pc' := 1373) rfl ?_
  refine e_iadd C dL_law__1373 (pc' := 1374) rfl ?_
  refine f_sld C hX dL_law__1374 (pc' := 1375) rfl h (fun v2 h => ?_)
  refine e_aload_n C (x := o) rfl dL_law__1375 (pc' := 1376) rfl ?_
  refine e_calli (run_SW (n := 4) C (m_L_share hst h) gL_law__L_share rfl ⟨by decide, by decide, by decide +kernel⟩ ⟨by decide, by decide⟩ rfl (Nat.le_of_ble_eq_true rfl) dL_law__1376 ⟨(by show cn + 2 ≤ 601024; omega), (by show sn + 12 ≤ 7293034; omega)⟩ (As := [.ref x, .int v1, .int v2, .ref o]) rfl) (pc' := 1379) rfl (cn' := cn + 2) (sn' := sn + 12) rfl rfl (fun v3 ws h => ?_)
  refine e_istore C (by decide) dL_law__1379 (pc' := 1381) rfl (lv' := [some (.ref b), some (.ref x), some (.ref m), some (.ref o), some (.int i), some (.int v3), none]) rfl ?_
  refine e_aload_n C (x := m) rfl dL_law__1381 (pc' := 1382) rfl ?_
  refine e_aload_n C (x := b) rfl dL_law__1382 (pc' := 1383) rfl ?_
  refine e_iload C (x := i) rfl dL_law__1383 (pc' := 1385) rfl ?_
  refine e_iconst C (v := (1 : Int32)) (by decide) dL_law__1385 (pc' := 1386) rfl ?_
  refine e_iadd C dL_law__1386 (pc' := 1387) rfl ?_
  refine f_sld C hX dL_law__1387 (pc' := 1388) rfl h (fun v4 h => ?_)
  refine e_aload_n C (x := b) rfl dL_law__1388 (pc' := 1389) rfl ?_
  refine e_iload C (x := i) rfl dL_law__1389 (pc' := 1391) rfl ?_
  refine e_iconst C (v := (2 : Int32)) (by decide) dL_law__1391 (pc' := 1392) rfl ?_
  refine e_iadd C dL_law__1392 (pc' := 1393) rfl ?_
  refine f_sld C hX dL_law__1393 (pc' := 1394) rfl h (fun v5 h => ?_)
  obtain ⟨hv, h⟩ := h
  refine e_calli (run_V (n := 2) C (m_X7_share hst h) gL_law__X7_share rfl ⟨rfl, by decide, by decide, by decide +kernel⟩ ⟨by decide, by decide⟩ (ci := 7) rfl rfl hv rfl (Nat.le_of_ble_eq_true rfl) dL_law__1394 ⟨(by show cn + 2 ≤ 601024; omega), (by show sn + 12 ≤ 7293034; omega)⟩ (As := [.int v4, .int v5]) rfl) (pc' := 1397) rfl (cn' := cn + 2) (sn' := sn + 12) rfl rfl (fun v6 ws h => ?_)
  refine e_istore C (by decide) dL_law__1397 (pc' := 1399) rfl (lv' := [some (.ref b), some (.ref x), some (.ref m), some (.ref o), some (.int i), some (.int v3), some (.int v6)]) rfl ?_
  refine e_aload_n C (x := m) rfl dL_law__1399 (pc' := 1400) rfl ?_
  obtain ⟨hv, h⟩ := h
  refine e_calli (run_V (n := 0) C (m_X7_thrown hst h) gL_law__X7_thrown rfl ⟨rfl, by decide, by decide, by decide +kernel⟩ ⟨by decide, by decide⟩ (ci := 7) rfl rfl hv rfl (Nat.le_of_ble_eq_true rfl) dL_law__1400 ⟨(by show cn + 2 ≤ 601024; omega), (by show sn + 12 ≤ 7293034; omega)⟩ (As := []) rfl) (pc' := 1403) rfl (cn' := cn + 2) (sn' := sn + 12) rfl rfl (fun v7 ws h => ?_)
  refine e_iload C (x := v3) rfl dL_law__1403 (pc' := 1405) rfl ?_
  refine e_icmp_eq C (tg := 1410) dL_law__1405 (by decide) (pc' := 1408) rfl (fun hc => ?_) (fun hc => ?_)
  · replace h := h.1 hc
    refine e_iload C (x := v3) rfl dL_law__1410 (pc' := 1412) rfl ?_
    refine e_if_ne C (tg := 1427) dL_law__1412 (by decide) (pc' := 1415) rfl (fun hc => ?_) (fun hc => ?_)
    · replace h := h.1 hc
      refine e_mask [true, true, true, true, true, false, false] (lv' := [some (.ref b), some (.ref x), some (.ref m), some (.ref o), some (.int i), none, none]) rfl ?_
      exact h ⟨by omega, by omega⟩
    · replace h := h.2 hc
      refine e_aload_n C (x := o) rfl dL_law__1415 (pc' := 1416) rfl ?_
      refine e_iconst C (v := (0 : Int32)) (by decide) dL_law__1416 (pc' := 1417) rfl ?_
      refine f_laload C dL_law__1417 (pc' := 1418) rfl h (fun v8 h => ?_)
      refine e_iload C (x := v6) rfl dL_law__1418 (pc' := 1420) rfl ?_
      refine e_i2l C dL_law__1420 (pc' := 1421) rfl ?_
      refine e_lcmp C dL_law__1421 (pc' := 1422) rfl ?_
      refine e_if_eq C (tg := 1427) dL_law__1422 (by decide) (pc' := 1425) rfl (fun hc => ?_) (fun hc => ?_)
      · replace h := h.1 hc
        refine e_mask [true, true, true, true, true, false, false] (lv' := [some (.ref b), some (.ref x), some (.ref m), some (.ref o), some (.int i), none, none]) rfl ?_
        exact h ⟨by omega, by omega⟩
      · replace h := h.2 hc
        refine e_iconst C (v := (0 : Int32)) (by decide) dL_law__1425 (pc' := 1426) rfl ?_
        exact h.elim
  · replace h := h.2 hc
    refine e_iconst C (v := (0 : Int32)) (by decide) dL_law__1408 (pc' := 1409) rfl ?_
    exact h.elim
def L_18 (G : Gx) (L : Nat) (xs : Nat → Int32) (x m o : Nat) (i : Int32) (cn sn : Nat) (ws : va_W) (N : Nat → Nat → va_W → Prop) : Prop := ∀ (J1471 : Nat → Nat → va_W → Prop), (∀ (cn : Nat) (sn : Nat) (ws : va_W), N cn sn ws → J1471 cn sn ws) → (F_L_law G x o ws (fun v1 ws => (qV 7 m ws ∧ F_X7_law G m ws (fun v2 ws => (qV 7 m ws ∧ F_X7_thrown G m ws (fun v3 ws => ((v3 = v1 → ((¬ v1 = 0 → J1471 (cn + 1) (sn + 6) ws) ∧ (v1 = 0 → qLa (gc G 5) o (0 : Int32) ws (fun v4 => (((lg_cmp v4 v2.toInt64) = 0 → J1471 (cn + 1) (sn + 6) ws) ∧ (¬ (lg_cmp v4 v2.toInt64) = 0 → False)))))) ∧ (¬ v3 = v1 → False))))))))
set_option maxRecDepth 20000 in
set_option maxHeartbeats 4000000 in
theorem lc_18 {K : Kx} {G : Gx} {b L x m o cn sn : Nat} {xs : Nat → Int32} {i : Int32} {ws : va_W} {N : Nat → Nat → va_W → Prop} (hst : (gl G).stackTraces = false) (C : Cx K G code 7 RL ret wsL_law_ room_1) (hX : Sc K G b L xs) (hcn : cn + 20 ≤ 601024) (hsn : sn + 200 ≤ 7293034)
    (hN : ∀ cn sn ws, N cn sn ws → Ev K G 7 cn sn 1741 [some (.ref b), some (.ref x), some (.ref m), some (.ref o), some (.int i), none, none] [] ws) (h : L_18 G L xs x m o i cn sn ws N) : Ev K G 7 cn sn 1430 [some (.ref b), some (.ref x), some (.ref m), some (.ref o), some (.int i), none, none] [] ws := by
  replace h := h (fun cn sn ws => (cn + 16 ≤ 601024 ∧ sn + 160 ≤ 7293034) → Ev K G 7 cn sn 1471 [some (.ref b), some (.ref x), some (.ref m), some (.ref o), some (.int i), none, none] [] ws)
  replace h := h (by
    intro cn sn ws h hb9
    obtain ⟨hcn9, hsn9⟩ := hb9
    show Ev K G 7 cn sn 1471 [some (.ref b), some (.ref x), some (.ref m), some (.ref o), some (.int i), none, none] [] ws
    refine e_goto C (tg := 1741) dL_law__1471 (by decide) ?_
    exact hN _ _ _ h)
  refine e_aload_n C (x := x) rfl dL_law__1430 (pc' := 1431) rfl ?_
  refine e_aload_n C (x := o) rfl dL_law__1431 (pc' := 1432) rfl ?_
  refine e_calli (run_SW (n := 2) C (m_L_law hst h) gL_law__L_law rfl ⟨by decide, by decide, by decide +kernel⟩ ⟨by decide, by decide⟩ rfl (Nat.le_of_ble_eq_true rfl) dL_law__1432 ⟨(by show cn + 1 ≤ 601024; omega), (by show sn + 6 ≤ 7293034; omega)⟩ (As := [.ref x, .ref o]) rfl) (pc' := 1435) rfl (cn' := cn + 1) (sn' := sn + 6) rfl rfl (fun v1 ws h => ?_)
  refine e_istore C (by decide) dL_law__1435 (pc' := 1437) rfl (lv' := [some (.ref b), some (.ref x), some (.ref m), some (.ref o), some (.int i), some (.int v1), none]) rfl ?_
  refine e_aload_n C (x := m) rfl dL_law__1437 (pc' := 1438) rfl ?_
  obtain ⟨hv, h⟩ := h
  refine e_calli (run_V (n := 0) C (m_X7_law hst h) gL_law__X7_law rfl ⟨rfl, by decide, by decide, by decide +kernel⟩ ⟨by decide, by decide⟩ (ci := 7) rfl rfl hv rfl (Nat.le_of_ble_eq_true rfl) dL_law__1438 ⟨(by show cn + 1 ≤ 601024; omega), (by show sn + 6 ≤ 7293034; omega)⟩ (As := []) rfl) (pc' := 1441) rfl (cn' := cn + 1) (sn' := sn + 6) rfl rfl (fun v2 ws h => ?_)
  refine e_istore C (by decide) dL_law__1441 (pc' := 1443) rfl (lv' := [some (.ref b), some (.ref x), some (.ref m), some (.ref o), some (.int i), some (.int v1), some (.int v2)]) rfl ?_
  refine e_aload_n C (x := m) rfl dL_law__1443 (pc' := 1444) rfl ?_
  obtain ⟨hv, h⟩ := h
  refine e_calli (run_V (n := 0) C (m_X7_thrown hst h) gL_law__X7_thrown rfl ⟨rfl, by decide, by decide, by decide +kernel⟩ ⟨by decide, by decide⟩ (ci := 7) rfl rfl hv rfl (Nat.le_of_ble_eq_true rfl) dL_law__1444 ⟨(by show cn + 1 ≤ 601024; omega), (by show sn + 6 ≤ 7293034; omega)⟩ (As := []) rfl) (pc' := 1447) rfl (cn' := cn + 1) (sn' := sn + 6) rfl rfl (fun v3 ws h => ?_)
  refine e_iload C (x := v1) rfl dL_law__1447 (pc' := 1449) rfl ?_
  refine e_icmp_eq C (tg := 1454) dL_law__1449 (by decide) (pc' := 1452) rfl (fun hc => ?_) (fun hc => ?_)
  · replace h := h.1 hc
    refine e_iload C (x := v1) rfl dL_law__1454 (pc' := 1456) rfl ?_
    refine e_if_ne C (tg := 1471) dL_law__1456 (by decide) (pc' := 1459) rfl (fun hc => ?_) (fun hc => ?_)
    · replace h := h.1 hc
      refine e_mask [true, true, true, true, true, false, false] (lv' := [some (.ref b), some (.ref x), some (.ref m), some (.ref o), some (.int i), none, none]) rfl ?_
      exact h ⟨by omega, by omega⟩
    · replace h := h.2 hc
      refine e_aload_n C (x := o) rfl dL_law__1459 (pc' := 1460) rfl ?_
      refine e_iconst C (v := (0 : Int32)) (by decide) dL_law__1460 (pc' := 1461) rfl ?_
      refine f_laload C dL_law__1461 (pc' := 1462) rfl h (fun v4 h => ?_)
      refine e_iload C (x := v2) rfl dL_law__1462 (pc' := 1464) rfl ?_
      refine e_i2l C dL_law__1464 (pc' := 1465) rfl ?_
      refine e_lcmp C dL_law__1465 (pc' := 1466) rfl ?_
      refine e_if_eq C (tg := 1471) dL_law__1466 (by decide) (pc' := 1469) rfl (fun hc => ?_) (fun hc => ?_)
      · replace h := h.1 hc
        refine e_mask [true, true, true, true, true, false, false] (lv' := [some (.ref b), some (.ref x), some (.ref m), some (.ref o), some (.int i), none, none]) rfl ?_
        exact h ⟨by omega, by omega⟩
      · replace h := h.2 hc
        refine e_iconst C (v := (0 : Int32)) (by decide) dL_law__1469 (pc' := 1470) rfl ?_
        exact h.elim
  · replace h := h.2 hc
    refine e_iconst C (v := (0 : Int32)) (by decide) dL_law__1452 (pc' := 1453) rfl ?_
    exact h.elim
def L_19 (G : Gx) (L : Nat) (xs : Nat → Int32) (x m o : Nat) (i : Int32) (cn sn : Nat) (ws : va_W) (N : Nat → Nat → va_W → Prop) : Prop := (qV 6 x ws ∧ F_X6_fault G x ws (fun v1 ws => (qV 7 m ws ∧ F_X7_fault G m ws (fun v2 ws => ((v1 = v2 → N cn sn ws) ∧ (¬ v1 = v2 → False))))))
set_option maxRecDepth 20000 in
set_option maxHeartbeats 4000000 in
theorem lc_19 {K : Kx} {G : Gx} {b L x m o cn sn : Nat} {xs : Nat → Int32} {i : Int32} {ws : va_W} {N : Nat → Nat → va_W → Prop} (hst : (gl G).stackTraces = false) (C : Cx K G code 7 RL ret wsL_law_ room_1) (hX : Sc K G b L xs) (hcn : cn + 20 ≤ 601024) (hsn : sn + 200 ≤ 7293034)
    (hN : ∀ cn sn ws, N cn sn ws → Ev K G 7 cn sn 1741 [some (.ref b), some (.ref x), some (.ref m), some (.ref o), some (.int i), none, none] [] ws) (h : L_19 G L xs x m o i cn sn ws N) : Ev K G 7 cn sn 1474 [some (.ref b), some (.ref x), some (.ref m), some (.ref o), some (.int i), none, none] [] ws := by
  refine e_aload_n C (x := x) rfl dL_law__1474 (pc' := 1475) rfl ?_
  obtain ⟨hv, h⟩ := h
  refine e_calli (run_V (n := 0) C (m_X6_fault hst h) gL_law__X6_fault rfl ⟨rfl, by decide, by decide, by decide +kernel⟩ ⟨by decide, by decide⟩ (ci := 6) rfl rfl hv rfl (Nat.le_of_ble_eq_true rfl) dL_law__1475 ⟨(by show cn ≤ 601024; omega), (by show sn ≤ 7293034; omega)⟩ (As := []) rfl) (pc' := 1478) rfl (cn' := cn) (sn' := sn) rfl rfl (fun v1 ws h => ?_)
  refine e_aload_n C (x := m) rfl dL_law__1478 (pc' := 1479) rfl ?_
  obtain ⟨hv, h⟩ := h
  refine e_calli (run_V (n := 0) C (m_X7_fault hst h) gL_law__X7_fault rfl ⟨rfl, by decide, by decide, by decide +kernel⟩ ⟨by decide, by decide⟩ (ci := 7) rfl rfl hv rfl (Nat.le_of_ble_eq_true rfl) dL_law__1479 ⟨(by show cn ≤ 601024; omega), (by show sn ≤ 7293034; omega)⟩ (As := []) rfl) (pc' := 1482) rfl (cn' := cn) (sn' := sn) rfl rfl (fun v2 ws h => ?_)
  refine e_icmp_eq C (tg := 1741) dL_law__1482 (by decide) (pc' := 1485) rfl (fun hc => ?_) (fun hc => ?_)
  · replace h := h.1 hc
    exact hN _ _ _ h
  · replace h := h.2 hc
    refine e_iconst C (v := (0 : Int32)) (by decide) dL_law__1485 (pc' := 1486) rfl ?_
    exact h.elim
def L_20 (G : Gx) (L : Nat) (xs : Nat → Int32) (x m o : Nat) (i : Int32) (cn sn : Nat) (ws : va_W) (N : Nat → Nat → va_W → Prop) : Prop := ∀ (J1540 : Nat → Nat → va_W → Prop), (∀ (cn : Nat) (sn : Nat) (ws : va_W), N cn sn ws → J1540 cn sn ws) → qX L xs (i + (1 : Int32)) (fun v1 => (F_L_says G x v1 o ws (fun v2 ws => qX L xs (i + (1 : Int32)) (fun v3 => (qV 7 m ws ∧ F_X7_says G m v3 ws (fun v4 ws => (qV 7 m ws ∧ F_X7_thrown G m ws (fun v5 ws => ((v5 = v2 → ((¬ v2 = 0 → J1540 (cn + 1) (sn + 6) ws) ∧ (v2 = 0 → qLa (gc G 5) o (0 : Int32) ws (fun v6 => (((lg_cmp v6 v4.toInt64) = 0 → J1540 (cn + 1) (sn + 6) ws) ∧ (¬ (lg_cmp v6 v4.toInt64) = 0 → False)))))) ∧ (¬ v5 = v2 → False))))))))))
set_option maxRecDepth 20000 in
set_option maxHeartbeats 4000000 in
theorem lc_20 {K : Kx} {G : Gx} {b L x m o cn sn : Nat} {xs : Nat → Int32} {i : Int32} {ws : va_W} {N : Nat → Nat → va_W → Prop} (hst : (gl G).stackTraces = false) (C : Cx K G code 7 RL ret wsL_law_ room_1) (hX : Sc K G b L xs) (hcn : cn + 20 ≤ 601024) (hsn : sn + 200 ≤ 7293034)
    (hN : ∀ cn sn ws, N cn sn ws → Ev K G 7 cn sn 1741 [some (.ref b), some (.ref x), some (.ref m), some (.ref o), some (.int i), none, none] [] ws) (h : L_20 G L xs x m o i cn sn ws N) : Ev K G 7 cn sn 1487 [some (.ref b), some (.ref x), some (.ref m), some (.ref o), some (.int i), none, none] [] ws := by
  replace h := h (fun cn sn ws => (cn + 16 ≤ 601024 ∧ sn + 160 ≤ 7293034) → Ev K G 7 cn sn 1540 [some (.ref b), some (.ref x), some (.ref m), some (.ref o), some (.int i), none, none] [] ws)
  replace h := h (by
    intro cn sn ws h hb9
    obtain ⟨hcn9, hsn9⟩ := hb9
    show Ev K G 7 cn sn 1540 [some (.ref b), some (.ref x), some (.ref m), some (.ref o), some (.int i), none, none] [] ws
    refine e_goto C (tg := 1741) dL_law__1540 (by decide) ?_
    exact hN _ _ _ h)
  refine e_aload_n C (x := x) rfl dL_law__1487 (pc' := 1488) rfl ?_
  refine e_aload_n C (x := b) rfl dL_law__1488 (pc' := 1489) rfl ?_
  refine e_iload C (x := i) rfl dL_law__1489 (pc' := 1491) rfl ?_
  refine e_iconst C (v := (1 : Int32)) (by decide) dL_law__1491 (pc' := 1492) rfl ?_
  refine e_iadd C dL_law__1492 (pc' := 1493) rfl ?_
  refine f_sld C hX dL_law__1493 (pc' := 1494) rfl h (fun v1 h => ?_)
  refine e_aload_n C (x := o) rfl dL_law__1494 (pc' := 1495) rfl ?_
  refine e_calli (run_SW (n := 3) C (m_L_says hst h) gL_law__L_says rfl ⟨by decide, by decide, by decide +kernel⟩ ⟨by decide, by decide⟩ rfl (Nat.le_of_ble_eq_true rfl) dL_law__1495 ⟨(by show cn + 1 ≤ 601024; omega), (by show sn + 6 ≤ 7293034; omega)⟩ (As := [.ref x, .int v1, .ref o]) rfl) (pc' := 1498) rfl (cn' := cn + 1) (sn' := sn + 6) rfl rfl (fun v2 ws h => ?_)
  refine e_istore C (by decide) dL_law__1498 (pc' := 1500) rfl (lv' := [some (.ref b), some (.ref x), some (.ref m), some (.ref o), some (.int i), some (.int v2), none]) rfl ?_
  refine e_aload_n C (x := m) rfl dL_law__1500 (pc' := 1501) rfl ?_
  refine e_aload_n C (x := b) rfl dL_law__1501 (pc' := 1502) rfl ?_
  refine e_iload C (x := i) rfl dL_law__1502 (pc' := 1504) rfl ?_
  refine e_iconst C (v := (1 : Int32)) (by decide) dL_law__1504 (pc' := 1505) rfl ?_
  refine e_iadd C dL_law__1505 (pc' := 1506) rfl ?_
  refine f_sld C hX dL_law__1506 (pc' := 1507) rfl h (fun v3 h => ?_)
  obtain ⟨hv, h⟩ := h
  refine e_calli (run_V (n := 1) C (m_X7_says hst h) gL_law__X7_says rfl ⟨rfl, by decide, by decide, by decide +kernel⟩ ⟨by decide, by decide⟩ (ci := 7) rfl rfl hv rfl (Nat.le_of_ble_eq_true rfl) dL_law__1507 ⟨(by show cn + 1 ≤ 601024; omega), (by show sn + 6 ≤ 7293034; omega)⟩ (As := [.int v3]) rfl) (pc' := 1510) rfl (cn' := cn + 1) (sn' := sn + 6) rfl rfl (fun v4 ws h => ?_)
  refine e_istore C (by decide) dL_law__1510 (pc' := 1512) rfl (lv' := [some (.ref b), some (.ref x), some (.ref m), some (.ref o), some (.int i), some (.int v2), some (.int v4)]) rfl ?_
  refine e_aload_n C (x := m) rfl dL_law__1512 (pc' := 1513) rfl ?_
  obtain ⟨hv, h⟩ := h
  refine e_calli (run_V (n := 0) C (m_X7_thrown hst h) gL_law__X7_thrown rfl ⟨rfl, by decide, by decide, by decide +kernel⟩ ⟨by decide, by decide⟩ (ci := 7) rfl rfl hv rfl (Nat.le_of_ble_eq_true rfl) dL_law__1513 ⟨(by show cn + 1 ≤ 601024; omega), (by show sn + 6 ≤ 7293034; omega)⟩ (As := []) rfl) (pc' := 1516) rfl (cn' := cn + 1) (sn' := sn + 6) rfl rfl (fun v5 ws h => ?_)
  refine e_iload C (x := v2) rfl dL_law__1516 (pc' := 1518) rfl ?_
  refine e_icmp_eq C (tg := 1523) dL_law__1518 (by decide) (pc' := 1521) rfl (fun hc => ?_) (fun hc => ?_)
  · replace h := h.1 hc
    refine e_iload C (x := v2) rfl dL_law__1523 (pc' := 1525) rfl ?_
    refine e_if_ne C (tg := 1540) dL_law__1525 (by decide) (pc' := 1528) rfl (fun hc => ?_) (fun hc => ?_)
    · replace h := h.1 hc
      refine e_mask [true, true, true, true, true, false, false] (lv' := [some (.ref b), some (.ref x), some (.ref m), some (.ref o), some (.int i), none, none]) rfl ?_
      exact h ⟨by omega, by omega⟩
    · replace h := h.2 hc
      refine e_aload_n C (x := o) rfl dL_law__1528 (pc' := 1529) rfl ?_
      refine e_iconst C (v := (0 : Int32)) (by decide) dL_law__1529 (pc' := 1530) rfl ?_
      refine f_laload C dL_law__1530 (pc' := 1531) rfl h (fun v6 h => ?_)
      refine e_iload C (x := v4) rfl dL_law__1531 (pc' := 1533) rfl ?_
      refine e_i2l C dL_law__1533 (pc' := 1534) rfl ?_
      refine e_lcmp C dL_law__1534 (pc' := 1535) rfl ?_
      refine e_if_eq C (tg := 1540) dL_law__1535 (by decide) (pc' := 1538) rfl (fun hc => ?_) (fun hc => ?_)
      · replace h := h.1 hc
        refine e_mask [true, true, true, true, true, false, false] (lv' := [some (.ref b), some (.ref x), some (.ref m), some (.ref o), some (.int i), none, none]) rfl ?_
        exact h ⟨by omega, by omega⟩
      · replace h := h.2 hc
        refine e_iconst C (v := (0 : Int32)) (by decide) dL_law__1538 (pc' := 1539) rfl ?_
        exact h.elim
  · replace h := h.2 hc
    refine e_iconst C (v := (0 : Int32)) (by decide) dL_law__1521 (pc' := 1522) rfl ?_
    exact h.elim
