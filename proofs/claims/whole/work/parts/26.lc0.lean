def L_0 (G : Gx) (L : Nat) (xs : Nat → Int32) (x m o : Nat) (i : Int32) (cn sn : Nat) (ws : va_W) (N : Nat → Nat → va_W → Prop) : Prop := qX L xs (i + (1 : Int32)) (fun v1 => qX L xs (i + (2 : Int32)) (fun v2 => qX L xs (i + (3 : Int32)) (fun v3 => qX L xs (i + (4 : Int32)) (fun v4 => qX L xs (i + (5 : Int32)) (fun v5 => (qV 6 x ws ∧ F_X6_feed G x v1 v2 v3 v4 v5 ws (fun v6 ws => qX L xs (i + (1 : Int32)) (fun v7 => qX L xs (i + (2 : Int32)) (fun v8 => qX L xs (i + (3 : Int32)) (fun v9 => qX L xs (i + (4 : Int32)) (fun v10 => qX L xs (i + (5 : Int32)) (fun v11 => (qV 7 m ws ∧ F_X7_feed G m v7 v8 v9 v10 v11 ws (fun v12 ws => ((v6 = v12 → N cn sn ws) ∧ (¬ v6 = v12 → False))))))))))))))))
set_option maxRecDepth 20000 in
set_option maxHeartbeats 4000000 in
theorem lc_0 {K : Kx} {G : Gx} {b L x m o cn sn : Nat} {xs : Nat → Int32} {i : Int32} {ws : va_W} {N : Nat → Nat → va_W → Prop} (hst : (gl G).stackTraces = false) (C : Cx K G code 7 RL ret wsL_law_ room_1) (hX : Sc K G b L xs) (hcn : cn + 20 ≤ 601024) (hsn : sn + 200 ≤ 7293034)
    (hN : ∀ cn sn ws, N cn sn ws → Ev K G 7 cn sn 1741 [some (.ref b), some (.ref x), some (.ref m), some (.ref o), some (.int i), none, none] [] ws) (h : L_0 G L xs x m o i cn sn ws N) : Ev K G 7 cn sn 156 [some (.ref b), some (.ref x), some (.ref m), some (.ref o), some (.int i), none, none] [] ws := by
  refine e_aload_n C (x := x) rfl dL_law__156 (pc' := 157) rfl ?_
  refine e_aload_n C (x := b) rfl dL_law__157 (pc' := 158) rfl ?_
  refine e_iload C (x := i) rfl dL_law__158 (pc' := 160) rfl ?_
  refine e_iconst C (v := (1 : Int32)) (by decide) dL_law__160 (pc' := 161) rfl ?_
  refine e_iadd C dL_law__161 (pc' := 162) rfl ?_
  refine f_sld C hX dL_law__162 (pc' := 163) rfl h (fun v1 h => ?_)
  refine e_aload_n C (x := b) rfl dL_law__163 (pc' := 164) rfl ?_
  refine e_iload C (x := i) rfl dL_law__164 (pc' := 166) rfl ?_
  refine e_iconst C (v := (2 : Int32)) (by decide) dL_law__166 (pc' := 167) rfl ?_
  refine e_iadd C dL_law__167 (pc' := 168) rfl ?_
  refine f_sld C hX dL_law__168 (pc' := 169) rfl h (fun v2 h => ?_)
  refine e_aload_n C (x := b) rfl dL_law__169 (pc' := 170) rfl ?_
  refine e_iload C (x := i) rfl dL_law__170 (pc' := 172) rfl ?_
  refine e_iconst C (v := (3 : Int32)) (by decide) dL_law__172 (pc' := 173) rfl ?_
  refine e_iadd C dL_law__173 (pc' := 174) rfl ?_
  refine f_sld C hX dL_law__174 (pc' := 175) rfl h (fun v3 h => ?_)
  refine e_aload_n C (x := b) rfl dL_law__175 (pc' := 176) rfl ?_
  refine e_iload C (x := i) rfl dL_law__176 (pc' := 178) rfl ?_
  refine e_iconst C (v := (4 : Int32)) (by decide) dL_law__178 (pc' := 179) rfl ?_
  refine e_iadd C dL_law__179 (pc' := 180) rfl ?_
  refine f_sld C hX dL_law__180 (pc' := 181) rfl h (fun v4 h => ?_)
  refine e_aload_n C (x := b) rfl dL_law__181 (pc' := 182) rfl ?_
  refine e_iload C (x := i) rfl dL_law__182 (pc' := 184) rfl ?_
  refine e_iconst C (v := (5 : Int32)) (by decide) dL_law__184 (pc' := 185) rfl ?_
  refine e_iadd C dL_law__185 (pc' := 186) rfl ?_
  refine f_sld C hX dL_law__186 (pc' := 187) rfl h (fun v5 h => ?_)
  obtain ⟨hv, h⟩ := h
  refine e_calli (run_V (n := 5) C (m_X6_feed hst h) gL_law__X6_feed rfl ⟨rfl, by decide, by decide, by decide +kernel⟩ ⟨by decide, by decide⟩ (ci := 6) rfl rfl hv rfl (Nat.le_of_ble_eq_true rfl) dL_law__187 ⟨(by show cn ≤ 601024; omega), (by show sn ≤ 7293034; omega)⟩ (As := [.int v1, .int v2, .int v3, .int v4, .int v5]) rfl) (pc' := 190) rfl (cn' := cn) (sn' := sn) rfl rfl (fun v6 ws h => ?_)
  refine e_aload_n C (x := m) rfl dL_law__190 (pc' := 191) rfl ?_
  refine e_aload_n C (x := b) rfl dL_law__191 (pc' := 192) rfl ?_
  refine e_iload C (x := i) rfl dL_law__192 (pc' := 194) rfl ?_
  refine e_iconst C (v := (1 : Int32)) (by decide) dL_law__194 (pc' := 195) rfl ?_
  refine e_iadd C dL_law__195 (pc' := 196) rfl ?_
  refine f_sld C hX dL_law__196 (pc' := 197) rfl h (fun v7 h => ?_)
  refine e_aload_n C (x := b) rfl dL_law__197 (pc' := 198) rfl ?_
  refine e_iload C (x := i) rfl dL_law__198 (pc' := 200) rfl ?_
  refine e_iconst C (v := (2 : Int32)) (by decide) dL_law__200 (pc' := 201) rfl ?_
  refine e_iadd C dL_law__201 (pc' := 202) rfl ?_
  refine f_sld C hX dL_law__202 (pc' := 203) rfl h (fun v8 h => ?_)
  refine e_aload_n C (x := b) rfl dL_law__203 (pc' := 204) rfl ?_
  refine e_iload C (x := i) rfl dL_law__204 (pc' := 206) rfl ?_
  refine e_iconst C (v := (3 : Int32)) (by decide) dL_law__206 (pc' := 207) rfl ?_
  refine e_iadd C dL_law__207 (pc' := 208) rfl ?_
  refine f_sld C hX dL_law__208 (pc' := 209) rfl h (fun v9 h => ?_)
  refine e_aload_n C (x := b) rfl dL_law__209 (pc' := 210) rfl ?_
  refine e_iload C (x := i) rfl dL_law__210 (pc' := 212) rfl ?_
  refine e_iconst C (v := (4 : Int32)) (by decide) dL_law__212 (pc' := 213) rfl ?_
  refine e_iadd C dL_law__213 (pc' := 214) rfl ?_
  refine f_sld C hX dL_law__214 (pc' := 215) rfl h (fun v10 h => ?_)
  refine e_aload_n C (x := b) rfl dL_law__215 (pc' := 216) rfl ?_
  refine e_iload C (x := i) rfl dL_law__216 (pc' := 218) rfl ?_
  refine e_iconst C (v := (5 : Int32)) (by decide) dL_law__218 (pc' := 219) rfl ?_
  refine e_iadd C dL_law__219 (pc' := 220) rfl ?_
  refine f_sld C hX dL_law__220 (pc' := 221) rfl h (fun v11 h => ?_)
  obtain ⟨hv, h⟩ := h
  refine e_calli (run_V (n := 5) C (m_X7_feed hst h) gL_law__X7_feed rfl ⟨rfl, by decide, by decide, by decide +kernel⟩ ⟨by decide, by decide⟩ (ci := 7) rfl rfl hv rfl (Nat.le_of_ble_eq_true rfl) dL_law__221 ⟨(by show cn ≤ 601024; omega), (by show sn ≤ 7293034; omega)⟩ (As := [.int v7, .int v8, .int v9, .int v10, .int v11]) rfl) (pc' := 224) rfl (cn' := cn) (sn' := sn) rfl rfl (fun v12 ws h => ?_)
  refine e_icmp_eq C (tg := 1741) dL_law__224 (by decide) (pc' := 227) rfl (fun hc => ?_) (fun hc => ?_)
  · replace h := h.1 hc
    exact hN _ _ _ h
  · replace h := h.2 hc
    refine e_iconst C (v := (0 : Int32)) (by decide) dL_law__227 (pc' := 228) rfl ?_
    exact h.elim
def L_1 (G : Gx) (L : Nat) (xs : Nat → Int32) (x m o : Nat) (i : Int32) (cn sn : Nat) (ws : va_W) (N : Nat → Nat → va_W → Prop) : Prop := qX L xs (i + (1 : Int32)) (fun v1 => (qV 6 x ws ∧ F_X6_end G x v1 ws (fun v2 ws => qX L xs (i + (1 : Int32)) (fun v3 => (qV 7 m ws ∧ F_X7_end G m v3 ws (fun v4 ws => ((v2 = v4 → N cn sn ws) ∧ (¬ v2 = v4 → False))))))))
set_option maxRecDepth 20000 in
set_option maxHeartbeats 4000000 in
theorem lc_1 {K : Kx} {G : Gx} {b L x m o cn sn : Nat} {xs : Nat → Int32} {i : Int32} {ws : va_W} {N : Nat → Nat → va_W → Prop} (hst : (gl G).stackTraces = false) (C : Cx K G code 7 RL ret wsL_law_ room_1) (hX : Sc K G b L xs) (hcn : cn + 20 ≤ 601024) (hsn : sn + 200 ≤ 7293034)
    (hN : ∀ cn sn ws, N cn sn ws → Ev K G 7 cn sn 1741 [some (.ref b), some (.ref x), some (.ref m), some (.ref o), some (.int i), none, none] [] ws) (h : L_1 G L xs x m o i cn sn ws N) : Ev K G 7 cn sn 229 [some (.ref b), some (.ref x), some (.ref m), some (.ref o), some (.int i), none, none] [] ws := by
  refine e_aload_n C (x := x) rfl dL_law__229 (pc' := 230) rfl ?_
  refine e_aload_n C (x := b) rfl dL_law__230 (pc' := 231) rfl ?_
  refine e_iload C (x := i) rfl dL_law__231 (pc' := 233) rfl ?_
  refine e_iconst C (v := (1 : Int32)) (by decide) dL_law__233 (pc' := 234) rfl ?_
  refine e_iadd C dL_law__234 (pc' := 235) rfl ?_
  refine f_sld C hX dL_law__235 (pc' := 236) rfl h (fun v1 h => ?_)
  obtain ⟨hv, h⟩ := h
  refine e_calli (run_V (n := 1) C (m_X6_end hst h) gL_law__X6_end rfl ⟨rfl, by decide, by decide, by decide +kernel⟩ ⟨by decide, by decide⟩ (ci := 6) rfl rfl hv rfl (Nat.le_of_ble_eq_true rfl) dL_law__236 ⟨(by show cn ≤ 601024; omega), (by show sn ≤ 7293034; omega)⟩ (As := [.int v1]) rfl) (pc' := 239) rfl (cn' := cn) (sn' := sn) rfl rfl (fun v2 ws h => ?_)
  refine e_aload_n C (x := m) rfl dL_law__239 (pc' := 240) rfl ?_
  refine e_aload_n C (x := b) rfl dL_law__240 (pc' := 241) rfl ?_
  refine e_iload C (x := i) rfl dL_law__241 (pc' := 243) rfl ?_
  refine e_iconst C (v := (1 : Int32)) (by decide) dL_law__243 (pc' := 244) rfl ?_
  refine e_iadd C dL_law__244 (pc' := 245) rfl ?_
  refine f_sld C hX dL_law__245 (pc' := 246) rfl h (fun v3 h => ?_)
  obtain ⟨hv, h⟩ := h
  refine e_calli (run_V (n := 1) C (m_X7_end hst h) gL_law__X7_end rfl ⟨rfl, by decide, by decide, by decide +kernel⟩ ⟨by decide, by decide⟩ (ci := 7) rfl rfl hv rfl (Nat.le_of_ble_eq_true rfl) dL_law__246 ⟨(by show cn ≤ 601024; omega), (by show sn ≤ 7293034; omega)⟩ (As := [.int v3]) rfl) (pc' := 249) rfl (cn' := cn) (sn' := sn) rfl rfl (fun v4 ws h => ?_)
  refine e_icmp_eq C (tg := 1741) dL_law__249 (by decide) (pc' := 252) rfl (fun hc => ?_) (fun hc => ?_)
  · replace h := h.1 hc
    exact hN _ _ _ h
  · replace h := h.2 hc
    refine e_iconst C (v := (0 : Int32)) (by decide) dL_law__252 (pc' := 253) rfl ?_
    exact h.elim
def L_2 (G : Gx) (L : Nat) (xs : Nat → Int32) (x m o : Nat) (i : Int32) (cn sn : Nat) (ws : va_W) (N : Nat → Nat → va_W → Prop) : Prop := qX L xs (i + (1 : Int32)) (fun v1 => qX L xs (i + (2 : Int32)) (fun v2 => (F_L_ground G x v1 v2 ws (fun v3 ws => qX L xs (i + (1 : Int32)) (fun v4 => qX L xs (i + (2 : Int32)) (fun v5 => (qV 7 m ws ∧ F_X7_ground G m v4 v5 ws (fun ws => (qV 7 m ws ∧ F_X7_thrown G m ws (fun v7 ws => ((v7 = v3 → N (cn + 1) (sn + 6) ws) ∧ (¬ v7 = v3 → False))))))))))))
set_option maxRecDepth 20000 in
set_option maxHeartbeats 4000000 in
theorem lc_2 {K : Kx} {G : Gx} {b L x m o cn sn : Nat} {xs : Nat → Int32} {i : Int32} {ws : va_W} {N : Nat → Nat → va_W → Prop} (hst : (gl G).stackTraces = false) (C : Cx K G code 7 RL ret wsL_law_ room_1) (hX : Sc K G b L xs) (hcn : cn + 20 ≤ 601024) (hsn : sn + 200 ≤ 7293034)
    (hN : ∀ cn sn ws, N cn sn ws → Ev K G 7 cn sn 1741 [some (.ref b), some (.ref x), some (.ref m), some (.ref o), some (.int i), none, none] [] ws) (h : L_2 G L xs x m o i cn sn ws N) : Ev K G 7 cn sn 254 [some (.ref b), some (.ref x), some (.ref m), some (.ref o), some (.int i), none, none] [] ws := by
  refine e_aload_n C (x := x) rfl dL_law__254 (pc' := 255) rfl ?_
  refine e_aload_n C (x := b) rfl dL_law__255 (pc' := 256) rfl ?_
  refine e_iload C (x := i) rfl dL_law__256 (pc' := 258) rfl ?_
  refine e_iconst C (v := (1 : Int32)) (by decide) dL_law__258 (pc' := 259) rfl ?_
  refine e_iadd C dL_law__259 (pc' := 260) rfl ?_
  refine f_sld C hX dL_law__260 (pc' := 261) rfl h (fun v1 h => ?_)
  refine e_aload_n C (x := b) rfl dL_law__261 (pc' := 262) rfl ?_
  refine e_iload C (x := i) rfl dL_law__262 (pc' := 264) rfl ?_
  refine e_iconst C (v := (2 : Int32)) (by decide) dL_law__264 (pc' := 265) rfl ?_
  refine e_iadd C dL_law__265 (pc' := 266) rfl ?_
  refine f_sld C hX dL_law__266 (pc' := 267) rfl h (fun v2 h => ?_)
  refine e_calli (run_SW (n := 3) C (m_L_ground hst h) gL_law__L_ground rfl ⟨by decide, by decide, by decide +kernel⟩ ⟨by decide, by decide⟩ rfl (Nat.le_of_ble_eq_true rfl) dL_law__267 ⟨(by show cn + 1 ≤ 601024; omega), (by show sn + 6 ≤ 7293034; omega)⟩ (As := [.ref x, .int v1, .int v2]) rfl) (pc' := 270) rfl (cn' := cn + 1) (sn' := sn + 6) rfl rfl (fun v3 ws h => ?_)
  refine e_istore C (by decide) dL_law__270 (pc' := 272) rfl (lv' := [some (.ref b), some (.ref x), some (.ref m), some (.ref o), some (.int i), some (.int v3), none]) rfl ?_
  refine e_aload_n C (x := m) rfl dL_law__272 (pc' := 273) rfl ?_
  refine e_aload_n C (x := b) rfl dL_law__273 (pc' := 274) rfl ?_
  refine e_iload C (x := i) rfl dL_law__274 (pc' := 276) rfl ?_
  refine e_iconst C (v := (1 : Int32)) (by decide) dL_law__276 (pc' := 277) rfl ?_
  refine e_iadd C dL_law__277 (pc' := 278) rfl ?_
  refine f_sld C hX dL_law__278 (pc' := 279) rfl h (fun v4 h => ?_)
  refine e_aload_n C (x := b) rfl dL_law__279 (pc' := 280) rfl ?_
  refine e_iload C (x := i) rfl dL_law__280 (pc' := 282) rfl ?_
  refine e_iconst C (v := (2 : Int32)) (by decide) dL_law__282 (pc' := 283) rfl ?_
  refine e_iadd C dL_law__283 (pc' := 284) rfl ?_
  refine f_sld C hX dL_law__284 (pc' := 285) rfl h (fun v5 h => ?_)
  obtain ⟨hv, h⟩ := h
  refine e_callv (run_V (n := 2) C (m_X7_ground hst h) gL_law__X7_ground rfl ⟨rfl, by decide, by decide, by decide +kernel⟩ ⟨by decide, by decide⟩ (ci := 7) rfl rfl hv rfl (Nat.le_of_ble_eq_true rfl) dL_law__285 ⟨(by show cn + 1 ≤ 601024; omega), (by show sn + 6 ≤ 7293034; omega)⟩ (As := [.int v4, .int v5]) rfl) (pc' := 288) rfl (cn' := cn + 1) (sn' := sn + 6) rfl rfl (fun ws h => ?_)
  refine e_aload_n C (x := m) rfl dL_law__288 (pc' := 289) rfl ?_
  obtain ⟨hv, h⟩ := h
  refine e_calli (run_V (n := 0) C (m_X7_thrown hst h) gL_law__X7_thrown rfl ⟨rfl, by decide, by decide, by decide +kernel⟩ ⟨by decide, by decide⟩ (ci := 7) rfl rfl hv rfl (Nat.le_of_ble_eq_true rfl) dL_law__289 ⟨(by show cn + 1 ≤ 601024; omega), (by show sn + 6 ≤ 7293034; omega)⟩ (As := []) rfl) (pc' := 292) rfl (cn' := cn + 1) (sn' := sn + 6) rfl rfl (fun v7 ws h => ?_)
  refine e_iload C (x := v3) rfl dL_law__292 (pc' := 294) rfl ?_
  refine e_icmp_eq C (tg := 299) dL_law__294 (by decide) (pc' := 297) rfl (fun hc => ?_) (fun hc => ?_)
  · replace h := h.1 hc
    refine e_goto C (tg := 1741) dL_law__299 (by decide) ?_
    refine e_mask [true, true, true, true, true, false, false] (lv' := [some (.ref b), some (.ref x), some (.ref m), some (.ref o), some (.int i), none, none]) rfl ?_
    exact hN _ _ _ h
  · replace h := h.2 hc
    refine e_iconst C (v := (0 : Int32)) (by decide) dL_law__297 (pc' := 298) rfl ?_
    exact h.elim
def L_3 (G : Gx) (L : Nat) (xs : Nat → Int32) (x m o : Nat) (i : Int32) (cn sn : Nat) (ws : va_W) (N : Nat → Nat → va_W → Prop) : Prop := ∀ (J343 : Nat → Nat → va_W → Prop), (∀ (cn : Nat) (sn : Nat) (ws : va_W), N cn sn ws → J343 cn sn ws) → (F_L_channel G x o ws (fun v1 ws => (qV 7 m ws ∧ F_X7_channel G m ws (fun v2 ws => (qV 7 m ws ∧ F_X7_thrown G m ws (fun v3 ws => ((v3 = v1 → ((¬ v1 = 0 → J343 (cn + 1) (sn + 6) ws) ∧ (v1 = 0 → qLa (gc G 5) o (0 : Int32) ws (fun v4 => (((lg_cmp v4 v2.toInt64) = 0 → J343 (cn + 1) (sn + 6) ws) ∧ (¬ (lg_cmp v4 v2.toInt64) = 0 → False)))))) ∧ (¬ v3 = v1 → False))))))))
set_option maxRecDepth 20000 in
set_option maxHeartbeats 4000000 in
theorem lc_3 {K : Kx} {G : Gx} {b L x m o cn sn : Nat} {xs : Nat → Int32} {i : Int32} {ws : va_W} {N : Nat → Nat → va_W → Prop} (hst : (gl G).stackTraces = false) (C : Cx K G code 7 RL ret wsL_law_ room_1) (hX : Sc K G b L xs) (hcn : cn + 20 ≤ 601024) (hsn : sn + 200 ≤ 7293034)
    (hN : ∀ cn sn ws, N cn sn ws → Ev K G 7 cn sn 1741 [some (.ref b), some (.ref x), some (.ref m), some (.ref o), some (.int i), none, none] [] ws) (h : L_3 G L xs x m o i cn sn ws N) : Ev K G 7 cn sn 302 [some (.ref b), some (.ref x), some (.ref m), some (.ref o), some (.int i), none, none] [] ws := by
  replace h := h (fun cn sn ws => (cn + 16 ≤ 601024 ∧ sn + 160 ≤ 7293034) → Ev K G 7 cn sn 343 [some (.ref b), some (.ref x), some (.ref m), some (.ref o), some (.int i), none, none] [] ws)
  replace h := h (by
    intro cn sn ws h hb9
    obtain ⟨hcn9, hsn9⟩ := hb9
    show Ev K G 7 cn sn 343 [some (.ref b), some (.ref x), some (.ref m), some (.ref o), some (.int i), none, none] [] ws
    refine e_goto C (tg := 1741) dL_law__343 (by decide) ?_
    exact hN _ _ _ h)
  refine e_aload_n C (x := x) rfl dL_law__302 (pc' := 303) rfl ?_
  refine e_aload_n C (x := o) rfl dL_law__303 (pc' := 304) rfl ?_
  refine e_calli (run_SW (n := 2) C (m_L_channel hst h) gL_law__L_channel rfl ⟨by decide, by decide, by decide +kernel⟩ ⟨by decide, by decide⟩ rfl (Nat.le_of_ble_eq_true rfl) dL_law__304 ⟨(by show cn + 1 ≤ 601024; omega), (by show sn + 6 ≤ 7293034; omega)⟩ (As := [.ref x, .ref o]) rfl) (pc' := 307) rfl (cn' := cn + 1) (sn' := sn + 6) rfl rfl (fun v1 ws h => ?_)
  refine e_istore C (by decide) dL_law__307 (pc' := 309) rfl (lv' := [some (.ref b), some (.ref x), some (.ref m), some (.ref o), some (.int i), some (.int v1), none]) rfl ?_
  refine e_aload_n C (x := m) rfl dL_law__309 (pc' := 310) rfl ?_
  obtain ⟨hv, h⟩ := h
  refine e_calli (run_V (n := 0) C (m_X7_channel hst h) gL_law__X7_channel rfl ⟨rfl, by decide, by decide, by decide +kernel⟩ ⟨by decide, by decide⟩ (ci := 7) rfl rfl hv rfl (Nat.le_of_ble_eq_true rfl) dL_law__310 ⟨(by show cn + 1 ≤ 601024; omega), (by show sn + 6 ≤ 7293034; omega)⟩ (As := []) rfl) (pc' := 313) rfl (cn' := cn + 1) (sn' := sn + 6) rfl rfl (fun v2 ws h => ?_)
  refine e_istore C (by decide) dL_law__313 (pc' := 315) rfl (lv' := [some (.ref b), some (.ref x), some (.ref m), some (.ref o), some (.int i), some (.int v1), some (.int v2)]) rfl ?_
  refine e_aload_n C (x := m) rfl dL_law__315 (pc' := 316) rfl ?_
  obtain ⟨hv, h⟩ := h
  refine e_calli (run_V (n := 0) C (m_X7_thrown hst h) gL_law__X7_thrown rfl ⟨rfl, by decide, by decide, by decide +kernel⟩ ⟨by decide, by decide⟩ (ci := 7) rfl rfl hv rfl (Nat.le_of_ble_eq_true rfl) dL_law__316 ⟨(by show cn + 1 ≤ 601024; omega), (by show sn + 6 ≤ 7293034; omega)⟩ (As := []) rfl) (pc' := 319) rfl (cn' := cn + 1) (sn' := sn + 6) rfl rfl (fun v3 ws h => ?_)
  refine e_iload C (x := v1) rfl dL_law__319 (pc' := 321) rfl ?_
  refine e_icmp_eq C (tg := 326) dL_law__321 (by decide) (pc' := 324) rfl (fun hc => ?_) (fun hc => ?_)
  · replace h := h.1 hc
    refine e_iload C (x := v1) rfl dL_law__326 (pc' := 328) rfl ?_
    refine e_if_ne C (tg := 343) dL_law__328 (by decide) (pc' := 331) rfl (fun hc => ?_) (fun hc => ?_)
    · replace h := h.1 hc
      refine e_mask [true, true, true, true, true, false, false] (lv' := [some (.ref b), some (.ref x), some (.ref m), some (.ref o), some (.int i), none, none]) rfl ?_
      exact h ⟨by omega, by omega⟩
    · replace h := h.2 hc
      refine e_aload_n C (x := o) rfl dL_law__331 (pc' := 332) rfl ?_
      refine e_iconst C (v := (0 : Int32)) (by decide) dL_law__332 (pc' := 333) rfl ?_
      refine f_laload C dL_law__333 (pc' := 334) rfl h (fun v4 h => ?_)
      refine e_iload C (x := v2) rfl dL_law__334 (pc' := 336) rfl ?_
      refine e_i2l C dL_law__336 (pc' := 337) rfl ?_
      refine e_lcmp C dL_law__337 (pc' := 338) rfl ?_
      refine e_if_eq C (tg := 343) dL_law__338 (by decide) (pc' := 341) rfl (fun hc => ?_) (fun hc => ?_)
      · replace h := h.1 hc
        refine e_mask [true, true, true, true, true, false, false] (lv' := [some (.ref b), some (.ref x), some (.ref m), some (.ref o), some (.int i), none, none]) rfl ?_
        exact h ⟨by omega, by omega⟩
      · replace h := h.2 hc
        refine e_iconst C (v := (0 : Int32)) (by decide) dL_law__341 (pc' := 342) rfl ?_
        exact h.elim
  · replace h := h.2 hc
    refine e_iconst C (v := (0 : Int32)) (by decide) dL_law__324 (pc' := 325) rfl ?_
    exact h.elim
def L_4 (G : Gx) (L : Nat) (xs : Nat → Int32) (x m o : Nat) (i : Int32) (cn sn : Nat) (ws : va_W) (N : Nat → Nat → va_W → Prop) : Prop := ∀ (J435 : Nat → Nat → va_W → Prop), (∀ (cn : Nat) (sn : Nat) (ws : va_W), N cn sn ws → J435 cn sn ws) → qX L xs (i + (1 : Int32)) (fun v1 => qX L xs (i + (2 : Int32)) (fun v2 => qX L xs (i + (3 : Int32)) (fun v3 => qX L xs (i + (4 : Int32)) (fun v4 => (F_L_well G x v1 v2 v3 v4 o ws (fun v5 ws => qX L xs (i + (1 : Int32)) (fun v6 => qX L xs (i + (2 : Int32)) (fun v7 => qX L xs (i + (3 : Int32)) (fun v8 => qX L xs (i + (4 : Int32)) (fun v9 => (qV 7 m ws ∧ F_X7_well G m v6 v7 v8 v9 ws (fun v10 ws => (qV 7 m ws ∧ F_X7_thrown G m ws (fun v11 ws => ((v11 = v5 → ((¬ v5 = 0 → J435 (cn + 3) (sn + 18) ws) ∧ (v5 = 0 → qLa (gc G 5) o (0 : Int32) ws (fun v12 => (((lg_cmp v12 v10.toInt64) = 0 → J435 (cn + 3) (sn + 18) ws) ∧ (¬ (lg_cmp v12 v10.toInt64) = 0 → False)))))) ∧ (¬ v11 = v5 → False))))))))))))))))
set_option maxRecDepth 20000 in
set_option maxHeartbeats 4000000 in
theorem lc_4 {K : Kx} {G : Gx} {b L x m o cn sn : Nat} {xs : Nat → Int32} {i : Int32} {ws : va_W} {N : Nat → Nat → va_W → Prop} (hst : (gl G).stackTraces = false) (C : Cx K G code 7 RL ret wsL_law_ room_1) (hX : Sc K G b L xs) (hcn : cn + 20 ≤ 601024) (hsn : sn + 200 ≤ 7293034)
    (hN : ∀ cn sn ws, N cn sn ws → Ev K G 7 cn sn 1741 [some (.ref b), some (.ref x), some (.ref m), some (.ref o), some (.int i), none, none] [] ws) (h : L_4 G L xs x m o i cn sn ws N) : Ev K G 7 cn sn 346 [some (.ref b), some (.ref x), some (.ref m), some (.ref o), some (.int i), none, none] [] ws := by
  replace h := h (fun cn sn ws => (cn + 16 ≤ 601024 ∧ sn + 160 ≤ 7293034) → Ev K G 7 cn sn 435 [some (.ref b), some (.ref x), some (.ref m), some (.ref o), some (.int i), none, none] [] ws)
  replace h := h (by
    intro cn sn ws h hb9
    obtain ⟨hcn9, hsn9⟩ := hb9
    show Ev K G 7 cn sn 435 [some (.ref b), some (.ref x), some (.ref m), some (.ref o), some (.int i), none, none] [] ws
    refine e_goto C (tg := 1741) dL_law__435 (by decide) ?_
    exact hN _ _ _ h)
  refine e_aload_n C (x := x) rfl dL_law__346 (pc' := 347) rfl ?_
  refine e_aload_n C (x := b) rfl dL_law__347 (pc' := 348) rfl ?_
  refine e_iload C (x := i) rfl dL_law__348 (pc' := 350) rfl ?_
  refine e_iconst C (v := (1 : Int32)) (by decide) dL_law__350 (pc' := 351) rfl ?_
  refine e_iadd C dL_law__351 (pc' := 352) rfl ?_
  refine f_sld C hX dL_law__352 (pc' := 353) rfl h (fun v1 h => ?_)
  refine e_aload_n C (x := b) rfl dL_law__353 (pc' := 354) rfl ?_
  refine e_iload C (x := i) rfl dL_law__354 (pc' := 356) rfl ?_
  refine e_iconst C (v := (2 : Int32)) (by decide) dL_law__356 (pc' := 357) rfl ?_
  refine e_iadd C dL_law__357 (pc' := 358) rfl ?_
  refine f_sld C hX dL_law__358 (pc' := 359) rfl h (fun v2 h => ?_)
  refine e_aload_n C (x := b) rfl dL_law__359 (pc' := 360) rfl ?_
  refine e_iload C (x := i) rfl dL_law__360 (pc' := 362) rfl ?_
  refine e_iconst C (v := (3 : Int32)) (by decide) dL_law__362 (pc' := 363) rfl ?_
  refine e_iadd C dL_law__363 (pc' := 364) rfl ?_
  refine f_sld C hX dL_law__364 (pc' := 365) rfl h (fun v3 h => ?_)
  refine e_aload_n C (x := b) rfl dL_law__365 (pc' := 366) rfl ?_
  refine e_iload C (x := i) rfl dL_law__366 (pc' := 368) rfl ?_
  refine e_iconst C (v := (4 : Int32)) (by decide) dL_law__368 (pc' := 369) rfl ?_
  refine e_iadd C dL_law__369 (pc' := 370) rfl ?_
  refine f_sld C hX dL_law__370 (pc' := 371) rfl h (fun v4 h => ?_)
  refine e_aload_n C (x := o) rfl dL_law__371 (pc' := 372) rfl ?_
  refine e_calli (run_SW (n := 6) C (m_L_well hst h) gL_law__L_well rfl ⟨by decide, by decide, by decide +kernel⟩ ⟨by decide, by decide⟩ rfl (Nat.le_of_ble_eq_true rfl) dL_law__372 ⟨(by show cn + 3 ≤ 601024; omega), (by show sn + 18 ≤ 7293034; omega)⟩ (As := [.ref x, .int v1, .int v2, .int v3, .int v4, .ref o]) rfl) (pc' := 375) rfl (cn' := cn + 3) (sn' := sn + 18) rfl rfl (fun v5 ws h => ?_)
  refine e_istore C (by decide) dL_law__375 (pc' := 377) rfl (lv' := [some (.ref b), some (.ref x), some (.ref m), some (.ref o), some (.int i), some (.int v5), none]) rfl ?_
  refine e_aload_n C (x := m) rfl dL_law__377 (pc' := 378) rfl ?_
  refine e_aload_n C (x := b) rfl dL_law__378 (pc' := 379) rfl ?_
  refine e_iload C (x := i) rfl dL_law__379 (pc' := 381) rfl ?_
  refine e_iconst C (v := (1 : Int32)) (by decide) dL_law__381 (pc' := 382) rfl ?_
  refine e_iadd C dL_law__382 (pc' := 383) rfl ?_
  refine f_sld C hX dL_law__383 (pc' := 384) rfl h (fun v6 h => ?_)
  refine e_aload_n C (x := b) rfl dL_law__384 (pc' := 385) rfl ?_
  refine e_iload C (x := i) rfl dL_law__385 (pc' := 387) rfl ?_
  refine e_iconst C (v := (2 : Int32)) (by decide) dL_law__387 (pc' := 388) rfl ?_
  refine e_iadd C dL_law__388 (pc' := 389) rfl ?_
  refine f_sld C hX dL_law__389 (pc' := 390) rfl h (fun v7 h => ?_)
  refine e_aload_n C (x := b) rfl dL_law__390 (pc' := 391) rfl ?_
  refine e_iload C (x := i) rfl dL_law__391 (pc' := 393) rfl ?_
  refine e_iconst C (v := (3 : Int32)) (by decide) dL_law__393 (pc' := 394) rfl ?_
  refine e_iadd C dL_law__394 (pc' := 395) rfl ?_
  refine f_sld C hX dL_law__395 (pc' := 396) rfl h (fun v8 h => ?_)
  refine e_aload_n C (x := b) rfl dL_law__396 (pc' := 397) rfl ?_
  refine e_iload C (x := i) rfl dL_law__397 (pc' := 399) rfl ?_
  refine e_iconst C (v := (4 : Int32)) (by decide) dL_law__399 (pc' := 400) rfl ?_
  refine e_iadd C dL_law__400 (pc' := 401) rfl ?_
  refine f_sld C hX dL_law__401 (pc' := 402) rfl h (fun v9 h => ?_)
  obtain ⟨hv, h⟩ := h
  refine e_calli (run_V (n := 4) C (m_X7_well hst h) gL_law__X7_well rfl ⟨rfl, by decide, by decide, by decide +kernel⟩ ⟨by decide, by decide⟩ (ci := 7) rfl rfl hv rfl (Nat.le_of_ble_eq_true rfl) dL_law__402 ⟨(by show cn + 3 ≤ 601024; omega), (by show sn + 18 ≤ 7293034; omega)⟩ (As := [.int v6, .int v7, .int v8, .int v9]) rfl) (pc' := 405) rfl (cn' := cn + 3) (sn' := sn + 18) rfl rfl (fun v10 ws h => ?_)
  refine e_istore C (by decide) dL_law__405 (pc' := 407) rfl (lv' := [some (.ref b), some (.ref x), some (.ref m), some (.ref o), some (.int i), some (.int v5), some (.int v10)]) rfl ?_
  refine e_aload_n C (x := m) rfl dL_law__407 (pc' := 408) rfl ?_
  obtain ⟨hv, h⟩ := h
  refine e_calli (run_V (n := 0) C (m_X7_thrown hst h) gL_law__X7_thrown rfl ⟨rfl, by decide, by decide, by decide +kernel⟩ ⟨by decide, by decide⟩ (ci := 7) rfl rfl hv rfl (Nat.le_of_ble_eq_true rfl) dL_law__408 ⟨(by show cn + 3 ≤ 601024; omega), (by show sn + 18 ≤ 7293034; omega)⟩ (As := []) rfl) (pc' := 411) rfl (cn' := cn + 3) (sn' := sn + 18) rfl rfl (fun v11 ws h => ?_)
  refine e_iload C (x := v5) rfl dL_law__411 (pc' := 413) rfl ?_
  refine e_icmp_eq C (tg := 418) dL_law__413 (by decide) (pc' := 416) rfl (fun hc => ?_) (fun hc => ?_)
  · replace h := h.1 hc
    refine e_iload C (x := v5) rfl dL_law__418 (pc' := 420) rfl ?_
    refine e_if_ne C (tg := 435) dL_law__420 (by decide) (pc' := 423) rfl (fun hc => ?_) (fun hc => ?_)
    · replace h := h.1 hc
      refine e_mask [true, true, true, true, true, false, false] (lv' := [some (.ref b), some (.ref x), some (.ref m), some (.ref o), some (.int i), none, none]) rfl ?_
      exact h ⟨by omega, by omega⟩
    · replace h := h.2 hc
      refine e_aload_n C (x := o) rfl dL_law__423 (pc' := 424) rfl ?_
      refine e_iconst C (v := (0 : Int32)) (by decide) dL_law__424 (pc' := 425) rfl ?_
      refine f_laload C dL_law__425 (pc' := 426) rfl h (fun v12 h => ?_)
      refine e_iload C (x := v10) rfl dL_law__426 (pc' := 428) rfl ?_
      refine e_i2l C dL_law__428 (pc' := 429) rfl ?_
      refine e_lcmp C dL_law__429 (pc' := 430) rfl ?_
      refine e_if_eq C (tg := 435) dL_law__430 (by decide) (pc' := 433) rfl (fun hc => ?_) (fun hc => ?_)
      · replace h := h.1 hc
        refine e_mask [true, true, true, true, true, false, false] (lv' := [some (.ref b), some (.ref x), some (.ref m), some (.ref o), some (.int i), none, none]) rfl ?_
        exact h ⟨by omega, by omega⟩
      · replace h := h.2 hc
        refine e_iconst C (v := (0 : Int32)) (by decide) dL_law__433 (pc' := 434) rfl ?_
        exact h.elim
  · replace h := h.2 hc
    refine e_iconst C (v := (0 : Int32)) (by decide) dL_law__416 (pc' := 417) rfl ?_
    exact h.elim
def L_5 (G : Gx) (L : Nat) (xs : Nat → Int32) (x m o : Nat) (i : Int32) (cn sn : Nat) (ws : va_W) (N : Nat → Nat → va_W → Prop) : Prop := ∀ (J498 : Nat → Nat → va_W → Prop), ∀ (J492 : Int64 → Int64 → Nat → Nat → va_W → Prop), (∀ (cn : Nat) (sn : Nat) (ws : va_W), N cn sn ws → J498 cn sn ws) → (∀ (t0 : Int64) (t1 : Int64) (cn : Nat) (sn : Nat) (ws : va_W), (((lg_cmp t1 t0) = 0 → J498 cn sn ws) ∧ (¬ (lg_cmp t1 t0) = 0 → False)) → J492 t0 t1 cn sn ws) → qX L xs (i + (1 : Int32)) (fun v1 => (F_L_may G x v1 o ws (fun v2 ws => qX L xs (i + (1 : Int32)) (fun v3 => (qV 7 m ws ∧ F_X7_may G m v3 ws (fun v4 ws => (qV 7 m ws ∧ F_X7_thrown G m ws (fun v5 ws => ((v5 = v2 → ((¬ v2 = 0 → J498 (cn + 2) (sn + 12) ws) ∧ (v2 = 0 → qLa (gc G 5) o (0 : Int32) ws (fun v6 => ((v4 = 0 → J492 (0 : Int64) v6 (cn + 2) (sn + 12) ws) ∧ (¬ v4 = 0 → J492 (1 : Int64) v6 (cn + 2) (sn + 12) ws)))))) ∧ (¬ v5 = v2 → False))))))))))
set_option maxRecDepth 20000 in
set_option maxHeartbeats 4000000 in
theorem lc_5 {K : Kx} {G : Gx} {b L x m o cn sn : Nat} {xs : Nat → Int32} {i : Int32} {ws : va_W} {N : Nat → Nat → va_W → Prop} (hst : (gl G).stackTraces = false) (C : Cx K G code 7 RL ret wsL_law_ room_1) (hX : Sc K G b L xs) (hcn : cn + 20 ≤ 601024) (hsn : sn + 200 ≤ 7293034)
    (hN : ∀ cn sn ws, N cn sn ws → Ev K G 7 cn sn 1741 [some (.ref b), some (.ref x), some (.ref m), some (.ref o), some (.int i), none, none] [] ws) (h : L_5 G L xs x m o i cn sn ws N) : Ev K G 7 cn sn 438 [some (.ref b), some (.ref x), some (.ref m), some (.ref o), some (.int i), none, none] [] ws := by
  replace h := h (fun cn sn ws => (cn + 12 ≤ 601024 ∧ sn + 120 ≤ 7293034) → Ev K G 7 cn sn 498 [some (.ref b), some (.ref x), some (.ref m), some (.ref o), some (.int i), none, none] [] ws) (fun t0 t1 cn sn ws => (cn + 16 ≤ 601024 ∧ sn + 160 ≤ 7293034) → Ev K G 7 cn sn 492 [some (.ref b), some (.ref x), some (.ref m), some (.ref o), some (.int i), none, none] [.long t0, .long t1] ws)
  replace h := h (by
    intro cn sn ws h hb9
    obtain ⟨hcn9, hsn9⟩ := hb9
    show Ev K G 7 cn sn 498 [some (.ref b), some (.ref x), some (.ref m), some (.ref o), some (.int i), none, none] [] ws
    refine e_goto C (tg := 1741) dL_law__498 (by decide) ?_
    exact hN _ _ _ h)
  replace h := h (by
    intro t0 t1 cn sn ws h hb9
    obtain ⟨hcn9, hsn9⟩ := hb9
    show Ev K G 7 cn sn 492 [some (.ref b), some (.ref x), some (.ref m), some (.ref o), some (.int i), none, none] [.long t0, .long t1] ws
    refine e_lcmp C dL_law__492 (pc' := 493) rfl ?_
    refine e_if_eq C (tg := 498) dL_law__493 (by decide) (pc' := 496) rfl (fun hc => ?_) (fun hc => ?_)
    · replace h := h.1 hc
      exact h ⟨by omega, by omega⟩
    · replace h := h.2 hc
      refine e_iconst C (v := (0 : Int32)) (by decide) dL_law__496 (pc' := 497) rfl ?_
      exact h.elim)
  refine e_aload_n C (x := x) rfl dL_law__438 (pc' := 439) rfl ?_
  refine e_aload_n C (x := b) rfl dL_law__439 (pc' := 440) rfl ?_
  refine e_iload C (x := i) rfl dL_law__440 (pc' := 442) rfl ?_
  refine e_iconst C (v := (1 : Int32)) (by decide) dL_law__442 (pc' := 443) rfl ?_
  refine e_iadd C dL_law__443 (pc' := 444) rfl ?_
  refine f_sld C hX dL_law__444 (pc' := 445) rfl h (fun v1 h => ?_)
  refine e_aload_n C (x := o) rfl dL_law__445 (pc' := 446) rfl ?_
  refine e_calli (run_SW (n := 3) C (m_L_may hst h) gL_law__L_may rfl ⟨by decide, by decide, by decide +kernel⟩ ⟨by decide, by decide⟩ rfl (Nat.le_of_ble_eq_true rfl) dL_law__446 ⟨(by show cn + 2 ≤ 601024; omega), (by show sn + 12 ≤ 7293034; omega)⟩ (As := [.ref x, .int v1, .ref o]) rfl) (pc' := 449) rfl (cn' := cn + 2) (sn' := sn + 12) rfl rfl (fun v2 ws h => ?_)
  refine e_istore C (by decide) dL_law__449 (pc' := 451) rfl (lv' := [some (.ref b), some (.ref x), some (.ref m), some (.ref o), some (.int i), some (.int v2), none]) rfl ?_
  refine e_aload_n C (x := m) rfl dL_law__451 (pc' := 452) rfl ?_
  refine e_aload_n C (x := b) rfl dL_law__452 (pc' := 453) rfl ?_
  refine e_iload C (x := i) rfl dL_law__453 (pc' := 455) rfl ?_
  refine e_iconst C (v := (1 : Int32)) (by decide) dL_law__455 (pc' := 456) rfl ?_
  refine e_iadd C dL_law__456 (pc' := 457) rfl ?_
  refine f_sld C hX dL_law__457 (pc' := 458) rfl h (fun v3 h => ?_)
  obtain ⟨hv, h⟩ := h
  refine e_calli (run_V (n := 1) C (m_X7_may hst h) gL_law__X7_may rfl ⟨rfl, by decide, by decide, by decide +kernel⟩ ⟨by decide, by decide⟩ (ci := 7) rfl rfl hv rfl (Nat.le_of_ble_eq_true rfl) dL_law__458 ⟨(by show cn + 2 ≤ 601024; omega), (by show sn + 12 ≤ 7293034; omega)⟩ (As := [.int v3]) rfl) (pc' := 461) rfl (cn' := cn + 2) (sn' := sn + 12) rfl rfl (fun v4 ws h => ?_)
  refine e_istore C (by decide) dL_law__461 (pc' := 463) rfl (lv' := [some (.ref b), some (.ref x), some (.ref m), some (.ref o), some (.int i), some (.int v2), some (.int v4)]) rfl ?_
  refine e_aload_n C (x := m) rfl dL_law__463 (pc' := 464) rfl ?_
  obtain ⟨hv, h⟩ := h
  refine e_calli (run_V (n := 0) C (m_X7_thrown hst h) gL_law__X7_thrown rfl ⟨rfl, by decide, by decide, by decide +kernel⟩ ⟨by decide, by decide⟩ (ci := 7) rfl rfl hv rfl (Nat.le_of_ble_eq_true rfl) dL_law__464 ⟨(by show cn + 2 ≤ 601024; omega), (by show sn + 12 ≤ 7293034; omega)⟩ (As := []) rfl) (pc' := 467) rfl (cn' := cn + 2) (sn' := sn + 12) rfl rfl (fun v5 ws h => ?_)
  refine e_iload C (x := v2) rfl dL_law__467 (pc' := 469) rfl ?_
  refine e_icmp_eq C (tg := 474) dL_law__469 (by decide) (pc' := 472) rfl (fun hc => ?_) (fun hc => ?_)
  · replace h := h.1 hc
    refine e_iload C (x := v2) rfl dL_law__474 (pc' := 476) rfl ?_
    refine e_if_ne C (tg := 498) dL_law__476 (by decide) (pc' := 479) rfl (fun hc => ?_) (fun hc => ?_)
    · replace h := h.1 hc
      refine e_mask [true, true, true, true, true, false, false] (lv' := [some (.ref b), some (.ref x), some (.ref m), some (.ref o), some (.int i), none, none]) rfl ?_
      exact h ⟨by omega, by omega⟩
    · replace h := h.2 hc
      refine e_aload_n C (x := o) rfl dL_law__479 (pc' := 480) rfl ?_
      refine e_iconst C (v := (0 : Int32)) (by decide) dL_law__480 (pc' := 481) rfl ?_
      refine f_laload C dL_law__481 (pc' := 482) rfl h (fun v6 h => ?_)
      refine e_iload C (x := v4) rfl dL_law__482 (pc' := 484) rfl ?_
      refine e_if_eq C (tg := 491) dL_law__484 (by decide) (pc' := 487) rfl (fun hc => ?_) (fun hc => ?_)
      · replace h := h.1 hc
        refine e_lconst C (v := (0 : Int64)) (by decide) dL_law__491 (pc' := 492) rfl ?_
        refine e_mask [true, true, true, true, true, false, false] (lv' := [some (.ref b), some (.ref x), some (.ref m), some (.ref o), some (.int i), none, none]) rfl ?_
        exact h ⟨by omega, by omega⟩
      · replace h := h.2 hc
        refine e_lconst C (v := (1 : Int64)) (by decide) dL_law__487 (pc' := 488) rfl ?_
        refine e_goto C (tg := 492) dL_law__488 (by decide) ?_
        refine e_mask [true, true, true, true, true, false, false] (lv' := [some (.ref b), some (.ref x), some (.ref m), some (.ref o), some (.int i), none, none]) rfl ?_
        exact h ⟨by omega, by omega⟩
  · replace h := h.2 hc
    refine e_iconst C (v := (0 : Int32)) (by decide) dL_law__472 (pc' := 473) rfl ?_
    exact h.elim
def L_6 (G : Gx) (L : Nat) (xs : Nat → Int32) (x m o : Nat) (i : Int32) (cn sn : Nat) (ws : va_W) (N : Nat → Nat → va_W → Prop) : Prop := ∀ (J578 : Nat → Nat → va_W → Prop), (∀ (cn : Nat) (sn : Nat) (ws : va_W), N cn sn ws → J578 cn sn ws) → qX L xs (i + (1 : Int32)) (fun v1 => qX L xs (i + (2 : Int32)) (fun v2 => qX L xs (i + (3 : Int32)) (fun v3 => (F_L_dig G x v1 v2 v3 o ws (fun v4 ws => qX L xs (i + (1 : Int32)) (fun v5 => qX L xs (i + (2 : Int32)) (fun v6 => qX L xs (i + (3 : Int32)) (fun v7 => (qV 7 m ws ∧ F_X7_dig G m v5 v6 v7 ws (fun v8 ws => (qV 7 m ws ∧ F_X7_thrown G m ws (fun v9 ws => ((v9 = v4 → ((¬ v4 = 0 → J578 (cn + 3) (sn + 18) ws) ∧ (v4 = 0 → qLa (gc G 5) o (0 : Int32) ws (fun v10 => (((lg_cmp v10 v8.toInt64) = 0 → J578 (cn + 3) (sn + 18) ws) ∧ (¬ (lg_cmp v10 v8.toInt64) = 0 → False)))))) ∧ (¬ v9 = v4 → False))))))))))))))
set_option maxRecDepth 20000 in
set_option maxHeartbeats 4000000 in
theorem lc_6 {K : Kx} {G : Gx} {b L x m o cn sn : Nat} {xs : Nat → Int32} {i : Int32} {ws : va_W} {N : Nat → Nat → va_W → Prop} (hst : (gl G).stackTraces = false) (C : Cx K G code 7 RL ret wsL_law_ room_1) (hX : Sc K G b L xs) (hcn : cn + 20 ≤ 601024) (hsn : sn + 200 ≤ 7293034)
    (hN : ∀ cn sn ws, N cn sn ws → Ev K G 7 cn sn 1741 [some (.ref b), some (.ref x), some (.ref m), some (.ref o), some (.int i), none, none] [] ws) (h : L_6 G L xs x m o i cn sn ws N) : Ev K G 7 cn sn 501 [some (.ref b), some (.ref x), some (.ref m), some (.ref o), some (.int i), none, none] [] ws := by
  replace h := h (fun cn sn ws => (cn + 16 ≤ 601024 ∧ sn + 160 ≤ 7293034) → Ev K G 7 cn sn 578 [some (.ref b), some (.ref x), some (.ref m), some (.ref o), some (.int i), none, none] [] ws)
  replace h := h (by
    intro cn sn ws h hb9
    obtain ⟨hcn9, hsn9⟩ := hb9
    show Ev K G 7 cn sn 578 [some (.ref b), some (.ref x), some (.ref m), some (.ref o), some (.int i), none, none] [] ws
    refine e_goto C (tg := 1741) dL_law__578 (by decide) ?_
    exact hN _ _ _ h)
  refine e_aload_n C (x := x) rfl dL_law__501 (pc' := 502) rfl ?_
  refine e_aload_n C (x := b) rfl dL_law__502 (pc' := 503) rfl ?_
  refine e_iload C (x := i) rfl dL_law__503 (pc' := 505) rfl ?_
  refine e_iconst C (v := (1 : Int32)) (by decide) dL_law__505 (pc' := 506) rfl ?_
  refine e_iadd C dL_law__506 (pc' := 507) rfl ?_
  refine f_sld C hX dL_law__507 (pc' := 508) rfl h (fun v1 h => ?_)
  refine e_aload_n C (x := b) rfl dL_law__508 (pc' := 509) rfl ?_
  refine e_iload C (x := i) rfl dL_law__509 (pc' := 511) rfl ?_
  refine e_iconst C (v := (2 : Int32)) (by decide) dL_law__511 (pc' := 512) rfl ?_
  refine e_iadd C dL_law__512 (pc' := 513) rfl ?_
  refine f_sld C hX dL_law__513 (pc' := 514) rfl h (fun v2 h => ?_)
  refine e_aload_n C (x := b) rfl dL_law__514 (pc' := 515) rfl ?_
  refine e_iload C (x := i) rfl dL_law__515 (pc' := 517) rfl ?_
  refine e_iconst C (v := (3 : Int32)) (by decide) dL_law__517 (pc' := 518) rfl ?_
  refine e_iadd C dL_law__518 (pc' := 519) rfl ?_
  refine f_sld C hX dL_law__519 (pc' := 520) rfl h (fun v3 h => ?_)
  refine e_aload_n C (x := o) rfl dL_law__520 (pc' := 521) rfl ?_
  refine e_calli (run_SW (n := 5) C (m_L_dig hst h) gL_law__L_dig rfl ⟨by decide, by decide, by decide +kernel⟩ ⟨by decide, by decide⟩ rfl (Nat.le_of_ble_eq_true rfl) dL_law__521 ⟨(by show cn + 3 ≤ 601024; omega), (by show sn + 18 ≤ 7293034; omega)⟩ (As := [.ref x, .int v1, .int v2, .int v3, .ref o]) rfl) (pc' := 524) rfl (cn' := cn + 3) (sn' := sn + 18) rfl rfl (fun v4 ws h => ?_)
  refine e_istore C (by decide) dL_law__524 (pc' := 526) rfl (lv' := [some (.ref b), some (.ref x), some (.ref m), some (.ref o), some (.int i), some (.int v4), none]) rfl ?_
  refine e_aload_n C (x := m) rfl dL_law__526 (pc' := 527) rfl ?_
  refine e_aload_n C (x := b) rfl dL_law__527 (pc' := 528) rfl ?_
  refine e_iload C (x := i) rfl dL_law__528 (pc' := 530) rfl ?_
  refine e_iconst C (v := (1 : Int32)) (by decide) dL_law__530 (pc' := 531) rfl ?_
  refine e_iadd C dL_law__531 (pc' := 532) rfl ?_
  refine f_sld C hX dL_law__532 (pc' := 533) rfl h (fun v5 h => ?_)
  refine e_aload_n C (x := b) rfl dL_law__533 (pc' := 534) rfl ?_
  refine e_iload C (x := i) rfl dL_law__534 (pc' := 536) rfl ?_
  refine e_iconst C (v := (2 : Int32)) (by decide) dL_law__536 (pc' := 537) rfl ?_
  refine e_iadd C dL_law__537 (pc' := 538) rfl ?_
  refine f_sld C hX dL_law__538 (pc' := 539) rfl h (fun v6 h => ?_)
  refine e_aload_n C (x := b) rfl dL_law__539 (pc' := 540) rfl ?_
  refine e_iload C (x := i) rfl dL_law__540 (pc' := 542) rfl ?_
  refine e_iconst C (v := (3 : Int32)) (by decide) dL_law__542 (pc' := 543) rfl ?_
  refine e_iadd C dL_law__543 (pc' := 544) rfl ?_
  refine f_sld C hX dL_law__544 (pc' := 545) rfl h (fun v7 h => ?_)
  obtain ⟨hv, h⟩ := h
  refine e_calli (run_V (n := 3) C (m_X7_dig hst h) gL_law__X7_dig rfl ⟨rfl, by decide, by decide, by decide +kernel⟩ ⟨by decide, by decide⟩ (ci := 7) rfl rfl hv rfl (Nat.le_of_ble_eq_true rfl) dL_law__545 ⟨(by show cn + 3 ≤ 601024; omega), (by show sn + 18 ≤ 7293034; omega)⟩ (As := [.int v5, .int v6, .int v7]) rfl) (pc' := 548) rfl (cn' := cn + 3) (sn' := sn + 18) rfl rfl (fun v8 ws h => ?_)
  refine e_istore C (by decide) dL_law__548 (pc' := 550) rfl (lv' := [some (.ref b), some (.ref x), some (.ref m), some (.ref o), some (.int i), some (.int v4), some (.int v8)]) rfl ?_
  refine e_aload_n C (x := m) rfl dL_law__550 (pc' := 551) rfl ?_
  obtain ⟨hv, h⟩ := h
  refine e_calli (run_V (n := 0) C (m_X7_thrown hst h) gL_law__X7_thrown rfl ⟨rfl, by decide, by decide, by decide +kernel⟩ ⟨by decide, by decide⟩ (ci := 7) rfl rfl hv rfl (Nat.le_of_ble_eq_true rfl) dL_law__551 ⟨(by show cn + 3 ≤ 601024; omega), (by show sn + 18 ≤ 7293034; omega)⟩ (As := []) rfl) (pc' := 554) rfl (cn' := cn + 3) (sn' := sn + 18) rfl rfl (fun v9 ws h => ?_)
  refine e_iload C (x := v4) rfl dL_law__554 (pc' := 556) rfl ?_
  refine e_icmp_eq C (tg := 561) dL_law__556 (by decide) (pc' := 559) rfl (fun hc => ?_) (fun hc => ?_)
  · replace h := h.1 hc
    refine e_iload C (x := v4) rfl dL_law__561 (pc' := 563) rfl ?_
    refine e_if_ne C (tg := 578) dL_law__563 (by decide) (pc' := 566) rfl (fun hc => ?_) (fun hc => ?_)
    · replace h := h.1 hc
      refine e_mask [true, true, true, true, true, false, false] (lv' := [some (.ref b), some (.ref x), some (.ref m), some (.ref o), some (.int i), none, none]) rfl ?_
      exact h ⟨by omega, by omega⟩
    · replace h := h.2 hc
      refine e_aload_n C (x := o) rfl dL_law__566 (pc' := 567) rfl ?_
      refine e_iconst C (v := (0 : Int32)) (by decide) dL_law__567 (pc' := 568) rfl ?_
      refine f_laload C dL_law__568 (pc' := 569) rfl h (fun v10 h => ?_)
      refine e_iload C (x := v8) rfl dL_law__569 (pc' := 571) rfl ?_
      refine e_i2l C dL_law__571 (pc' := 572) rfl ?_
      refine e_lcmp C dL_law__572 (pc' := 573) rfl ?_
      refine e_if_eq C (tg := 578) dL_law__573 (by decide) (pc' := 576) rfl (fun hc => ?_) (fun hc => ?_)
      · replace h := h.1 hc
        refine e_mask [true, true, true, true, true, false, false] (lv' := [some (.ref b), some (.ref x), some (.ref m), some (.ref o), some (.int i), none, none]) rfl ?_
        exact h ⟨by omega, by omega⟩
      · replace h := h.2 hc
        refine e_iconst C (v := (0 : Int32)) (by decide) dL_law__576 (pc' := 577) rfl ?_
        exact h.elim
  · replace h := h.2 hc
    refine e_iconst C (v := (0 : Int32)) (by decide) dL_law__559 (pc' := 560) rfl ?_
    exact h.elim
