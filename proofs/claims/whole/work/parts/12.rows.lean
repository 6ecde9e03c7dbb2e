section ROWS
variable {K : Kx} {G : Gx} {cc : ByteArray} {nL cn sn pc pc' : Nat} {own : String} {ret : Option FieldType} {Ts : List Cond} {rm : Room} {lv lv' : List (Option Value)} {st : List Value} {ws : va_W}
variable {a ci ix N : Nat} {CN : String} {TT : u_T}
theorem f_getI (C : Cx K G cc nL own ret Ts rm) {T : Int32 → Prop} (j : Nat) (d : decode cc pc = .ok (.getfield ix, 3)) (hn : pc + 3 = pc') (hin : ∀ w ∈ u_ws CN TT N, w ∈ Ts) (hc : vwCl[ci]? = some (CN, TT, N)) (hj : j < N) (hlk : Cond.fieldLink own ix (TT j).1 (TT j).2.1 (TT j).2.2.1 ∈ Ts) (h : qI ci j a ws T) (kk : ∀ v, T v → Ev K G nL cn sn pc' lv (.int v :: st) ws) : Ev K G nL cn sn pc lv (.ref a :: st) ws := by
  obtain ⟨k, fs, v, hk, hv, hT⟩ := h
  exact e_getI C j d hn hin hc hj hlk (ref := CN) hk hv (kk v hT)
theorem f_getR (C : Cx K G cc nL own ret Ts rm) {T : Nat → Prop} (j : Nat) (d : decode cc pc = .ok (.getfield ix, 3)) (hn : pc + 3 = pc') (hin : ∀ w ∈ u_ws CN TT N, w ∈ Ts) (hc : vwCl[ci]? = some (CN, TT, N)) (hj : j < N) (hlk : Cond.fieldLink own ix (TT j).1 (TT j).2.1 (TT j).2.2.1 ∈ Ts) (h : qR ci j a ws T) (kk : ∀ v, T v → Ev K G nL cn sn pc' lv (.ref v :: st) ws) : Ev K G nL cn sn pc lv (.ref a :: st) ws := by
  obtain ⟨k, fs, v, hk, hv, hT⟩ := h
  exact e_getI C j d hn hin hc hj hlk (ref := CN) hk hv (kk v hT)
theorem f_putI (C : Cx K G cc nL own ret Ts rm) {v : Int32} {T : va_W → Prop} (j : Nat) (ty0 : Nat → FieldType) (d : decode cc pc = .ok (.putfield ix, 3)) (hn : pc + 3 = pc') (hin : ∀ w ∈ u_ws CN TT N, w ∈ Ts) (hty : ∀ k, k < N → parseFieldDescriptor (TT k).2.2.1 = some (ty0 k)) (hnm : ∀ a, a < N → ∀ b, b < N → a ≠ b → (TT a).2.1 ≠ (TT b).2.1) (hc : vwCl[ci]? = some (CN, TT, N)) (hj : j < N) (hlk : Cond.fieldLink own ix (TT j).1 (TT j).2.1 (TT j).2.2.1 ∈ Ts) (hfin : (TT j).2.2.2 = false) (hd : parseFieldDescriptor (TT j).2.2.1 = some .int)
    (h : qP ci j a (.int v) ws T) (kk : ∀ ws', T ws' → Ev K G nL cn sn pc' lv st ws') : Ev K G nL cn sn pc lv (.int v :: .ref a :: st) ws := by
  obtain ⟨k, fs, hk, hl, hT⟩ := h
  exact e_put C (ty := .int) j ty0 d hn hin hty hnm hc hj hlk hfin hd rfl rfl hk hl (kk _ hT)
theorem f_iaload (C : Cx K G cc nL own ret Ts rm) {i : Int32} {T : Int32 → Prop} (d : decode cc pc = .ok (.iaload, 1)) (hn : pc + 1 = pc') (h : qA (gc G 1) a i ws T) (kk : ∀ v, T v → Ev K G nL cn sn pc' lv (.int v :: st) ws) : Ev K G nL cn sn pc lv (.int i :: .ref a :: st) ws := by
  obtain ⟨k, n, f, hk, hi, hT⟩ := h
  exact e_iaload C d hn hk hi (kk _ hT)
theorem f_baload (C : Cx K G cc nL own ret Ts rm) {i : Int32} {T : Int32 → Prop} (d : decode cc pc = .ok (.baload, 1)) (hn : pc + 1 = pc') (h : qA (gc G 0) a i ws T) (kk : ∀ v, T v → Ev K G nL cn sn pc' lv (.int v :: st) ws) : Ev K G nL cn sn pc lv (.int i :: .ref a :: st) ws := by
  obtain ⟨k, n, f, hk, hi, hT⟩ := h
  exact e_baload C d hn hk hi (kk _ hT)
theorem f_zaload (C : Cx K G cc nL own ret Ts rm) {i : Int32} {T : Int32 → Prop} (d : decode cc pc = .ok (.baload, 1)) (hn : pc + 1 = pc') (h : qA (gc G 2) a i ws T) (kk : ∀ v, T v → Ev K G nL cn sn pc' lv (.int v :: st) ws) : Ev K G nL cn sn pc lv (.int i :: .ref a :: st) ws := by
  obtain ⟨k, n, f, hk, hi, hT⟩ := h
  exact e_zaload C d hn hk hi (kk _ hT)
theorem f_iastore (C : Cx K G cc nL own ret Ts rm) {i x : Int32} {T : va_W → Prop} (d : decode cc pc = .ok (.iastore, 1)) (hn : pc + 1 = pc') (h : qS (gc G 1) a i x ws T) (kk : ∀ ws', T ws' → Ev K G nL cn sn pc' lv st ws') : Ev K G nL cn sn pc lv (.int x :: .int i :: .ref a :: st) ws := by
  obtain ⟨k, n, f, hk, hi, hT⟩ := h
  exact e_iastore C d hn hk hi (kk _ hT)
theorem f_bastore (C : Cx K G cc nL own ret Ts rm) {i x : Int32} {T : va_W → Prop} (d : decode cc pc = .ok (.bastore, 1)) (hn : pc + 1 = pc') (h : qS (gc G 0) a i (vp_nar .byte x) ws T) (kk : ∀ ws', T ws' → Ev K G nL cn sn pc' lv st ws') : Ev K G nL cn sn pc lv (.int x :: .int i :: .ref a :: st) ws := by
  obtain ⟨k, n, f, hk, hi, hT⟩ := h
  exact e_bastore C d hn hk hi (kk _ hT)
theorem f_zastore (C : Cx K G cc nL own ret Ts rm) {i x : Int32} {T : va_W → Prop} (d : decode cc pc = .ok (.bastore, 1)) (hn : pc + 1 = pc') (h : qS (gc G 2) a i (vp_nar .boolean x) ws T) (kk : ∀ ws', T ws' → Ev K G nL cn sn pc' lv st ws') : Ev K G nL cn sn pc lv (.int x :: .int i :: .ref a :: st) ws := by
  obtain ⟨k, n, f, hk, hi, hT⟩ := h
  exact e_zastore C d hn hk hi (kk _ hT)
theorem f_aaloadC (C : Cx K G cc nL own ret Ts rm) {i : Int32} {T : Nat → Prop} (d : decode cc pc = .ok (.aaload, 1)) (hn : pc + 1 = pc') (h : qQ (gc G 3) a i ws T) (kk : ∀ v, T v → Ev K G nL cn sn pc' lv (.ref v :: st) ws) : Ev K G nL cn sn pc lv (.int i :: .ref a :: st) ws := by
  obtain ⟨k, n, f, v, hk, hi, hv, hT⟩ := h
  exact e_aaloadC C d hn hk hi hv (kk _ hT)
theorem f_aaloadS (C : Cx K G cc nL own ret Ts rm) {i : Int32} {T : Nat → Prop} (d : decode cc pc = .ok (.aaload, 1)) (hn : pc + 1 = pc') (h : qQ (gc G 4) a i ws T) (kk : ∀ v, T v → Ev K G nL cn sn pc' lv (.ref v :: st) ws) : Ev K G nL cn sn pc lv (.int i :: .ref a :: st) ws := by
  obtain ⟨k, n, f, v, hk, hi, hv, hT⟩ := h
  exact e_aaloadS C d hn hk hi hv (kk _ hT)
/-- a place is forgotten -/
def lmask : List (Option Value) → List Bool → List (Option Value)
  | o :: t, b :: u => (if b then o else none) :: lmask t u
  | _, _ => []
theorem lmask_at : ∀ (lv : List (Option Value)) (m : List Bool) (i : Nat) (v : Value), (lmask lv m)[i]? = some (some v) → lv[i]? = some (some v) := by
  intro lv
  induction lv with
  | nil => intro m i v h; simp [lmask] at h
  | cons o t ih =>
    intro m i v h
    cases m with
    | nil => simp [lmask] at h
    | cons b u =>
      cases i with
      | zero => cases b <;> simp [lmask] at h ⊢; exact h
      | succ i => simp [lmask] at h ⊢; exact ih u i v h
theorem e_mask (m : List Bool) (hm : lmask lv m = lv') (k : Ev K G nL cn sn pc lv' st ws) : Ev K G nL cn sn pc lv st ws := by
  obtain ⟨p, e, R, s, m9, args, below, meth, c, Qf⟩ := K
  intro H ls locs hl hP hD hS
  subst hm
  exact k H ls locs ⟨hl.1, hl.2.1, fun i v h => hl.2.2 i v (lmask_at lv m i v h)⟩ hP hD hS
theorem e_widen {cn' sn' : Nat} (h1 : cn ≤ cn') (h2 : sn ≤ sn') (k : Ev K G nL cn' sn' pc lv st ws) : Ev K G nL cn sn pc lv st ws := by
  obtain ⟨p, e, R, s, m9, args, below, meth, c, Qf⟩ := K
  intro H ls locs hl hP hD hS
  exact W.widen h1 h2 (k H ls locs hl hP hD hS)
theorem e_mmax (C : Cx K G cc nL own ret Ts rm) {x y : Int32} (d : decode cc pc = .ok (.invokestatic ix, 3)) (hn : pc + 3 = pc') (h1 : Cond.methodLink own ix Lib.Math.max.name ∈ Ts) (h2 : Cond.static Lib.Math.max.name ∈ Ts) (h3 : Cond.initialized "java/lang/Math" ∈ Ts) (h4 : Cond.code Lib.Math.max.name Lib.Math.max.code 2 (some .int) ∈ Ts) (hf : 1 ≤ rm.frames) (hlo : (st.map fun v => v.category).sum + 13 ≤ rm.locals) (hc1 : cn ≤ rm.cells) (hc2 : sn ≤ rm.slots) (k : Ev K G nL cn sn pc' lv (.int (if x < y then y else x) :: st) ws) : Ev K G nL cn sn pc lv (.int y :: .int x :: st) ws := by
  obtain ⟨p, e, R, s, m, args, below, meth, c, Q⟩ := K
  intro H ls locs hl hP hD hS
  obtain ⟨hx, hb, hml, hown, hts, hr, hlk, hK, hbs, hO, hxt, hR, hst⟩ := C
  subst hn; subst hR
  exact va_mmax hx hb (by rw [hml, hl.1]) hown (hts _ h1) (hts _ h2) (hts _ h3) (hts _ h4) hf hlo hc1 hc2 d (k H ls locs hl hP hD hS)
theorem e_mmin (C : Cx K G cc nL own ret Ts rm) {x y : Int32} (d : decode cc pc = .ok (.invokestatic ix, 3)) (hn : pc + 3 = pc') (h1 : Cond.methodLink own ix Lib.Math.min.name ∈ Ts) (h2 : Cond.static Lib.Math.min.name ∈ Ts) (h3 : Cond.initialized "java/lang/Math" ∈ Ts) (h4 : Cond.code Lib.Math.min.name Lib.Math.min.code 2 (some .int) ∈ Ts) (hf : 1 ≤ rm.frames) (hlo : (st.map fun v => v.category).sum + 13 ≤ rm.locals) (hc1 : cn ≤ rm.cells) (hc2 : sn ≤ rm.slots) (k : Ev K G nL cn sn pc' lv (.int (if y < x then y else x) :: st) ws) : Ev K G nL cn sn pc lv (.int y :: .int x :: st) ws := by
  obtain ⟨p, e, R, s, m, args, below, meth, c, Q⟩ := K
  intro H ls locs hl hP hD hS
  obtain ⟨hx, hb, hml, hown, hts, hr, hlk, hK, hbs, hO, hxt, hR, hst⟩ := C
  subst hn; subst hR
  exact va_mmin hx hb (by rw [hml, hl.1]) hown (hts _ h1) (hts _ h2) (hts _ h3) (hts _ h4) hf hlo hc1 hc2 d (k H ls locs hl hP hD hS)
theorem e_mabs (C : Cx K G cc nL own ret Ts rm) {x : Int32} (d : decode cc pc = .ok (.invokestatic ix, 3)) (hn : pc + 3 = pc') (h1 : Cond.methodLink own ix Lib.Math.abs.name ∈ Ts) (h2 : Cond.static Lib.Math.abs.name ∈ Ts) (h3 : Cond.initialized "java/lang/Math" ∈ Ts) (h4 : Cond.code Lib.Math.abs.name Lib.Math.abs.code 1 (some .int) ∈ Ts) (hf : 1 ≤ rm.frames) (hlo : (st.map fun v => v.category).sum + 13 ≤ rm.locals) (hc1 : cn ≤ rm.cells) (hc2 : sn ≤ rm.slots) (k : Ev K G nL cn sn pc' lv (.int (if 0 ≤ x then x else 0 - x) :: st) ws) : Ev K G nL cn sn pc lv (.int x :: st) ws := by
  obtain ⟨p, e, R, s, m, args, below, meth, c, Q⟩ := K
  intro H ls locs hl hP hD hS
  obtain ⟨hx, hb, hml, hown, hts, hr, hlk, hK, hbs, hO, hxt, hR, hst⟩ := C
  subst hn; subst hR
  exact va_mabs hx hb (by rw [hml, hl.1]) hown (hts _ h1) (hts _ h2) (hts _ h3) (hts _ h4) hf hlo hc1 hc2 d (k H ls locs hl hP hD hS)
/-- a switch: outside, or at one of its numbers -/
theorem sw_cases (x : Int32) (hi : Nat) : (x.toInt < 0 ∨ (hi : Int) < x.toInt) ∨ ∃ q : Nat, q ≤ hi ∧ x = Int32.ofNat q := by
  by_cases h1 : x.toInt < 0
  · exact Or.inl (Or.inl h1)
  · by_cases h2 : (hi : Int) < x.toInt
    · exact Or.inl (Or.inr h2)
    · right
      obtain ⟨j, hj, e⟩ := nI_of (x := x) (by rw [Int32.lt_iff_toInt_lt]; simpa using h1)
      refine ⟨j, ?_, e⟩
      have : x.toInt = (j : Int) := by rw [e]; exact nI_toInt hj
      omega
/-- a piece of a row of ints is copied into another one -/
def qC (cA : ClassId) (sb : Nat) (sp : Int32) (db : Nat) (dp n : Int32) (ws : va_W) (T : va_W → Prop) : Prop := ∃ (k0 k1 n0 n1 : Nat) (f g : Nat → Int32), ws[k0]? = some (sb, .inl (cA, n0, .inl f)) ∧ ws[k1]? = some (db, .inl (cA, n1, .inl g)) ∧ ¬ sp < 0 ∧ ¬ dp < 0 ∧ ¬ n < 0 ∧ sp.toNatClampNeg + n.toNatClampNeg ≤ n0 ∧ dp.toNatClampNeg + n.toNatClampNeg ≤ n1 ∧ T (ws.set k1 (db, .inl (cA, n1, .inl (va_cpy f g sp.toNatClampNeg dp.toNatClampNeg n.toNatClampNeg))))
theorem f_copy (C : Cx K G cc nL own ret Ts rm) {sb db : Nat} {sp dp n : Int32} {T : va_W → Prop} (d : decode cc pc = .ok (.invokestatic ix, 3)) (hn : pc + 3 = pc') (h1 : Cond.methodLink own ix arraycopyName ∈ Ts) (h2 : Cond.native arraycopyName ∈ Ts) (h3 : Cond.static arraycopyName ∈ Ts) (h4 : Cond.initialized "java/lang/System" ∈ Ts) (hf : 1 ≤ rm.frames) (hlo : (st.map fun v => v.category).sum + (nativeFrameWords "java/lang/System" "arraycopy" 5 + 11) ≤ rm.locals) (h : qC (gc G 1) sb sp db dp n ws T) (kk : ∀ ws', T ws' → Ev K G nL cn sn pc' lv st ws') : Ev K G nL cn sn pc lv (.int n :: .int dp :: .ref db :: .int sp :: .ref sb :: st) ws := by
  obtain ⟨k0, k1, n0, n1, f, g, g0, g1, g2, g3, g4, g5, g6, hT⟩ := h
  have kk := kk _ hT
  obtain ⟨p, e, R, s, m, args, below, meth, c, Q⟩ := K
  intro H ls locs hl hP hD hS
  obtain ⟨hx, hb, hml, hown, hts, hr, hlk, hK, hbs, hO, hxt, hR, hst⟩ := C
  subst hn; subst hR
  exact va_copyi hx hb (by rw [hml, hl.1]) hown (hts _ h1) (hts _ h2) (hts _ h3) (hts _ h4) hK hP hD hS k0 k1 1 1 (ty := .int) g0 g1 rfl rfl rfl g2 g3 g4 g5 g6 (fun _ _ => rfl) hf hlo d (fun H1 locs1 hP1 hD1 hS1 => kk H1 ls locs1 hl hP1 hD1 hS1)
theorem e_ldcS3 (C : Cx K G cc nL RX3 ret Ts rm) (i : Nat) (hi : i < 6) (d : decode cc pc = .ok (.ldc (wX3.getD i 0), 2)) (hn : pc + 2 = pc') (k : Ev K G nL cn sn pc' lv (.ref (gk G i) :: st) ws) : Ev K G nL cn sn pc lv st ws := by
  obtain ⟨p, e, R, s, m, args, below, meth, c, Q⟩ := K
  intro H ls locs hl hP hD hS
  obtain ⟨hx, hb, hml, hown, hts, hr, hlk, hK, hbs, hO, hxt, hR, hst⟩ := C
  subst hn
  exact va_ldcS hx hb hown (hO.2.2.2.2.1 i hi).1 d (k H ls locs hl hP hD hS)
theorem e_ldcS7 (C : Cx K G cc nL RX7 ret Ts rm) (i : Nat) (hi : i < 6) (d : decode cc pc = .ok (.ldc (wX7.getD i 0), 2)) (hn : pc + 2 = pc') (k : Ev K G nL cn sn pc' lv (.ref (gk G i) :: st) ws) : Ev K G nL cn sn pc lv st ws := by
  obtain ⟨p, e, R, s, m, args, below, meth, c, Q⟩ := K
  intro H ls locs hl hP hD hS
  obtain ⟨hx, hb, hml, hown, hts, hr, hlk, hK, hbs, hO, hxt, hR, hst⟩ := C
  subst hn
  exact va_ldcS hx hb hown (hO.2.2.2.2.1 i hi).2 d (k H ls locs hl hP hD hS)
end ROWS
