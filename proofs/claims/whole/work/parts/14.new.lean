/-! ===== what is made: objects, rows; constructors ===== -/
/-- the walked method is a constructor -/
def Ini (K : Kx) : Prop := match K with
  | (_, _, _, _, _, _, _, meth, _, _) => meth.name = "<init>"
section BODYI
variable {G : Gx} {y : MethodName} {wy wy' : List Cond} {cc : ByteArray} {nL : Nat} {own : String} {rm : Room} {as : List Value} {lv0 : List (Option Value)} {ws : va_W} {ret : Option FieldType} {Qc : Array Value → State → Outcome → State → Prop}
theorem mk_Mi (hst : (gl G).stackTraces = false) (hy : plainName y.cls = true) (hw : wy = Cond.code y cc nL ret :: wy') (ho : y.cls = own) (hni : y.name = "<init>") (hlen : (lg_sl as).length ≤ nL) (h0 : inlv nL as = lv0)
    (body : ∀ K, Cx K G cc nL own ret wy rm → Fin K G rm Qc → Ini K → Ev K G nL 0 0 0 lv0 [] ws) : Mt G y wy rm as ws Qc := by
  refine Met.ofW (cc := cc) (maxL := nL) (ret := ret) hy hw ?_
  intro p e s m args below meth c s₁ B hml hv
  obtain ⟨rfl, hbs, hP, hK, hD, hO⟩ := hv
  have hts := atoms_spec (ws := wy) B.pre
  have hown : s.vm.findClass own = some m.cls := by rw [← ho]; exact findClass_of_methodNamed B.named
  have key := body (p, e, (headSpec wy rm).room, s, m, as.toArray, below, meth, c, MQ below Qc as.toArray s rm.cells rm.slots (bA (gb G))) ⟨B.exec, B.bytes, hml, hown, hts, B.returns, B.notSynchronized, hK, hbs, hO, trivial, rfl, hst⟩ rfl (by show meth.name = "<init>"; rw [← hni]; exact (name_of_methodNamed B.named B.method).1)
  subst h0
  rw [lg_entry_eq]
  exact key s.heap _ [] (LH.entry hlen) hP hD va_S.rf
end BODYI
def qNO (ci : Nat) (fs : List Value) (ws : va_W) (T : Nat → va_W → Prop) : Prop := ∀ q, T q (ws ++ [(q, .inr (ci, fs))])
def qNA (cA : ClassId) (n : Nat) (ws : va_W) (T : Nat → va_W → Prop) : Prop := ∀ q, T q (ws ++ [(q, .inl (cA, n, .inl (fun _ => 0)))])
def qNL (cA : ClassId) (n : Nat) (ws : va_W) (T : Nat → va_W → Prop) : Prop := ∀ q, T q (ws ++ [(q, .inl (cA, n, .inr (.inl (fun _ => 0))))])
def qNR (cA : ClassId) (n : Nat) (ws : va_W) (T : Nat → va_W → Prop) : Prop := ∀ q, T q (ws ++ [(q, .inl (cA, n, .inr (.inr (.inr (.inr (fun _ => none))))))])
def qW (cA : ClassId) (ci a : Nat) (i : Int32) (v : Nat) (ws : va_W) (T : va_W → Prop) : Prop := ∃ (k n : Nat) (f : Nat → Option Nat) (k2 : Nat) (vs : List Value), ws[k]? = some (a, .inl (cA, n, .inr (.inr (.inr (.inr f))))) ∧ vp_in i n ∧ ws[k2]? = some (v, .inr (ci, vs)) ∧ T (ws.set k (a, .inl (cA, n, .inr (.inr (.inr (.inr (va_up f i.toNatClampNeg (some v))))))))
section NEW
variable {K : Kx} {G : Gx} {cc : ByteArray} {nL cn sn pc pc' cn' sn' : Nat} {own : String} {ret : Option FieldType} {Ts : List Cond} {rm : Room} {lv lv' : List (Option Value)} {st : List Value} {ws : va_W} {a ci ix N : Nat} {CN : String} {TT : u_T}
theorem e_objInit (C : Cx K G cc nL own ret Ts rm) (d : decode cc pc = .ok (.invokespecial ix, 3)) (hn : pc + 3 = pc') (h1 : Cond.methodLink own ix Lib.objectInit ∈ Ts) (h2 : Cond.instanceMethod Lib.objectInit ∈ Ts) (h3 : Cond.code Lib.objectInit ⟨#[0xb1]⟩ 1 none ∈ Ts) (hf : 1 ≤ rm.frames) (hlo : 12 ≤ rm.locals) (k : Ev K G nL cn sn pc' lv [] ws) : Ev K G nL cn sn pc lv [.ref a] ws := by
  obtain ⟨p, e, R, s, m, args, below, meth, c, Q⟩ := K
  intro H ls locs hl hP hD hS
  obtain ⟨hx, hb, hml, hown, hts, hr, hlk9, hK, hbs, hO, hxt, hR, hst⟩ := C
  subst hn; subst hR
  exact W.objInit hx hb hown (hts _ h1) (hts _ h2) (hts _ h3) rfl (by rw [hml]; exact hl.1) rfl d hf hlo (k H ls locs hl hP hD hS)
theorem f_newO (C : Cx K G cc nL own ret Ts rm) {fs : List Value} {T : Nat → va_W → Prop} (ty : Nat → FieldType) (d : decode cc pc = .ok (.new ix, 3)) (hn : pc + 3 = pc') (hin : ∀ w ∈ u_ws CN TT N, w ∈ Ts) (hty : ∀ k, k < N → parseFieldDescriptor (TT k).2.2.1 = some (ty k)) (h1 : Cond.classLink own ix CN ∈ Ts) (h2 : Cond.instantiable CN N ∈ Ts) (h3 : Cond.initialized CN ∈ Ts) (hc : vwCl[ci]? = some (CN, TT, N)) (hfs : ∀ j, j < N → defaultValue (ty j) = vp_V fs j)
    (hc1 : cn + 1 ≤ rm.cells) (hc2 : sn + N ≤ rm.slots) (e1 : cn + 1 = cn') (e2 : sn + N = sn') (h : qNO ci fs ws T) (kk : ∀ q ws', T q ws' → Ev K G nL cn' sn' pc' lv (.ref q :: st) ws') : Ev K G nL cn sn pc lv st ws := by
  obtain ⟨p, e, R, s, m, args, below, meth, c, Q⟩ := K
  intro H ls locs hl hP hD hS
  obtain ⟨hx, hb, hml, hown, hts, hr, hlk9, hK, hbs, hO, hxt, hR, hst⟩ := C
  subst hn; subst hR; subst e1; subst e2
  exact va_new (D := gD G) (ci := ci) (fs := fs) (C := CN) (T := TT) (N := N) hx hb hts hin ty hty hown (hts _ h1) (hts _ h2) (hts _ h3) hK hP hD hS (fun q hq => Nat.le_trans hbs hq) hc hfs hc1 hc2 d (fun q H1 hP1 hD1 hS1 => kk q _ (h q) H1 ls locs hl hP1 hD1 hS1)
theorem f_newI (C : Cx K G cc nL own ret Ts rm) {n : Int32} {T : Nat → va_W → Prop} (d : decode cc pc = .ok (.newarray .int, 2)) (hn : pc + 2 = pc') (h1 : Cond.arrayClass .int ∈ Ts) (h2 : ¬ n < 0) (hN : n.toNatClampNeg = N) (hby : N * 4 ≤ 536870912)
    (hc1 : cn + 1 ≤ rm.cells) (hc2 : sn + N ≤ rm.slots) (e1 : cn + 1 = cn') (e2 : sn + N = sn') (h : qNA (gc G 1) N ws T) (kk : ∀ q ws', T q ws' → Ev K G nL cn' sn' pc' lv (.ref q :: st) ws') : Ev K G nL cn sn pc lv (.int n :: st) ws := by
  obtain ⟨p, e, R, s, m, args, below, meth, c, Q⟩ := K
  intro H ls locs hl hP hD hS
  obtain ⟨hx, hb, hml, hown, hts, hr, hlk9, hK, hbs, hO, hxt, hR, hst⟩ := C
  subst hn; subst hR; subst e1; subst e2
  refine va_newa (atype := .int) (a0 := (N, .inl (fun _ => 0))) hx hb (hts _ h1) (ty := .int) rfl hK hP hD hS (fun q hq => Nat.le_trans hbs hq) (fun _ => rfl) h2 hN hby hc1 hc2 d (fun q cA H1 hK1 hP1 hD1 hS1 => ?_)
  have e9 : gc G 1 = cA := Option.some.inj (((hK.2 1 _ rfl).2 : s.vm.findClass _ = some _).symm.trans ((hK1.2 6 _ rfl).2 : s.vm.findClass _ = some _))
  subst e9
  exact kk q _ (h q) H1 ls locs hl hP1 hD1 hS1
theorem f_newZ (C : Cx K G cc nL own ret Ts rm) {n : Int32} {T : Nat → va_W → Prop} (d : decode cc pc = .ok (.newarray .boolean, 2)) (hn : pc + 2 = pc') (h1 : Cond.arrayClass .boolean ∈ Ts) (h2 : ¬ n < 0) (hN : n.toNatClampNeg = N) (hby : N * 1 ≤ 536870912)
    (hc1 : cn + 1 ≤ rm.cells) (hc2 : sn + N ≤ rm.slots) (e1 : cn + 1 = cn') (e2 : sn + N = sn') (h : qNA (gc G 2) N ws T) (kk : ∀ q ws', T q ws' → Ev K G nL cn' sn' pc' lv (.ref q :: st) ws') : Ev K G nL cn sn pc lv (.int n :: st) ws := by
  obtain ⟨p, e, R, s, m, args, below, meth, c, Q⟩ := K
  intro H ls locs hl hP hD hS
  obtain ⟨hx, hb, hml, hown, hts, hr, hlk9, hK, hbs, hO, hxt, hR, hst⟩ := C
  subst hn; subst hR; subst e1; subst e2
  refine va_newa (atype := .boolean) (a0 := (N, .inl (fun _ => 0))) hx hb (hts _ h1) (ty := .boolean) rfl hK hP hD hS (fun q hq => Nat.le_trans hbs hq) (fun _ => rfl) h2 hN hby hc1 hc2 d (fun q cA H1 hK1 hP1 hD1 hS1 => ?_)
  have e9 : gc G 2 = cA := Option.some.inj (((hK.2 2 _ rfl).2 : s.vm.findClass _ = some _).symm.trans ((hK1.2 6 _ rfl).2 : s.vm.findClass _ = some _))
  subst e9
  exact kk q _ (h q) H1 ls locs hl hP1 hD1 hS1
theorem f_newB (C : Cx K G cc nL own ret Ts rm) {n : Int32} {T : Nat → va_W → Prop} (d : decode cc pc = .ok (.newarray .byte, 2)) (hn : pc + 2 = pc') (h1 : Cond.arrayClass .byte ∈ Ts) (h2 : ¬ n < 0) (hN : n.toNatClampNeg = N) (hby : N * 1 ≤ 536870912)
    (hc1 : cn + 1 ≤ rm.cells) (hc2 : sn + N ≤ rm.slots) (e1 : cn + 1 = cn') (e2 : sn + N = sn') (h : qNA (gc G 0) N ws T) (kk : ∀ q ws', T q ws' → Ev K G nL cn' sn' pc' lv (.ref q :: st) ws') : Ev K G nL cn sn pc lv (.int n :: st) ws := by
  obtain ⟨p, e, R, s, m, args, below, meth, c, Q⟩ := K
  intro H ls locs hl hP hD hS
  obtain ⟨hx, hb, hml, hown, hts, hr, hlk9, hK, hbs, hO, hxt, hR, hst⟩ := C
  subst hn; subst hR; subst e1; subst e2
  refine va_newa (atype := .byte) (a0 := (N, .inl (fun _ => 0))) hx hb (hts _ h1) (ty := .byte) rfl hK hP hD hS (fun q hq => Nat.le_trans hbs hq) (fun _ => rfl) h2 hN hby hc1 hc2 d (fun q cA H1 hK1 hP1 hD1 hS1 => ?_)
  have e9 : gc G 0 = cA := Option.some.inj (((hK.2 0 _ rfl).2 : s.vm.findClass _ = some _).symm.trans ((hK1.2 6 _ rfl).2 : s.vm.findClass _ = some _))
  subst e9
  exact kk q _ (h q) H1 ls locs hl hP1 hD1 hS1
theorem f_newC (C : Cx K G cc nL own ret Ts rm) {n : Int32} {T : Nat → va_W → Prop} (d : decode cc pc = .ok (.anewarray ix, 3)) (hn : pc + 3 = pc') (h1 : Cond.classLink own ix RX0 ∈ Ts) (h2 : ¬ n < 0) (hN : n.toNatClampNeg = N) (hby : N * 4 ≤ 536870912)
    (hc1 : cn + 1 ≤ rm.cells) (hc2 : sn + N ≤ rm.slots) (e1 : cn + 1 = cn') (e2 : sn + N = sn') (h : qNR (gc G 3) N ws T) (kk : ∀ q ws', T q ws' → Ev K G nL cn' sn' pc' lv (.ref q :: st) ws') : Ev K G nL cn sn pc lv (.int n :: st) ws := by
  obtain ⟨p, e, R, s, m, args, below, meth, c, Q⟩ := K
  intro H ls locs hl hP hD hS
  obtain ⟨hx, hb, hml, hown, hts, hr, hlk9, hK, hbs, hO, hxt, hR, hst⟩ := C
  subst hn; subst hR; subst e1; subst e2
  refine va_newq hx hb hown (hts _ h1) hO.2.2.2.2.2.2.2.2.2.2.2.1 hK hP hD hS (fun q hq => Nat.le_trans hbs hq) h2 hN hby hc1 hc2 d (fun q cA H1 hK1 hP1 hD1 hS1 => ?_)
  obtain ⟨kA, comp, -, -, -, g1⟩ := (hK.2 3 _ rfl).2
  obtain ⟨kB, compB, -, -, -, g2⟩ := (hK1.2 6 _ rfl).2
  have e9 : gc G 3 = cA := Option.some.inj (g1.symm.trans g2)
  subst e9
  exact kk q _ (h q) H1 ls locs hl hP1 hD1 hS1
theorem f_newS (C : Cx K G cc nL own ret Ts rm) {n : Int32} {T : Nat → va_W → Prop} (d : decode cc pc = .ok (.anewarray ix, 3)) (hn : pc + 3 = pc') (h1 : Cond.classLink own ix RX4 ∈ Ts) (h2 : ¬ n < 0) (hN : n.toNatClampNeg = N) (hby : N * 4 ≤ 536870912)
    (hc1 : cn + 1 ≤ rm.cells) (hc2 : sn + N ≤ rm.slots) (e1 : cn + 1 = cn') (e2 : sn + N = sn') (h : qNR (gc G 4) N ws T) (kk : ∀ q ws', T q ws' → Ev K G nL cn' sn' pc' lv (.ref q :: st) ws') : Ev K G nL cn sn pc lv (.int n :: st) ws := by
  obtain ⟨p, e, R, s, m, args, below, meth, c, Q⟩ := K
  intro H ls locs hl hP hD hS
  obtain ⟨hx, hb, hml, hown, hts, hr, hlk9, hK, hbs, hO, hxt, hR, hst⟩ := C
  subst hn; subst hR; subst e1; subst e2
  refine va_newq hx hb hown (hts _ h1) hO.2.2.2.2.2.2.2.2.2.2.2.2 hK hP hD hS (fun q hq => Nat.le_trans hbs hq) h2 hN hby hc1 hc2 d (fun q cA H1 hK1 hP1 hD1 hS1 => ?_)
  obtain ⟨kA, comp, -, -, -, g1⟩ := (hK.2 4 _ rfl).2
  obtain ⟨kB, compB, -, -, -, g2⟩ := (hK1.2 6 _ rfl).2
  have e9 : gc G 4 = cA := Option.some.inj (g1.symm.trans g2)
  subst e9
  exact kk q _ (h q) H1 ls locs hl hP1 hD1 hS1
theorem f_aastC (C : Cx K G cc nL own ret Ts rm) {i : Int32} {v : Nat} {T : va_W → Prop} (d : decode cc pc = .ok (.aastore, 1)) (hn : pc + 1 = pc') (h : qW (gc G 3) 0 a i v ws T) (kk : ∀ ws', T ws' → Ev K G nL cn sn pc' lv st ws') : Ev K G nL cn sn pc lv (.ref v :: .int i :: .ref a :: st) ws := by
  obtain ⟨k, n, f, k2, vs, g1, g2, g3, hT⟩ := h
  have kk := kk _ hT
  obtain ⟨p, e, R, s, m, args, below, meth, c, Q⟩ := K
  intro H ls locs hl hP hD hS
  obtain ⟨hx, hb, hml, hown, hts, hr, hlk9, hK, hbs, hO, hxt, hR, hst⟩ := C
  subst hn
  exact va_astq hx hb hK hP hD hS k 3 k2 0 g1 (r := (RX0, TX0, 8)) rfl g3 rfl g2 d (fun H1 locs1 hP1 hD1 hS1 => kk H1 ls locs1 hl hP1 hD1 hS1)
theorem f_aastS (C : Cx K G cc nL own ret Ts rm) {i : Int32} {v : Nat} {T : va_W → Prop} (d : decode cc pc = .ok (.aastore, 1)) (hn : pc + 1 = pc') (h : qW (gc G 4) 4 a i v ws T) (kk : ∀ ws', T ws' → Ev K G nL cn sn pc' lv st ws') : Ev K G nL cn sn pc lv (.ref v :: .int i :: .ref a :: st) ws := by
  obtain ⟨k, n, f, k2, vs, g1, g2, g3, hT⟩ := h
  have kk := kk _ hT
  obtain ⟨p, e, R, s, m, args, below, meth, c, Q⟩ := K
  intro H ls locs hl hP hD hS
  obtain ⟨hx, hb, hml, hown, hts, hr, hlk9, hK, hbs, hO, hxt, hR, hst⟩ := C
  subst hn
  exact va_astq hx hb hK hP hD hS k 4 k2 4 g1 (r := (RX4, TX4, 7)) rfl g3 rfl g2 d (fun H1 locs1 hP1 hD1 hS1 => kk H1 ls locs1 hl hP1 hD1 hS1)
/-- a final field, in its constructor -/
theorem f_putF (C : Cx K G cc nL own ret Ts rm) (hI : Ini K) {v : Value} {ty : FieldType} {T : va_W → Prop} (j : Nat) (ty0 : Nat → FieldType) (d : decode cc pc = .ok (.putfield ix, 3)) (hn : pc + 3 = pc') (hin : ∀ w ∈ u_ws CN TT N, w ∈ Ts) (hty : ∀ k, k < N → parseFieldDescriptor (TT k).2.2.1 = some (ty0 k)) (hnm : ∀ a, a < N → ∀ b, b < N → a ≠ b → (TT a).2.1 ≠ (TT b).2.1) (hc : vwCl[ci]? = some (CN, TT, N)) (hj : j < N) (hlk : Cond.fieldLink own ix (TT j).1 (TT j).2.1 (TT j).2.2.1 ∈ Ts) (hfin : (TT j).2.2.2 = true) (hdc : (TT j).1 = own) (hd : parseFieldDescriptor (TT j).2.2.1 = some ty) (hnw : narrow ty v = v) (hfit : fits ty v = true)
    (h : qP ci j a v ws T) (kk : ∀ ws', T ws' → Ev K G nL cn sn pc' lv st ws') : Ev K G nL cn sn pc lv (v :: .ref a :: st) ws := by
  obtain ⟨k, fs, hk, hl9, hT⟩ := h
  have kk := kk _ hT
  obtain ⟨p, e, R, s, m, args, below, meth, c, Q⟩ := K
  intro H ls locs hl hP hD hS
  obtain ⟨hx, hb, hml, hown, hts, hr, hlk9, hK, hbs, hO, hxt, hR, hst⟩ := C
  subst hn
  exact va_putF (D := gD G) (ci := ci) (v := v) (ty := ty) (C := CN) (T := TT) (N := N) hx hb hts hin ty0 hty hnm hown hK hP hD hS k hk hc j hj (hts _ hlk) (fun _ h9 => h9) hfin hI hdc hd hnw hfit hl9 d (fun H1 locs1 hP1 hD1 hS1 => kk H1 ls locs1 hl hP1 hD1 hS1)
end NEW
