/-! ===== methods with a table; the law's own rows ===== -/
def Tb (K : Kx) (hh : List (Nat × Nat × Nat × Nat)) : Prop := match K with
  | (_, _, _, _, _, _, _, _, c, _) => c.exceptionTable.toList = tableOf hh
section BODYW
variable {G : Gx} {y : MethodName} {wy wy' : List Cond} {cc : ByteArray} {nL : Nat} {own : String} {rm : Room} {as : List Value} {lv0 : List (Option Value)} {ws : va_W} {ret : Option FieldType} {Qc : Array Value → State → Outcome → State → Prop} {hh : List (Nat × Nat × Nat × Nat)}
theorem mk_Mw (hst : (gl G).stackTraces = false) (hy : plainName y.cls = true) (hw : wy = Cond.codeWith y cc nL ret hh :: wy') (ho : y.cls = own) (hlen : (lg_sl as).length ≤ nL) (h0 : inlv nL as = lv0)
    (body : ∀ K, Cx K G cc nL own ret wy rm → Fin K G rm Qc → Tb K hh → Ev K G nL 0 0 0 lv0 [] ws) : Mt G y wy rm as ws Qc := by
  refine va_MetW (cc := cc) (maxL := nL) (ret := ret) hy hw ?_
  intro p e s m args below meth c s₁ B hml hv
  obtain ⟨rfl, hbs, hP, hK, hD, hO⟩ := hv
  have hts := atoms_spec (ws := wy) B.pre
  have hown : s.vm.findClass own = some m.cls := by rw [← ho]; exact findClass_of_methodNamed B.named
  have htb : c.exceptionTable.toList = tableOf hh := vx_table (x := y) B (hts _ (by rw [hw]; exact List.mem_cons_self))
  have key := body (p, e, (headSpec wy rm).room, s, m, as.toArray, below, meth, c, MQ below Qc as.toArray s rm.cells rm.slots (bA (gb G))) ⟨B.exec, B.bytes, hml, hown, hts, B.returns, B.notSynchronized, hK, hbs, hO, trivial, rfl, hst⟩ rfl htb
  subst h0
  rw [lg_entry_eq]
  exact key s.heap _ [] (LH.entry hlen) hP hD va_S.rf
end BODYW
section LAWR
variable {K : Kx} {G : Gx} {cc : ByteArray} {nL cn sn pc pc' cn' sn' : Nat} {own : String} {ret : Option FieldType} {Ts : List Cond} {rm : Room} {lv lv' : List (Option Value)} {st pst : List Value} {ws : va_W} {a ix : Nat} {hh : List (Nat × Nat × Nat × Nat)}
theorem e_catch (C : Cx K G cc nL own ret Ts rm) (hT : Tb K hh) {E : String} (pre : List ExceptionTableEntry) (x : ExceptionTableEntry) (suf : List ExceptionTableEntry) (hs : tableOf hh = pre ++ x :: suf) (hE : E ∈ xexc) (hp : ∀ z ∈ pre, ∃ nm ∈ xexc, z.catchType ≠ 0 ∧ E ≠ nm ∧ Cond.classLink own z.catchType nm ∈ Ts) (hcv : covers x pc = true) (h0 : x.catchType ≠ 0) (hlk : Cond.classLink own x.catchType E ∈ Ts)
    (k : ∀ q, Ev K G nL cn sn x.handlerPc lv [.ref q] ws) : XEv K G nL cn sn pc lv st E ws := by
  obtain ⟨p, e, R, s, m, args, below, meth, c, Q⟩ := K
  intro H ls locs q ce hl hP hD hS h3 h4 h5
  obtain ⟨hx, hb, hml, hown, hts, hr, hlk9, hK, hbs, hO, hxt, hR, hst⟩ := C
  refine ct_catch hown pre x suf (hs ▸ hT) (fun z hz => ?_) hcv h0 (hts _ hlk) (va_Nw.use rfl (hO.2.2.2.2.2.1 E hE)) h3 h4 h5 (k q H ls locs hl hP hD hS)
  obtain ⟨nm, hnm, g1, g2, g3⟩ := hp z hz
  exact ⟨g1, nm, hts _ g3, hO.2.2.2.2.2.2.2.2.2.2.1 E hE nm hnm g2⟩
/-- rows of longs -/
def qLs (cA : ClassId) (a : Nat) (i : Int32) (x : Int64) (ws : va_W) (T : va_W → Prop) : Prop := ∃ (k n : Nat) (f : Nat → Int64), ws[k]? = some (a, .inl (cA, n, .inr (.inl f))) ∧ vp_in i n ∧ T (ws.set k (a, .inl (cA, n, .inr (.inl (vp_updL f i.toNatClampNeg x)))))
def qLa (cA : ClassId) (a : Nat) (i : Int32) (ws : va_W) (T : Int64 → Prop) : Prop := ∃ (k n : Nat) (f : Nat → Int64), ws[k]? = some (a, .inl (cA, n, .inr (.inl f))) ∧ vp_in i n ∧ T (f i.toNatClampNeg)
theorem f_lastore (C : Cx K G cc nL own ret Ts rm) {i : Int32} {x : Int64} {T : va_W → Prop} (d : decode cc pc = .ok (.lastore, 1)) (hn : pc + 1 = pc') (h : qLs (gc G 5) a i x ws T) (kk : ∀ ws', T ws' → Ev K G nL cn sn pc' lv st ws') : Ev K G nL cn sn pc lv (.long x :: .int i :: .ref a :: st) ws := by
  obtain ⟨k, n, f, hk, hi, hT⟩ := h
  have kk := kk _ hT
  obtain ⟨p, e, R, s, m, args, below, meth, c, Q⟩ := K
  intro H ls locs hl hP hD hS
  obtain ⟨hx, hb, hml, hown, hts, hr, hlk9, hK, hbs, hO, hxt, hR, hst⟩ := C
  subst hn
  exact va_last hx hb hK hP hD hS k 5 hk rfl hi d (fun H1 locs1 hP1 hD1 hS1 => kk H1 ls locs1 hl hP1 hD1 hS1)
theorem f_laload (C : Cx K G cc nL own ret Ts rm) {i : Int32} {T : Int64 → Prop} (d : decode cc pc = .ok (.laload, 1)) (hn : pc + 1 = pc') (h : qLa (gc G 5) a i ws T) (kk : ∀ v, T v → Ev K G nL cn sn pc' lv (.long v :: st) ws) : Ev K G nL cn sn pc lv (.int i :: .ref a :: st) ws := by
  obtain ⟨k, n, f, hk, hi, hT⟩ := h
  have kk := kk _ hT
  obtain ⟨p, e, R, s, m, args, below, meth, c, Q⟩ := K
  intro H ls locs hl hP hD hS
  obtain ⟨hx, hb, hml, hown, hts, hr, hlk9, hK, hbs, hO, hxt, hR, hst⟩ := C
  subst hn
  exact va_lald hx hb hK hP k 5 hk rfl hi d (kk H ls locs hl hP hD hS)
theorem f_newL (C : Cx K G cc nL own ret Ts rm) {n : Int32} {N : Nat} {T : Nat → va_W → Prop} (d : decode cc pc = .ok (.newarray .long, 2)) (hn : pc + 2 = pc') (h1 : Cond.arrayClass .long ∈ Ts) (h2 : ¬ n < 0) (hN : n.toNatClampNeg = N) (hby : N * 8 ≤ 536870912)
    (hc1 : cn + 1 ≤ rm.cells) (hc2 : sn + N ≤ rm.slots) (e1 : cn + 1 = cn') (e2 : sn + N = sn') (h : qNL (gc G 5) N ws T) (kk : ∀ q ws', T q ws' → Ev K G nL cn' sn' pc' lv (.ref q :: st) ws') : Ev K G nL cn sn pc lv (.int n :: st) ws := by
  obtain ⟨p, e, R, s, m, args, below, meth, c, Q⟩ := K
  intro H ls locs hl hP hD hS
  obtain ⟨hx, hb, hml, hown, hts, hr, hlk9, hK, hbs, hO, hxt, hR, hst⟩ := C
  subst hn; subst hR; subst e1; subst e2
  refine va_newa (atype := .long) (a0 := (N, .inr (.inl (fun _ => 0)))) hx hb (hts _ h1) (ty := .long) rfl hK hP hD hS (fun q hq => Nat.le_trans hbs hq) (fun _ => rfl) h2 hN hby hc1 hc2 d (fun q cA H1 hK1 hP1 hD1 hS1 => ?_)
  have e9 : gc G 5 = cA := Option.some.inj (((hK.2 5 _ rfl).2 : s.vm.findClass _ = some _).symm.trans ((hK1.2 6 _ rfl).2 : s.vm.findClass _ = some _))
  subst e9
  exact kk q _ (h q) H1 ls locs hl hP1 hD1 hS1
/-- the script: at b, of L ints xs, old -/
def Sc (K : Kx) (G : Gx) (b L : Nat) (xs : Nat → Int32) : Prop := match K with
  | (_, _, _, s, _, _, _, _, _, _) => va_X b L xs s s.heap ∧ b < s.heap.size ∧ ¬ bA (gb G) b
def qX (L : Nat) (xs : Nat → Int32) (i : Int32) (T : Int32 → Prop) : Prop := vp_in i L ∧ T (xs i.toNatClampNeg)
theorem f_sld (C : Cx K G cc nL own ret Ts rm) {b L : Nat} {xs : Nat → Int32} (hX : Sc K G b L xs) {i : Int32} {T : Int32 → Prop} (d : decode cc pc = .ok (.iaload, 1)) (hn : pc + 1 = pc') (h : qX L xs i T) (kk : ∀ v, T v → Ev K G nL cn sn pc' lv (.int v :: st) ws) : Ev K G nL cn sn pc lv (.int i :: .ref b :: st) ws := by
  have kk := kk _ h.2
  obtain ⟨p, e, R, s, m, args, below, meth, c, Q⟩ := K
  intro H ls locs hl hP hD hS
  obtain ⟨hx, hb, hml, hown, hts, hr, hlk9, hK, hbs, hO, hxt, hR, hst⟩ := C
  subst hn
  exact va_sld hx hb hX.1 hX.2.1 hX.2.2 hS h.1 d (kk H ls locs hl hP hD hS)
theorem e_slen (C : Cx K G cc nL own ret Ts rm) {b L : Nat} {xs : Nat → Int32} (hX : Sc K G b L xs) (d : decode cc pc = .ok (.arraylength, 1)) (hn : pc + 1 = pc') (k : Ev K G nL cn sn pc' lv (.int (Int32.ofNat L) :: st) ws) : Ev K G nL cn sn pc lv (.ref b :: st) ws := by
  obtain ⟨p, e, R, s, m, args, below, meth, c, Q⟩ := K
  intro H ls locs hl hP hD hS
  obtain ⟨hx, hb, hml, hown, hts, hr, hlk9, hK, hbs, hO, hxt, hR, hst⟩ := C
  subst hn
  exact va_slen hx hb hX.1 hX.2.1 hX.2.2 hS d (k H ls locs hl hP hD hS)
variable {y : MethodName} {wy wy' : List Cond} {rm' : Room} {bytes : ByteArray} {maxL n b : Nat} {ret' : Option FieldType} {As : List Value} {Qc : Array Value → State → Outcome → State → Prop}
theorem run_SW (C : Cx K G cc nL own ret Ts rm) (hM : Mt G y wy rm' As ws Qc) (hG : GoodIn Ts (va_wsS own ix y wy)) (hw : wy = Cond.codeWith y bytes maxL ret' hh :: wy')
    (hd : y.cls ≠ "java/lang/invoke/MethodHandle" ∧ y.cls ≠ "java/lang/invoke/VarHandle" ∧ (parseMethodDescriptor y.desc).map (fun d => d.parameters.length) = some n) (hR : rm'.frames + 1 ≤ rm.frames ∧ 8 + (maxL + 11) + rm'.locals ≤ rm.locals)
    (hn : As.length = n) (hst9 : (st.map fun v => v.category).sum ≤ 8) (d : decode cc pc = .ok (.invokestatic ix, 3)) (hcs : cn + rm'.cells ≤ rm.cells ∧ sn + rm'.slots ≤ rm.slots) (hp : pst = As.reverse ++ st) : Rn K G nL cn sn pc lv pst st ws rm'.cells rm'.slots As Qc := by
  obtain ⟨p, e, R, s, m, args, below, meth, c, Qf⟩ := K
  intro H ls locs hl hP hD hS
  obtain ⟨hx, hb, hml, hown, hts, hr, hlk, hK, hbs, hO, hxt, hRr, hst⟩ := C
  subst hRr
  exact vx_runSW (As := As) (rest := st) ⟨hx, hb, hml, hown, hts⟩ hM (vx_cwSW n hts hG hw rfl rfl hd hR) ⟨Wd.blind, fun U hU hW => ⟨rfl, Wd.at_call hbs hK hO hP hD hS hU hW⟩⟩ rfl hn hl.1 hp (lv_room hst9) d hcs
theorem run_I (C : Cx K G cc nL own ret Ts rm) (hM : Mt G y wy rm' (.ref b :: As) ws Qc) (hG : GoodIn Ts wy) (hw : wy = Cond.code y bytes maxL none :: wy') (hini : Cond.initialized y.cls ∈ Ts) (hl1 : Cond.methodLink own ix y ∈ Ts) (hins : Cond.instanceMethod y ∈ Ts) (hy1 : y.name = "<init>")
    (hd : y.cls ≠ "java/lang/invoke/MethodHandle" ∧ y.cls ≠ "java/lang/invoke/VarHandle" ∧ (parseMethodDescriptor y.desc).map (fun d => d.parameters.length) = some n) (hR : rm'.frames + 1 ≤ rm.frames ∧ 8 + (maxL + 11) + rm'.locals ≤ rm.locals)
    (hn : As.length = n) (hst9 : (st.map fun v => v.category).sum ≤ 8) (d : decode cc pc = .ok (.invokespecial ix, 3)) (hcs : cn + rm'.cells ≤ rm.cells ∧ sn + rm'.slots ≤ rm.slots) (hp : pst = As.reverse ++ .ref b :: st) : Rn K G nL cn sn pc lv pst st ws rm'.cells rm'.slots (.ref b :: As) Qc := by
  obtain ⟨p, e, R, s, m, args, below, meth, c, Qf⟩ := K
  intro H ls locs hl hP hD hS
  obtain ⟨hx, hb, hml, hown, hts, hr, hlk, hK, hbs, hO, hxt, hRr, hst⟩ := C
  subst hRr
  exact va_runI (As := As) (rest := st) ⟨hx, hb, hml, hown, hts⟩ hM (cwI n hts hG hw rfl rfl (hts _ hini) (hts _ hl1) (hts _ hins) hy1 hd hR) ⟨Wd.blind, fun U hU hW => ⟨rfl, Wd.at_call hbs hK hO hP hD hS hU hW⟩⟩ rfl hn hl.1 hp (lv_room hst9) d hcs
end LAWR
