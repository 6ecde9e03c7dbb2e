/-! ===== contracts over the world; how a body gives one; how a call uses one ===== -/
def inl0 : List Value → List (Option Value)
  | [] => []
  | v :: t => if v.category = 2 then some v :: none :: inl0 t else some v :: inl0 t
def inlv (nL : Nat) (as : List Value) : List (Option Value) := inl0 as ++ List.replicate (nL - (inl0 as).length) none
theorem inl0_at : ∀ (as : List Value) (b i : Nat) (v : Value), (inl0 as)[i]? = some (some v) → (b + i, v) ∈ lv_args b as := by
  intro as
  induction as with
  | nil => intro b i v h; simp [inl0] at h
  | cons w t ih =>
    intro b i v h
    unfold inl0 at h
    unfold lv_args
    by_cases hc : w.category = 2
    · rw [if_pos hc] at h ⊢
      match i, h with
      | 0, h => simp at h; subst h; exact List.mem_cons_self
      | 1, h => simp at h
      | i + 2, h =>
        have := ih (b + 2) i v (by simpa using h)
        exact List.mem_cons_of_mem _ (by rw [show b + (i + 2) = b + 2 + i by omega]; exact this)
    · rw [if_neg hc] at h ⊢
      match i, h with
      | 0, h => simp at h; subst h; exact List.mem_cons_self
      | i + 1, h =>
        have := ih (b + 1) i v (by simpa using h)
        exact List.mem_cons_of_mem _ (by rw [show b + (i + 1) = b + 1 + i by omega]; exact this)
theorem inlv_at {nL i : Nat} {as : List Value} {v : Value} (h : (inlv nL as)[i]? = some (some v)) : (i, v) ∈ lv_args 0 as := by
  unfold inlv at h
  rw [List.getElem?_append] at h
  split at h
  · have := inl0_at as 0 i v h; rw [Nat.zero_add] at this; exact this
  · rw [List.getElem?_replicate] at h; split at h <;> simp at h
theorem LH.entry {as : List Value} {n : Nat} (h : (lg_sl as).length ≤ n) : LH ((lg_sl as ++ List.replicate (n - (lg_sl as).length) Slot.unset).toArray) n (inlv n as) := by
  have hl := lv_entry as h
  exact ⟨hl.1, hl.2.1, fun i v hi => hl.2.2 (i, v) (inlv_at hi)⟩
/-- contracts: int (and boolean), nothing, a reference, long; X..: it may throw, too -/
def QtI (G : Gx) (Q : Int32 → va_W → Prop) : Array Value → State → Outcome → State → Prop := va_Qi Q (fun u t => Wd G u t) (bA (gb G))
def QtL (G : Gx) (Q : Int64 → va_W → Prop) : Array Value → State → Outcome → State → Prop := va_Ql Q (fun u t => Wd G u t) (bA (gb G))
def QtV (G : Gx) (Q : va_W → Prop) : Array Value → State → Outcome → State → Prop := va_Qv Q (fun u t => Wd G u t) (bA (gb G))
def QtR (G : Gx) (Q : Nat → va_W → Prop) : Array Value → State → Outcome → State → Prop := va_Qr (S := Nat × va_W) (fun u => Q u.1 u.2) (fun u a t => a = u.1 ∧ Wd G u.2 t) (bA (gb G))
def QtX (G : Gx) (X : String → va_W → Prop) : String → State → State → Prop := vx_X (fun _ : va_W => True) (fun E u t => X E u ∧ va_P (gD G) vwCl u t.heap ∧ va_D (bA (gb G)) u) (bA (gb G))
def Mt (G : Gx) (y : MethodName) (wy : List Cond) (rm : Room) (as : List Value) (ws : va_W) (Qc : Array Value → State → Outcome → State → Prop) : Prop := Met (gl G) y wy rm (va_Pc as (Wd G ws)) Qc rm.cells rm.slots (bA (gb G))
def Xt (G : Gx) (y : MethodName) (wy : List Cond) (rm : Room) (as : List Value) (ws : va_W) (Qc : Array Value → State → Outcome → State → Prop) (X : String → va_W → Prop) : Prop := vx_Met (gl G) y wy rm (va_Pc as (Wd G ws)) Qc (QtX G X) rm.cells rm.slots (bA (gb G))
theorem Wd.at_end {G : Gx} {ws : va_W} {s t : State} {H : Heap} {locs : List Loc} (hbs : gb G ≤ s.heap.size) (hK : va_K (gD G) vwCl (tyl (gc G)) s) (hO : Old G s s.heap) (hP : va_P (gD G) vwCl ws H) (hD : va_D (bA (gb G)) ws) (hS : va_S (bA (gb G)) s.heap H locs) (ht : t.heap = H) (hW : s.WarmedH t.vm) : Wd G ws t :=
  ⟨by rw [ht]; exact Nat.le_trans hbs hS.1, by rw [ht]; exact hP, va_K.moved hW.alike hK, hD, by rw [ht]; exact hO.to hW hS.2.1⟩
section BODY
variable {G : Gx} {y : MethodName} {wy wy' : List Cond} {cc : ByteArray} {nL : Nat} {own : String} {rm : Room} {as : List Value} {lv0 : List (Option Value)} {ws : va_W} {ret : Option FieldType} {Qc : Array Value → State → Outcome → State → Prop} {X : String → va_W → Prop}
/-- what a body may use of its end: that the goal's last predicate is MQ of its contract -/
def Fin (K : Kx) (G : Gx) (rm : Room) (Qc : Array Value → State → Outcome → State → Prop) : Prop := match K with
  | (_, _, _, s, _, args, below, _, _, Q) => Q = MQ below Qc args s rm.cells rm.slots (bA (gb G))
def FinX (K : Kx) (G : Gx) (rm : Room) (Qc : Array Value → State → Outcome → State → Prop) (X : String → va_W → Prop) : Prop := match K with
  | (_, _, _, s, _, args, below, _, c, Q) => Q = vx_MQ below Qc (QtX G X) args s rm.cells rm.slots (bA (gb G)) ∧ ∀ x ∈ c.exceptionTable.toList, False
theorem mk_Mt (hst : (gl G).stackTraces = false) (hy : plainName y.cls = true) (hw : wy = Cond.code y cc nL ret :: wy') (ho : y.cls = own) (hlen : (lg_sl as).length ≤ nL) (h0 : inlv nL as = lv0)
    (body : ∀ K, Cx K G cc nL own ret wy rm → Fin K G rm Qc → Ev K G nL 0 0 0 lv0 [] ws) : Mt G y wy rm as ws Qc := by
  refine Met.ofW (cc := cc) (maxL := nL) (ret := ret) hy hw ?_
  intro p e s m args below meth c s₁ B hml hv
  obtain ⟨rfl, hbs, hP, hK, hD, hO⟩ := hv
  have hts := atoms_spec (ws := wy) B.pre
  have hown : s.vm.findClass own = some m.cls := by rw [← ho]; exact findClass_of_methodNamed B.named
  have key := body (p, e, (headSpec wy rm).room, s, m, as.toArray, below, meth, c, MQ below Qc as.toArray s rm.cells rm.slots (bA (gb G))) ⟨B.exec, B.bytes, hml, hown, hts, B.returns, B.notSynchronized, hK, hbs, hO, trivial, rfl, hst⟩ rfl
  subst h0
  rw [lg_entry_eq]
  exact key s.heap _ [] (LH.entry hlen) hP hD va_S.rf
theorem mk_Xt (hst : (gl G).stackTraces = false) (hy : plainName y.cls = true) (hw : wy = Cond.code y cc nL ret :: wy') (ho : y.cls = own) (hlen : (lg_sl as).length ≤ nL) (h0 : inlv nL as = lv0)
    (body : ∀ K, Cx K G cc nL own ret wy rm → FinX K G rm Qc X → Ev K G nL 0 0 0 lv0 [] ws) : Xt G y wy rm as ws Qc X := by
  refine vx_ofW (cc := cc) (maxL := nL) (ret := ret) hy hw ?_
  intro p e s m args below meth c s₁ B hml hxt hv
  obtain ⟨rfl, hbs, hP, hK, hD, hO⟩ := hv
  have hts := atoms_spec (ws := wy) B.pre
  have hown : s.vm.findClass own = some m.cls := by rw [← ho]; exact findClass_of_methodNamed B.named
  have key := body (p, e, (headSpec wy rm).room, s, m, as.toArray, below, meth, c, vx_MQ below Qc (QtX G X) as.toArray s rm.cells rm.slots (bA (gb G))) ⟨B.exec, B.bytes, hml, hown, hts, B.returns, B.notSynchronized, hK, hbs, hO, trivial, rfl, hst⟩ ⟨rfl, hxt⟩
  subst h0
  rw [lg_entry_eq]
  exact key s.heap _ [] (LH.entry hlen) hP hD va_S.rf
end BODY
section RET
variable {K : Kx} {G : Gx} {cc : ByteArray} {nL cn sn pc pc' : Nat} {own : String} {ret : Option FieldType} {Ts : List Cond} {rm : Room} {lv lv' : List (Option Value)} {st : List Value} {ws : va_W} {X : String → va_W → Prop}
theorem r_int {Q : Int32 → va_W → Prop} (C : Cx K G cc nL own (some .int) Ts rm) (F : Fin K G rm (QtI G Q)) {v : Int32} (d : decode cc pc = .ok (.ireturn, 1)) (h1 : cn ≤ rm.cells) (h2 : sn ≤ rm.slots) (hq : Q v ws) : Ev K G nL cn sn pc lv [.int v] ws := by
  obtain ⟨p, e, R, s, m, args, below, meth, c, Qf⟩ := K
  intro H ls locs hl hP hD hS
  obtain ⟨hx, hb, hml, hown, hts, hr, hlk, hK, hbs, hO, hxt, hR, hst⟩ := C
  cases F
  refine W.widen h1 h2 ?_
  exact W.iret (v := v) hx hb hr (fun t ht hW => ⟨⟨v, ws, rfl, hq, Wd.at_end hbs hK hO hP hD hS ht hW⟩, hS.F ht⟩) hS.2.2 d hlk
theorem r_bool {Q : Int32 → va_W → Prop} (C : Cx K G cc nL own (some .boolean) Ts rm) (F : Fin K G rm (QtI G Q)) {v : Int32} (d : decode cc pc = .ok (.ireturn, 1)) (h1 : cn ≤ rm.cells) (h2 : sn ≤ rm.slots) (hv : v = 0 ∨ v = 1) (hq : Q v ws) : Ev K G nL cn sn pc lv [.int v] ws := by
  obtain ⟨p, e, R, s, m, args, below, meth, c, Qf⟩ := K
  intro H ls locs hl hP hD hS
  obtain ⟨hx, hb, hml, hown, hts, hr, hlk, hK, hbs, hO, hxt, hR, hst⟩ := C
  cases F
  refine W.widen h1 h2 ?_
  exact W.zret (v := v) hx hb hr (by rcases hv with rfl | rfl <;> rfl) (fun t ht hW => ⟨⟨v, ws, rfl, hq, Wd.at_end hbs hK hO hP hD hS ht hW⟩, hS.F ht⟩) hS.2.2 d hlk
theorem r_long {Q : Int64 → va_W → Prop} (C : Cx K G cc nL own (some .long) Ts rm) (F : Fin K G rm (QtL G Q)) {v : Int64} (d : decode cc pc = .ok (.lreturn, 1)) (h1 : cn ≤ rm.cells) (h2 : sn ≤ rm.slots) (hq : Q v ws) : Ev K G nL cn sn pc lv [.long v] ws := by
  obtain ⟨p, e, R, s, m, args, below, meth, c, Qf⟩ := K
  intro H ls locs hl hP hD hS
  obtain ⟨hx, hb, hml, hown, hts, hr, hlk, hK, hbs, hO, hxt, hR, hst⟩ := C
  cases F
  refine W.widen h1 h2 ?_
  exact W.lret (v := v) hx hb hr (fun t ht hW => ⟨⟨v, ws, rfl, hq, Wd.at_end hbs hK hO hP hD hS ht hW⟩, hS.F ht⟩) hS.2.2 d hlk
theorem r_void {Q : va_W → Prop} (C : Cx K G cc nL own none Ts rm) (F : Fin K G rm (QtV G Q)) (d : decode cc pc = .ok (.return_, 1)) (h1 : cn ≤ rm.cells) (h2 : sn ≤ rm.slots) (hq : Q ws) : Ev K G nL cn sn pc lv [] ws := by
  obtain ⟨p, e, R, s, m, args, below, meth, c, Qf⟩ := K
  intro H ls locs hl hP hD hS
  obtain ⟨hx, hb, hml, hown, hts, hr, hlk, hK, hbs, hO, hxt, hR, hst⟩ := C
  cases F
  refine W.widen h1 h2 ?_
  exact W.vret hx hb hr (fun t ht hW => ⟨⟨ws, rfl, hq, Wd.at_end hbs hK hO hP hD hS ht hW⟩, hS.F ht⟩) hS.2.2 d hlk
theorem x_int {Q : Int32 → va_W → Prop} (C : Cx K G cc nL own (some .int) Ts rm) (F : FinX K G rm (QtI G Q) X) {v : Int32} (d : decode cc pc = .ok (.ireturn, 1)) (h1 : cn ≤ rm.cells) (h2 : sn ≤ rm.slots) (hq : Q v ws) : Ev K G nL cn sn pc lv [.int v] ws := by
  obtain ⟨p, e, R, s, m, args, below, meth, c, Qf⟩ := K
  intro H ls locs hl hP hD hS
  obtain ⟨hx, hb, hml, hown, hts, hr, hlk, hK, hbs, hO, hxx, hR, hst⟩ := C
  obtain ⟨rfl, hxt⟩ := F
  refine W.widen h1 h2 (vx_ret ?_)
  exact W.iret (v := v) hx hb hr (fun t ht hW => ⟨⟨v, ws, rfl, hq, Wd.at_end hbs hK hO hP hD hS ht hW⟩, hS.F ht⟩) hS.2.2 d hlk
theorem x_bool {Q : Int32 → va_W → Prop} (C : Cx K G cc nL own (some .boolean) Ts rm) (F : FinX K G rm (QtI G Q) X) {v : Int32} (d : decode cc pc = .ok (.ireturn, 1)) (h1 : cn ≤ rm.cells) (h2 : sn ≤ rm.slots) (hv : v = 0 ∨ v = 1) (hq : Q v ws) : Ev K G nL cn sn pc lv [.int v] ws := by
  obtain ⟨p, e, R, s, m, args, below, meth, c, Qf⟩ := K
  intro H ls locs hl hP hD hS
  obtain ⟨hx, hb, hml, hown, hts, hr, hlk, hK, hbs, hO, hxx, hR, hst⟩ := C
  obtain ⟨rfl, hxt⟩ := F
  refine W.widen h1 h2 (vx_ret ?_)
  exact W.zret (v := v) hx hb hr (by rcases hv with rfl | rfl <;> rfl) (fun t ht hW => ⟨⟨v, ws, rfl, hq, Wd.at_end hbs hK hO hP hD hS ht hW⟩, hS.F ht⟩) hS.2.2 d hlk
theorem x_void {Q : va_W → Prop} (C : Cx K G cc nL own none Ts rm) (F : FinX K G rm (QtV G Q) X) (d : decode cc pc = .ok (.return_, 1)) (h1 : cn ≤ rm.cells) (h2 : sn ≤ rm.slots) (hq : Q ws) : Ev K G nL cn sn pc lv [] ws := by
  obtain ⟨p, e, R, s, m, args, below, meth, c, Qf⟩ := K
  intro H ls locs hl hP hD hS
  obtain ⟨hx, hb, hml, hown, hts, hr, hlk, hK, hbs, hO, hxx, hR, hst⟩ := C
  obtain ⟨rfl, hxt⟩ := F
  refine W.widen h1 h2 (vx_ret ?_)
  exact W.vret hx hb hr (fun t ht hW => ⟨⟨ws, rfl, hq, Wd.at_end hbs hK hO hP hD hS ht hW⟩, hS.F ht⟩) hS.2.2 d hlk
theorem x_ref {Q : Nat → va_W → Prop} {cl : String} (C : Cx K G cc nL own (some (.object cl)) Ts rm) (F : FinX K G rm (QtR G Q) X) {v : Nat} (d : decode cc pc = .ok (.areturn, 1)) (h1 : cn ≤ rm.cells) (h2 : sn ≤ rm.slots) (hq : Q v ws) : Ev K G nL cn sn pc lv [.ref v] ws := by
  obtain ⟨p, e, R, s, m, args, below, meth, c, Qf⟩ := K
  intro H ls locs hl hP hD hS
  obtain ⟨hx, hb, hml, hown, hts, hr, hlk, hK, hbs, hO, hxx, hR, hst⟩ := C
  obtain ⟨rfl, hxt⟩ := F
  refine W.widen h1 h2 (vx_ret ?_)
  exact W.aret (v := .ref v) hx hb hr (Or.inl ⟨_, rfl⟩) (Or.inr ⟨_, rfl⟩) (fun t ht hW => ⟨⟨(v, ws), v, rfl, hq, rfl, Wd.at_end hbs hK hO hP hD hS ht hW⟩, hS.F ht⟩) hS.2.2 d hlk
/-- out of this method goes what came out of a call -/
theorem x_out {Qc : Array Value → State → Outcome → State → Prop} (C : Cx K G cc nL own ret Ts rm) (F : FinX K G rm Qc X) {E : String} (h1 : cn ≤ rm.cells) (h2 : sn ≤ rm.slots) (hq : X E ws) : XEv K G nL cn sn pc lv st E ws := by
  obtain ⟨p, e, R, s, m, args, below, meth, c, Qf⟩ := K
  intro H ls locs q ce hl hP hD hS h3 h4 h5
  obtain ⟨hx, hb, hml, hown, hts, hr, hlk, hK, hbs, hO, hxx, hR, hst⟩ := C
  obtain ⟨rfl, hxt⟩ := F
  exact vx_out (fun x hx => absurd (hxt x hx) id) hlk h3 h4 h5 (fun t ht ha => ⟨ws, trivial, ⟨hq, by rw [ht]; exact hP, hD⟩, hS.F ht⟩) hS.2.2 h1 h2
/-- an exception of its own, with a text: new, dup, ldc, invokespecial, athrow -/
theorem x_words {args : Array Value} {s : State} {G : Gx} {H : Heap} {E : String} {ic : Nat} (hO : Old G s H) (hE : E ∈ xexc) (hgw : ∀ w ∈ (vx_atS own ic E xnms).filter goodWord, w.before args s = true) (hb : ∀ w ∈ (vx_atS own ic E xnms).filter (fun w => !goodWord w), w ∈ (Cond.castable E E :: xdec.map Cond.declares)) : ∀ w ∈ vx_atS own ic E xnms, w.before args s = true :=
  vx_hat hgw hb (fun w hw => by
    rcases List.mem_cons.mp hw with rfl | hw
    · exact va_Nw.use rfl (hO.2.2.2.2.2.1 E hE)
    · obtain ⟨y, hy, rfl⟩ := List.mem_map.mp hw
      exact va_Nw.use rfl (hO.2.2.2.2.2.2.1 y hy))
theorem va_P.grown {D : va_G} {ws : va_W} {H : Heap} {H1 : Heap} (h : va_P D vwCl ws H) (hk : ∀ q : Nat, q < H.size → H1[q]? = H[q]?) : va_P D vwCl ws H1 := fun k q hq => (h k q hq).kept (hk _ (h k q hq).lt)
theorem x_throwS {Qc : Array Value → State → Outcome → State → Prop} (C : Cx K G cc nL own ret Ts rm) (F : FinX K G rm Qc X) {E tx : String} {ik is ic : Nat} (hE : E ∈ xexc) (hfit : Bundle.fit E = true) (hk : Cond.classLink own ik E ∈ Ts) (hini : Cond.initialized E ∈ Ts) (hs : (own, is, tx) ∈ xstr)
    (hgw : ∀ w ∈ (vx_atS own ic E xnms).filter goodWord, w ∈ Ts) (hbw : ∀ w ∈ (vx_atS own ic E xnms).filter (fun w => !goodWord w), w ∈ (Cond.castable E E :: xdec.map Cond.declares))
    (hot : ∀ w ∈ Cond.classLink own ik E :: Cond.initialized E :: vx_atS own ic E xnms, vx_ot w = true)
    (d0 : decode cc pc = .ok (.new ik, 3)) (d3 : decode cc (pc + 3) = .ok (.dup, 1)) (d4 : decode cc (pc + 4) = .ok (.ldc is, 2)) (d6 : decode cc (pc + 6) = .ok (.invokespecial ic, 3)) (d9 : decode cc (pc + 9) = .ok (.athrow, 1))
    (hf : 5 < rm.frames) (hlo : (st.map fun v => v.category).sum + 82 ≤ rm.locals) (h1 : cn + 1 ≤ rm.cells) (h2 : sn + 6 ≤ rm.slots) (hq : X E ws) : Ev K G nL cn sn pc lv st ws := by
  obtain ⟨p, e, R, s, m, args, below, meth, c, Qf⟩ := K
  intro H ls locs hl hP hD hS
  obtain ⟨hx, hb, hml, hown, hts, hr, hlk, hK, hbs, hO, hxx, hR, hst⟩ := C
  obtain ⟨rfl, hxt⟩ := F
  subst hR
  obtain ⟨sa, hsa⟩ := hO.2.2.1 _ hs
  exact vx_throwS (text := tx) (sa := sa) (names := xnms) (A := bA (gb G)) hx hb hst hown hfit (by decide) (hts _ hk) (hts _ hini) hsa (x_words hO hE (fun w hw => hts w (hgw w hw)) hbw) hot hO.1 hO.2.1 hS (by rw [hl.1, hml]) d0 d3 d4 d6 d9 (fun x hx => absurd (hxt x hx) id) hf hlo h1 h2 hlk
    (fun t ha hz hk => ⟨ws, trivial, ⟨hq, va_P.grown hP hk, hD⟩, Nat.le_trans hS.1 hz, fun q h1 h2 => by rw [hk q (Nat.lt_of_lt_of_le h1 hS.1)]; exact hS.2.1 q h1 h2⟩) hS.2.2 h1 h2
theorem x_throwSW {Qc : Array Value → State → Outcome → State → Prop} (C : Cx K G cc nL own ret Ts rm) (F : FinX K G rm Qc X) {E tx : String} {ik is ic : Nat} (hE : E ∈ xexc) (hfit : Bundle.fit E = true) (hk : Cond.classLink own ik E ∈ Ts) (hini : Cond.initialized E ∈ Ts) (hs : (own, is, tx) ∈ xstr)
    (hgw : ∀ w ∈ (vx_atS own ic E xnms).filter goodWord, w ∈ Ts) (hbw : ∀ w ∈ (vx_atS own ic E xnms).filter (fun w => !goodWord w), w ∈ (Cond.castable E E :: xdec.map Cond.declares))
    (hot : ∀ w ∈ Cond.classLink own ik E :: Cond.initialized E :: vx_atS own ic E xnms, vx_ot w = true)
    (d0 : decode cc pc = .ok (.new ik, 3)) (d3 : decode cc (pc + 3) = .ok (.dup, 1)) (d4 : decode cc (pc + 4) = .ok (.ldc_w is, 3)) (d6 : decode cc (pc + 7) = .ok (.invokespecial ic, 3)) (d9 : decode cc (pc + 10) = .ok (.athrow, 1))
    (hf : 5 < rm.frames) (hlo : (st.map fun v => v.category).sum + 82 ≤ rm.locals) (h1 : cn + 1 ≤ rm.cells) (h2 : sn + 6 ≤ rm.slots) (hq : X E ws) : Ev K G nL cn sn pc lv st ws := by
  obtain ⟨p, e, R, s, m, args, below, meth, c, Qf⟩ := K
  intro H ls locs hl hP hD hS
  obtain ⟨hx, hb, hml, hown, hts, hr, hlk, hK, hbs, hO, hxx, hR, hst⟩ := C
  obtain ⟨rfl, hxt⟩ := F
  subst hR
  obtain ⟨sa, hsa⟩ := hO.2.2.1 _ hs
  exact vx_throwSW (text := tx) (sa := sa) (names := xnms) (A := bA (gb G)) hx hb hst hown hfit (by decide) (hts _ hk) (hts _ hini) hsa (x_words hO hE (fun w hw => hts w (hgw w hw)) hbw) hot hO.1 hO.2.1 hS (by rw [hl.1, hml]) d0 d3 d4 d6 d9 (fun x hx => absurd (hxt x hx) id) hf hlo h1 h2 hlk
    (fun t ha hz hk => ⟨ws, trivial, ⟨hq, va_P.grown hP hk, hD⟩, Nat.le_trans hS.1 hz, fun q h1 h2 => by rw [hk q (Nat.lt_of_lt_of_le h1 hS.1)]; exact hS.2.1 q h1 h2⟩) hS.2.2 h1 h2
theorem x_wordsN {args : Array Value} {s : State} {G : Gx} {H : Heap} (hO : Old G s H) (hE : nsE ∈ xexc) (hgw : ∀ w ∈ (vx_atN).filter goodWord, w.before args s = true) (hb : ∀ w ∈ (vx_atN).filter (fun w => !goodWord w), w ∈ (Cond.castable nsE nsE :: xdec.map Cond.declares)) : ∀ w ∈ vx_atN, w.before args s = true :=
  vx_hat hgw hb (fun w hw => by
    rcases List.mem_cons.mp hw with rfl | hw
    · exact va_Nw.use rfl (hO.2.2.2.2.2.1 nsE hE)
    · obtain ⟨y, hy, rfl⟩ := List.mem_map.mp hw
      exact va_Nw.use rfl (hO.2.2.2.2.2.2.1 y hy))
theorem x_throwN {Qc : Array Value → State → Outcome → State → Prop} (C : Cx K G cc nL RX6 ret Ts rm) (F : FinX K G rm Qc X) {tx : String} {ik is : Nat} (hE : nsE ∈ xexc) (hk : Cond.classLink RX6 ik nsE ∈ Ts) (hini : Cond.initialized nsE ∈ Ts) (hs : (RX6, is, tx) ∈ xstr)
    (hgw : ∀ w ∈ (vx_atN).filter goodWord, w ∈ Ts) (hbw : ∀ w ∈ (vx_atN).filter (fun w => !goodWord w), w ∈ (Cond.castable nsE nsE :: xdec.map Cond.declares))
    (hot : ∀ w ∈ Cond.classLink RX6 ik nsE :: Cond.initialized nsE :: vx_atN, vx_ot w = true)
    (d0 : decode cc pc = .ok (.new ik, 3)) (d3 : decode cc (pc + 3) = .ok (.dup, 1)) (d4 : decode cc (pc + 4) = .ok (.ldc is, 2)) (d6 : decode cc (pc + 6) = .ok (.invokespecial 245, 3)) (d9 : decode cc (pc + 9) = .ok (.athrow, 1))
    (hf : 5 < rm.frames) (hlo : (st.map fun v => v.category).sum + 82 ≤ rm.locals) (h1 : cn + 1 ≤ rm.cells) (h2 : sn + 6 ≤ rm.slots) (hq : X nsE ws) : Ev K G nL cn sn pc lv st ws := by
  obtain ⟨p, e, R, s, m, args, below, meth, c, Qf⟩ := K
  intro H ls locs hl hP hD hS
  obtain ⟨hx, hb, hml, hown, hts, hr, hlk, hK, hbs, hO, hxx, hR, hst⟩ := C
  obtain ⟨rfl, hxt⟩ := F
  subst hR
  obtain ⟨sa, hsa⟩ := hO.2.2.1 _ hs
  exact vx_throwN (text := tx) (sa := sa) (A := bA (gb G)) hx hb hst hown (hts _ hk) (hts _ hini) hsa (x_wordsN hO hE (fun w hw => hts w (hgw w hw)) hbw) hot hO.1 hO.2.1 hS (by rw [hl.1, hml]) d0 d3 d4 d6 d9 (fun x hx => absurd (hxt x hx) id) hf hlo h1 h2 hlk
    (fun t ha hz hk => ⟨ws, trivial, ⟨hq, va_P.grown hP hk, hD⟩, Nat.le_trans hS.1 hz, fun q h1 h2 => by rw [hk q (Nat.lt_of_lt_of_le h1 hS.1)]; exact hS.2.1 q h1 h2⟩) hS.2.2 h1 h2
theorem x_throwNW {Qc : Array Value → State → Outcome → State → Prop} (C : Cx K G cc nL RX6 ret Ts rm) (F : FinX K G rm Qc X) {tx : String} {ik is : Nat} (hE : nsE ∈ xexc) (hk : Cond.classLink RX6 ik nsE ∈ Ts) (hini : Cond.initialized nsE ∈ Ts) (hs : (RX6, is, tx) ∈ xstr)
    (hgw : ∀ w ∈ (vx_atN).filter goodWord, w ∈ Ts) (hbw : ∀ w ∈ (vx_atN).filter (fun w => !goodWord w), w ∈ (Cond.castable nsE nsE :: xdec.map Cond.declares))
    (hot : ∀ w ∈ Cond.classLink RX6 ik nsE :: Cond.initialized nsE :: vx_atN, vx_ot w = true)
    (d0 : decode cc pc = .ok (.new ik, 3)) (d3 : decode cc (pc + 3) = .ok (.dup, 1)) (d4 : decode cc (pc + 4) = .ok (.ldc_w is, 3)) (d6 : decode cc (pc + 7) = .ok (.invokespecial 245, 3)) (d9 : decode cc (pc + 10) = .ok (.athrow, 1))
    (hf : 5 < rm.frames) (hlo : (st.map fun v => v.category).sum + 82 ≤ rm.locals) (h1 : cn + 1 ≤ rm.cells) (h2 : sn + 6 ≤ rm.slots) (hq : X nsE ws) : Ev K G nL cn sn pc lv st ws := by
  obtain ⟨p, e, R, s, m, args, below, meth, c, Qf⟩ := K
  intro H ls locs hl hP hD hS
  obtain ⟨hx, hb, hml, hown, hts, hr, hlk, hK, hbs, hO, hxx, hR, hst⟩ := C
  obtain ⟨rfl, hxt⟩ := F
  subst hR
  obtain ⟨sa, hsa⟩ := hO.2.2.1 _ hs
  exact vx_throwNW (text := tx) (sa := sa) (A := bA (gb G)) hx hb hst hown (hts _ hk) (hts _ hini) hsa (x_wordsN hO hE (fun w hw => hts w (hgw w hw)) hbw) hot hO.1 hO.2.1 hS (by rw [hl.1, hml]) d0 d3 d4 d6 d9 (fun x hx => absurd (hxt x hx) id) hf hlo h1 h2 hlk
    (fun t ha hz hk => ⟨ws, trivial, ⟨hq, va_P.grown hP hk, hD⟩, Nat.le_trans hS.1 hz, fun q h1 h2 => by rw [hk q (Nat.lt_of_lt_of_le h1 hS.1)]; exact hS.2.1 q h1 h2⟩) hS.2.2 h1 h2
end RET
section RUN
variable {K : Kx} {G : Gx} {cc : ByteArray} {nL cn sn pc pc' : Nat} {own : String} {ret : Option FieldType} {Ts : List Cond} {rm : Room} {lv lv' : List (Option Value)} {st pst : List Value} {ws : va_W}
variable {y : MethodName} {wy wy' : List Cond} {rm' : Room} {bytes : ByteArray} {maxL ix n ci b : Nat} {ret' : Option FieldType} {As : List Value} {Qc : Array Value → State → Outcome → State → Prop} {X : String → va_W → Prop} {CN : String} {q : vw_C}
def Rn (K : Kx) (G : Gx) (nL cn sn pc : Nat) (lv : List (Option Value)) (pst st : List Value) (ws : va_W) (mc ms : Nat) (as : List Value) (Qc : Array Value → State → Outcome → State → Prop) : Prop := match K with
  | (p, e, R, s, m, args, below, meth, c, Q) => ∀ (H : Heap) (ls : Array Slot) (locs : List Loc), LH ls nL lv → va_P (gD G) vwCl ws H → va_D (bA (gb G)) ws → va_S (bA (gb G)) s.heap H locs → va_Run p (gl G) e R s m args below meth c H locs cn sn mc ms (F0 m pc ls pst) st (Qc as.toArray) (bA (gb G))
def Rx (K : Kx) (G : Gx) (nL cn sn pc : Nat) (lv : List (Option Value)) (pst st : List Value) (ws : va_W) (mc ms : Nat) (as : List Value) (Qc : Array Value → State → Outcome → State → Prop) (X : String → va_W → Prop) : Prop := match K with
  | (p, e, R, s, m, args, below, meth, c, Q) => ∀ (H : Heap) (ls : Array Slot) (locs : List Loc), LH ls nL lv → va_P (gD G) vwCl ws H → va_D (bA (gb G)) ws → va_S (bA (gb G)) s.heap H locs → vx_Run p (gl G) e R s m args below meth c H locs cn sn mc ms (F0 m pc ls pst) st (Qc as.toArray) (QtX G X) (bA (gb G))
theorem Wd.at_call {G : Gx} {ws : va_W} {s U : State} {H : Heap} {locs : List Loc} (hbs : gb G ≤ s.heap.size) (hK : va_K (gD G) vwCl (tyl (gc G)) s) (hO : Old G s s.heap) (hP : va_P (gD G) vwCl ws H) (hD : va_D (bA (gb G)) ws) (hS : va_S (bA (gb G)) s.heap H locs) (ht : U.heap = H) (hW : s.WarmedH U.vm) : Wd G ws U := Wd.at_end hbs hK hO hP hD hS ht hW
theorem run_V (C : Cx K G cc nL own ret Ts rm) (hM : Mt G y wy rm' (.ref b :: As) ws Qc) (hG : GoodIn Ts (wsV own ix CN y wy)) (hw : wy = Cond.code y bytes maxL ret' :: wy')
    (hd : y.cls = CN ∧ y.cls ≠ "java/lang/invoke/MethodHandle" ∧ y.cls ≠ "java/lang/invoke/VarHandle" ∧ (parseMethodDescriptor y.desc).map (fun d => d.parameters.length) = some n) (hR : rm'.frames + 1 ≤ rm.frames ∧ 8 + (maxL + 11) + rm'.locals ≤ rm.locals)
    (hc : vwCl[ci]? = some q) (hq : q.1 = CN) (hv : qV ci b ws) (hn : As.length = n) (hst9 : (st.map fun v => v.category).sum ≤ 8) (d : decode cc pc = .ok (.invokevirtual ix, 3)) (hcs : cn + rm'.cells ≤ rm.cells ∧ sn + rm'.slots ≤ rm.slots) (hp : pst = As.reverse ++ .ref b :: st) : Rn K G nL cn sn pc lv pst st ws rm'.cells rm'.slots (.ref b :: As) Qc := by
  obtain ⟨p, e, R, s, m, args, below, meth, c, Qf⟩ := K
  intro H ls locs hl hP hD hS
  obtain ⟨hx, hb, hml, hown, hts, hr, hlk, hK, hbs, hO, hxt, hRr, hst⟩ := C
  subst hRr; subst hq
  obtain ⟨k, fs, hk⟩ := hv
  exact va_runV (As := As) (rest := st) ⟨hx, hb, hml, hown, hts⟩ hM (cwV n hts hG hw rfl rfl hd hR) ⟨Wd.blind, va_recv hK hP hc hk, fun U hU hW => ⟨rfl, Wd.at_call hbs hK hO hP hD hS hU hW⟩⟩ rfl hn hl.1 hp (lv_room hst9) d hcs
theorem run_S (C : Cx K G cc nL own ret Ts rm) (hM : Mt G y wy rm' As ws Qc) (hG : GoodIn Ts (wsS own ix y wy)) (hw : wy = Cond.code y bytes maxL ret' :: wy')
    (hd : y.cls = own ∧ y.cls ≠ "java/lang/invoke/MethodHandle" ∧ y.cls ≠ "java/lang/invoke/VarHandle" ∧ (parseMethodDescriptor y.desc).map (fun d => d.parameters.length) = some n) (hR : rm'.frames + 1 ≤ rm.frames ∧ 8 + (maxL + 11) + rm'.locals ≤ rm.locals)
    (hn : As.length = n) (hst9 : (st.map fun v => v.category).sum ≤ 8) (d : decode cc pc = .ok (.invokestatic ix, 3)) (hcs : cn + rm'.cells ≤ rm.cells ∧ sn + rm'.slots ≤ rm.slots) (hp : pst = As.reverse ++ st) : Rn K G nL cn sn pc lv pst st ws rm'.cells rm'.slots As Qc := by
  obtain ⟨p, e, R, s, m, args, below, meth, c, Qf⟩ := K
  intro H ls locs hl hP hD hS
  obtain ⟨hx, hb, hml, hown, hts, hr, hlk, hK, hbs, hO, hxt, hRr, hst⟩ := C
  subst hRr
  exact va_runS (As := As) (rest := st) ⟨hx, hb, hml, hown, hts⟩ hM (cwS n hts hG hw rfl rfl hd hR) ⟨Wd.blind, fun U hU hW => ⟨rfl, Wd.at_call hbs hK hO hP hD hS hU hW⟩⟩ rfl hn hl.1 hp (lv_room hst9) d hcs
theorem run_SN (C : Cx K G cc nL own ret Ts rm) (hM : Mt G y wy rm' As ws Qc) (hG : GoodIn Ts wy) (hw : wy = Cond.code y bytes maxL ret' :: wy') (hne : (own, ix, y) ∈ xnst) (hini : Cond.initialized y.cls ∈ Ts) (hstc : Cond.static y ∈ Ts)
    (hd : y.cls ≠ "java/lang/invoke/MethodHandle" ∧ y.cls ≠ "java/lang/invoke/VarHandle" ∧ (parseMethodDescriptor y.desc).map (fun d => d.parameters.length) = some n) (hR : rm'.frames + 1 ≤ rm.frames ∧ 8 + (maxL + 11) + rm'.locals ≤ rm.locals)
    (hn : As.length = n) (hst9 : (st.map fun v => v.category).sum ≤ 8) (d : decode cc pc = .ok (.invokestatic ix, 3)) (hcs : cn + rm'.cells ≤ rm.cells ∧ sn + rm'.slots ≤ rm.slots) (hp : pst = As.reverse ++ st) : Rn K G nL cn sn pc lv pst st ws rm'.cells rm'.slots As Qc := by
  obtain ⟨p, e, R, s, m, args, below, meth, c, Qf⟩ := K
  intro H ls locs hl hP hD hS
  obtain ⟨hx, hb, hml, hown, hts, hr, hlk, hK, hbs, hO, hxt, hRr, hst⟩ := C
  subst hRr
  exact va_runSN (As := As) (rest := st) (host := RX6) ⟨hx, hb, hml, hown, hts⟩ hM ⟨va_cnB n hts hG hw rfl rfl (hO.2.2.2.2.2.2.2.1 _ hne) (hts _ hini) hd hR, hts _ hstc, trivial⟩ ⟨Wd.blind, fun U hU hW => ⟨rfl, Wd.at_call hbs hK hO hP hD hS hU hW⟩⟩ rfl hn hl.1 hp (lv_room hst9) d hcs
theorem run_IN (C : Cx K G cc nL own ret Ts rm) (hM : Mt G y wy rm' (.ref b :: As) ws Qc) (hG : GoodIn Ts wy) (hw : wy = Cond.code y bytes maxL none :: wy') (hne : (own, ix, y) ∈ xnst) (hini : Cond.initialized y.cls ∈ Ts) (hy1 : y.name = "<init>") (hins : Cond.instanceMethod y ∈ Ts)
    (hd : y.cls ≠ "java/lang/invoke/MethodHandle" ∧ y.cls ≠ "java/lang/invoke/VarHandle" ∧ (parseMethodDescriptor y.desc).map (fun d => d.parameters.length) = some n) (hR : rm'.frames + 1 ≤ rm.frames ∧ 8 + (maxL + 11) + rm'.locals ≤ rm.locals)
    (hn : As.length = n) (hst9 : (st.map fun v => v.category).sum ≤ 8) (d : decode cc pc = .ok (.invokespecial ix, 3)) (hcs : cn + rm'.cells ≤ rm.cells ∧ sn + rm'.slots ≤ rm.slots) (hp : pst = As.reverse ++ .ref b :: st) : Rn K G nL cn sn pc lv pst st ws rm'.cells rm'.slots (.ref b :: As) Qc := by
  obtain ⟨p, e, R, s, m, args, below, meth, c, Qf⟩ := K
  intro H ls locs hl hP hD hS
  obtain ⟨hx, hb, hml, hown, hts, hr, hlk, hK, hbs, hO, hxt, hRr, hst⟩ := C
  subst hRr
  exact va_runIN (As := As) (rest := st) (host := RX6) ⟨hx, hb, hml, hown, hts⟩ hM ⟨va_cnB n hts hG hw rfl rfl (hO.2.2.2.2.2.2.2.1 _ hne) (hts _ hini) hd hR, hy1, hts _ hins⟩ ⟨Wd.blind, fun U hU hW => ⟨rfl, Wd.at_call hbs hK hO hP hD hS hU hW⟩⟩ rfl hn hl.1 hp (lv_room hst9) d hcs
theorem run_XV (C : Cx K G cc nL own ret Ts rm) (hM : Xt G y wy rm' (.ref b :: As) ws Qc X) (hG : GoodIn Ts (wsV own ix CN y wy)) (hw : wy = Cond.code y bytes maxL ret' :: wy')
    (hd : y.cls = CN ∧ y.cls ≠ "java/lang/invoke/MethodHandle" ∧ y.cls ≠ "java/lang/invoke/VarHandle" ∧ (parseMethodDescriptor y.desc).map (fun d => d.parameters.length) = some n) (hR : rm'.frames + 1 ≤ rm.frames ∧ 8 + (maxL + 11) + rm'.locals ≤ rm.locals)
    (hc : vwCl[ci]? = some q) (hq : q.1 = CN) (hv : qV ci b ws) (hn : As.length = n) (hst9 : (st.map fun v => v.category).sum ≤ 8) (d : decode cc pc = .ok (.invokevirtual ix, 3)) (hcs : cn + rm'.cells ≤ rm.cells ∧ sn + rm'.slots ≤ rm.slots) (hp : pst = As.reverse ++ .ref b :: st) : Rx K G nL cn sn pc lv pst st ws rm'.cells rm'.slots (.ref b :: As) Qc X := by
  obtain ⟨p, e, R, s, m, args, below, meth, c, Qf⟩ := K
  intro H ls locs hl hP hD hS
  obtain ⟨hx, hb, hml, hown, hts, hr, hlk, hK, hbs, hO, hxt, hRr, hst⟩ := C
  subst hRr; subst hq
  obtain ⟨k, fs, hk⟩ := hv
  exact vx_runV (As := As) (rest := st) ⟨hx, hb, hml, hown, hts⟩ hM (cwV n hts hG hw rfl rfl hd hR) ⟨Wd.blind, va_recv hK hP hc hk, fun U hU hW => ⟨rfl, Wd.at_call hbs hK hO hP hD hS hU hW⟩⟩ rfl hn hl.1 hp (lv_room hst9) d hcs
variable {mc ms cn' sn' : Nat} {as : List Value}
theorem e_calli {Q : Int32 → va_W → Prop} (h : Rn K G nL cn sn pc lv pst st ws mc ms as (QtI G Q)) (hn : pc + 3 = pc') (h1 : cn + mc = cn') (h2 : sn + ms = sn') (kk : ∀ r u, Q r u → Ev K G nL cn' sn' pc' lv (.int r :: st) u) : Ev K G nL cn sn pc lv pst ws := by
  obtain ⟨p, e, R, s, m, args, below, meth, c, Qf⟩ := K
  intro H ls locs hl hP hD hS
  subst hn; subst h1; subst h2
  exact va_calli (h H ls locs hl hP hD hS) hS (fun q _ h => h) (fun q h => h) (fun r u t H1 locs1 ht hvm hw hB hz1 hk1 hS1 => kk r u hw H1 ls locs1 hl (by rw [← ht]; exact hB.2.1) hB.2.2.2.1 hS1)
theorem e_calll {Q : Int64 → va_W → Prop} (h : Rn K G nL cn sn pc lv pst st ws mc ms as (QtL G Q)) (hn : pc + 3 = pc') (h1 : cn + mc = cn') (h2 : sn + ms = sn') (kk : ∀ r u, Q r u → Ev K G nL cn' sn' pc' lv (.long r :: st) u) : Ev K G nL cn sn pc lv pst ws := by
  obtain ⟨p, e, R, s, m, args, below, meth, c, Qf⟩ := K
  intro H ls locs hl hP hD hS
  subst hn; subst h1; subst h2
  exact va_calll (h H ls locs hl hP hD hS) hS (fun q _ h => h) (fun q h => h) (fun r u t H1 locs1 ht hvm hw hB hz1 hk1 hS1 => kk r u hw H1 ls locs1 hl (by rw [← ht]; exact hB.2.1) hB.2.2.2.1 hS1)
theorem e_callv {Q : va_W → Prop} (h : Rn K G nL cn sn pc lv pst st ws mc ms as (QtV G Q)) (hn : pc + 3 = pc') (h1 : cn + mc = cn') (h2 : sn + ms = sn') (kk : ∀ u, Q u → Ev K G nL cn' sn' pc' lv st u) : Ev K G nL cn sn pc lv pst ws := by
  obtain ⟨p, e, R, s, m, args, below, meth, c, Qf⟩ := K
  intro H ls locs hl hP hD hS
  subst hn; subst h1; subst h2
  exact va_callv (h H ls locs hl hP hD hS) hS (fun q _ h => h) (fun q h => h) (fun u t H1 locs1 ht hvm hw hB hz1 hk1 hS1 => kk u hw H1 ls locs1 hl (by rw [← ht]; exact hB.2.1) hB.2.2.2.1 hS1)
theorem e_xcalli {Q : Int32 → va_W → Prop} (h : Rx K G nL cn sn pc lv pst st ws mc ms as (QtI G Q) X) (hn : pc + 3 = pc') (h1 : cn + mc = cn') (h2 : sn + ms = sn') (kx : ∀ E u, X E u → XEv K G nL cn' sn' pc lv st E u) (kk : ∀ r u, Q r u → Ev K G nL cn' sn' pc' lv (.int r :: st) u) : Ev K G nL cn sn pc lv pst ws := by
  obtain ⟨p, e, R, s, m, args, below, meth, c, Qf⟩ := K
  intro H ls locs hl hP hD hS
  subst hn; subst h1; subst h2
  exact vx_calli (h H ls locs hl hP hD hS) hS (fun q _ h => h) (fun q h => h) (fun q _ h => h) (fun E ce q9 u t H1 locs1 ht hvm _ hB hz1 hk1 hS1 h3 h4 h5 => kx E u hB.1 H1 ls locs1 q9 ce hl (by rw [← ht]; exact hB.2.1) hB.2.2 hS1 h3 h4 h5) (fun r u t H1 locs1 ht hvm hw hB hz1 hk1 hS1 => kk r u hw H1 ls locs1 hl (by rw [← ht]; exact hB.2.1) hB.2.2.2.1 hS1)
theorem e_xcallv {Q : va_W → Prop} (h : Rx K G nL cn sn pc lv pst st ws mc ms as (QtV G Q) X) (hn : pc + 3 = pc') (h1 : cn + mc = cn') (h2 : sn + ms = sn') (kx : ∀ E u, X E u → XEv K G nL cn' sn' pc lv st E u) (kk : ∀ u, Q u → Ev K G nL cn' sn' pc' lv st u) : Ev K G nL cn sn pc lv pst ws := by
  obtain ⟨p, e, R, s, m, args, below, meth, c, Qf⟩ := K
  intro H ls locs hl hP hD hS
  subst hn; subst h1; subst h2
  exact vx_callv (h H ls locs hl hP hD hS) hS (fun q _ h => h) (fun q h => h) (fun q _ h => h) (fun E ce q9 u t H1 locs1 ht hvm _ hB hz1 hk1 hS1 h3 h4 h5 => kx E u hB.1 H1 ls locs1 q9 ce hl (by rw [← ht]; exact hB.2.1) hB.2.2 hS1 h3 h4 h5) (fun u t H1 locs1 ht hvm hw hB hz1 hk1 hS1 => kk u hw H1 ls locs1 hl (by rw [← ht]; exact hB.2.1) hB.2.2.2.1 hS1)
theorem e_xcallr {Q : Nat → va_W → Prop} (h : Rx K G nL cn sn pc lv pst st ws mc ms as (QtR G Q) X) (hn : pc + 3 = pc') (h1 : cn + mc = cn') (h2 : sn + ms = sn') (kx : ∀ E u, X E u → XEv K G nL cn' sn' pc lv st E u) (kk : ∀ r u, Q r u → Ev K G nL cn' sn' pc' lv (.ref r :: st) u) : Ev K G nL cn sn pc lv pst ws := by
  obtain ⟨p, e, R, s, m, args, below, meth, c, Qf⟩ := K
  intro H ls locs hl hP hD hS
  subst hn; subst h1; subst h2
  intro T hT X9
  rcases h H ls locs hl hP hD hS T hT X9 with ⟨v, st₀, t, T', L, h0, X', hL, e1, e2, ⟨⟨u, ra, hv, hp, hb, hB⟩, hF⟩, sts⟩ | ⟨q, st₀, t, T', L, E, ce, h0, X', hL, e1, e2, ⟨u, hp, hb, hF⟩, hce, hcv, hcl, sts⟩
  · cases hv
    subst hb
    obtain ⟨k1, k2, k3⟩ := vx_keep h0 e1 hS (fun q _ h => h) (fun q h => h) hL hF
    obtain ⟨t2, a1, b1⟩ := kk u.1 u.2 hp T'.heap ls (locs ++ L) hl (by rw [e1]; exact hB.2.1) hB.2.2.2.1 k3 T' rfl X'
    exact ⟨t2, sts t2 a1, b1⟩
  · obtain ⟨k1, k2, k3⟩ := vx_keep h0 e1 hS (fun q _ h => h) (fun q h => h) hL hF
    obtain ⟨t2, a1, b1⟩ := kx E u hb.1 T'.heap ls (locs ++ L) q ce hl (by rw [e1]; exact hb.2.1) hb.2.2 k3 (by rw [e1]; exact hce) hcv hcl T' rfl X'
    exact ⟨t2, sts.trans a1, b1⟩
end RUN
