/-! ===== catching behind rows that don't take it (the rows' classes may be unresolved yet) ===== -/
section CT
/-- one row of the table that covers the place: its class is noted; it takes the exception, or the search goes on -/
theorem ct_row {Q : Handler → Pre} {E : CtlPost} {e : Env} {d : Bool} {acts : List Action} {S : State} {f : JFrame} {a : Addr} {x : ExceptionTableEntry} {t : List ExceptionTableEntry} {k : ClassId} {ce : Cell} {b : Bool}
    (hcov : covers x f.pc = true) (hct : x.catchType ≠ 0) (hlk : S.vm.ClassLinks e.platform f.method.cls x.catchType k) (hce : S.heap[a]? = some ce) (hst : ∀ z, ce.vm ≠ .statics z)
    (h1 : ∃ z, S.vm.classes[ce.cls]? = some z) (h2 : ∃ z, S.vm.classes[k]? = some z) (hb : S.vm.assignable ce.cls k = b) :
    wp (findHandler.go f a (x :: t)) Q E e d acts S ↔ (if b then Q (.found x.handlerPc) d acts (S.setVm (S.vm.noted f.method.cls x.catchType (.cls k))) else wp (findHandler.go f a t) Q E e d acts (S.setVm (S.vm.noted f.method.cls x.catchType (.cls k)))) := by
  simp only [covers] at hcov
  obtain ⟨r1, r2⟩ := (resolveClass_links e.toSetting hlk).op (op := VmOp.resolveClass f.method.cls x.catchType) rfl
  have al : S.vm.Alike (S.vm.noted f.method.cls x.catchType (.cls k)) := (Vm.Alike.refl S.vm).noted _ _ _
  obtain ⟨z1, g1⟩ := h1
  obtain ⟨z2, g2⟩ := h2
  obtain ⟨y1, w1, -⟩ := al.2.2 _ _ g1
  obtain ⟨y2, w2, -⟩ := al.2.2 _ _ g2
  have hb' : (S.vm.noted f.method.cls x.catchType (.cls k)).assignable ce.cls k = b := by rw [al.assignable]; exact hb
  cases b <;> simp [findHandler.go, hcov, hct, r1, r2, hce, hst, w1, w2, hb', VmOp.dirties, VmOp.acts]
/-- the search over the rows ahead, which don't take it, up to the row that does -/
theorem ct_find {e : Env} {s₀ : State} {f : JFrame} {a : Addr} {ce : Cell} (hst : ∀ z, ce.vm ≠ .statics z) (h1 : ∃ z, s₀.vm.classes[ce.cls]? = some z) (x : ExceptionTableEntry) (suf : List ExceptionTableEntry) (hcov : covers x f.pc = true) (hct : x.catchType ≠ 0)
    {k : ClassId} (hlk : s₀.vm.ClassLinks e.platform f.method.cls x.catchType k) (has : s₀.vm.assignable ce.cls k = true) (pre : List ExceptionTableEntry) :
    ∀ S : State, s₀.WarmedH S.vm → S.heap[a]? = some ce → (∀ z ∈ pre, covers z f.pc = false ∨ (z.catchType ≠ 0 ∧ ∃ c, s₀.vm.ClassLinks e.platform f.method.cls z.catchType c ∧ s₀.vm.assignable ce.cls c = false)) →
      ∃ vm', s₀.WarmedH vm' ∧ ∀ (Q : Handler → Pre) (E : CtlPost) (d : Bool) (acts : List Action), wp (findHandler.go f a (pre ++ x :: suf)) Q E e d acts S ↔ Q (.found x.handlerPc) d acts (S.setVm vm') := by
  have step : ∀ (S : State) (z : ExceptionTableEntry) (c : ClassId), s₀.WarmedH S.vm → s₀.vm.ClassLinks e.platform f.method.cls z.catchType c → (∃ q, S.vm.classes[ce.cls]? = some q) ∧ (∃ q, S.vm.classes[c]? = some q) ∧ s₀.WarmedH (S.vm.noted f.method.cls z.catchType (.cls c)) := by
    intro S z c hW hl
    obtain ⟨z1, g1⟩ := h1
    obtain ⟨y1, w1, -⟩ := hW.alike.2.2 _ _ g1
    obtain ⟨dk, _, _, kt, hd, _, _, _, _, hkt, _, ho⟩ := hl.here
    obtain ⟨y2, w2, -⟩ := hW.alike.2.2 _ _ hkt
    exact ⟨⟨y1, w1⟩, ⟨y2, w2⟩, hW.noted hd ho (State.rightAt_cls hl)⟩
  induction pre with
  | nil =>
    intro S hW hce _
    obtain ⟨q1, q2, q3⟩ := step S x k hW hlk
    refine ⟨_, q3, fun Q E d acts => ?_⟩
    rw [List.nil_append, ct_row hcov hct (hW.classLinks hlk) hce hst q1 q2 (b := true) (by rw [hW.alike.assignable]; exact has)]
    simp
  | cons z zs ih =>
    intro S hW hce hp
    have hp' := fun w hw => hp w (List.mem_cons_of_mem _ hw)
    by_cases hc : covers z f.pc = true
    · rcases hp z List.mem_cons_self with h | ⟨hz, c, hl, hno⟩
      · rw [h] at hc; cases hc
      · obtain ⟨q1, q2, q3⟩ := step S z c hW hl
        obtain ⟨vm', hW', hq⟩ := ih (S.setVm (S.vm.noted f.method.cls z.catchType (.cls c))) q3 hce hp'
        refine ⟨vm', hW', fun Q E d acts => ?_⟩
        rw [List.cons_append, ct_row hc hz (hW.classLinks hl) hce hst q1 q2 (b := false) (by rw [hW.alike.assignable]; exact hno)]
        simp only [Bool.false_eq_true, if_false]
        exact hq Q E d acts
    · obtain ⟨vm', hW', hq⟩ := ih S hW hce hp'
      refine ⟨vm', hW', fun Q E d acts => ?_⟩
      rw [List.cons_append, W.findHandler_go_skip (by simpa using hc)]
      exact hq Q E d acts
variable {p : Program} {l : Launch} {e : Env} {R : Room} {s : State} {m : MethodId} {args : Array Value} {below : List Frame} {meth : Method} {c : Code} {H : Heap} {locs : List Loc} {cells slots : Nat} {Q : State → Prop} {pc : Nat} {ls : Array Slot} {rest : List Value}
/-- the walk goes on at the handler of the row that takes it -/
theorem ct_catch {own name E : String} {ce : Cell} {q : Addr} (hown : s.vm.findClass own = some m.cls) (pre : List ExceptionTableEntry) (x : ExceptionTableEntry) (suf : List ExceptionTableEntry) (hsplit : c.exceptionTable.toList = pre ++ x :: suf)
    (hpass : ∀ z ∈ pre, z.catchType ≠ 0 ∧ ∃ nm : String, (Cond.classLink own z.catchType nm).before args s = true ∧ va_Nc E nm s) (hx : covers x pc = true) (h0 : x.catchType ≠ 0)
    (hlink : (Cond.classLink own x.catchType name).before args s = true) (hcast : (Cond.castable E name).before args s = true) (hcell : H[q]? = some ce) (hv : ce.vm = .none) (hcl : s.vm.findClass E = some ce.cls)
    (kk : W p l e R s m args below meth c H locs cells slots Q (F0 m x.handlerPc ls [.ref q])) : vx_W p l e R s m args below meth c H locs cells slots Q (F0 m pc ls rest) q := by
  intro T hT X
  have hpl : e.platform.magicAccessors = ({} : Platform).magicAccessors := by rw [X.admits.platform]
  obtain ⟨c3, c4, g3, g4, has⟩ := Cond.castable_spec hcast
  cases Option.some.inj (g3.symm.trans hcl)
  obtain ⟨c5, g5, hl5⟩ := Cond.classLink_spec hown hlink e.platform hpl
  cases Option.some.inj (g4.symm.trans g5)
  obtain ⟨k9, g9, -⟩ := Vm.findClass_spec hcl
  obtain ⟨vm', hW', hf⟩ := ct_find (e := e) (s₀ := s) (f := F0 m pc ls rest) (a := q) (ce := ce) (fun z h => by rw [hv] at h; cases h) ⟨k9, g9⟩ x suf hx h0 hl5 has pre ((T.setTop (F0 m pc ls rest)).pushFrame (.throwing q)) X.warmed (by show T.heap[q]? = some ce; rw [hT]; exact hcell)
    (fun z hz => by
      obtain ⟨hz0, nm, hl1, a8, b8, n1, n2, n3⟩ := hpass z hz
      obtain ⟨c6, g6, hl6⟩ := Cond.classLink_spec hown hl1 e.platform hpl
      cases Option.some.inj (n1.symm.trans hcl)
      cases Option.some.inj (n2.symm.trans g6)
      exact Or.inr ⟨hz0, _, hl6, n3⟩)
  have hm : ((T.setTop (F0 m pc ls rest)).pushFrame (.throwing q)).vm.method? m = some meth := X.method'
  have hfind : ∀ (Q : Handler → Pre) (E : CtlPost) (d : Bool) (acts : List Action), wp (findHandler (F0 m pc ls rest) q) Q E e d acts ((T.setTop (F0 m pc ls rest)).pushFrame (.throwing q)) ↔ Q (.found x.handlerPc) d acts (((T.setTop (F0 m pc ls rest)).pushFrame (.throwing q)).setVm vm') := by
    intro Q E d acts
    rw [W.findHandler_eq hm X.code, hsplit]
    exact hf Q E d acts
  obtain ⟨t, a1, b1⟩ := kk (T.setVm vm') hT (X.noted hW')
  refine ⟨t, ?_, b1⟩
  obtain ⟨hgo, hw⟩ := X.here.throwing (g := F0 m pc ls rest) q
  refine Steps.head hgo hw ?_
  have hst : (stepThrowing e ((T.setTop (F0 m pc ls rest)).pushFrame (.throwing q)) q (.java (F0 m pc ls rest) :: T.frames.tail)).1 = (((T.setTop (F0 m pc ls rest)).pushFrame (.throwing q)).setVm vm').setFrames (.java (F0 m x.handlerPc ls [.ref q]) :: T.frames.tail) := by
    simp only [stepThrowing, searchFrame, vmDo]
    generalize hr : Sem.go _ e false [] _ = res
    obtain ⟨as, rfl, ha⟩ := Sem.eq_ok_of hr (a := Handler.found x.handlerPc) (s' := ((T.setTop (F0 m pc ls rest)).pushFrame (.throwing q)).setVm vm') (acts' := []) (by simp [hfind _ _ _ _])
    rfl
  rw [stepThread_throwing (frames_entered X.here.top _), hst]
  obtain ⟨g₀, hg⟩ := Option.isSome_iff_exists.mp X.here.top
  obtain ⟨r, hr⟩ := State.topJava?_eq_some.mp hg
  have hr' : (T.setVm vm').frames = .java g₀ :: r := hr
  rw [State.setTop_of_frames _ hr'] at a1
  have key : ∀ F1 F2 : List Frame, ((T.setFrames F1).setVm vm').setFrames F2 = (T.setVm vm').setFrames F2 := by
    intro F1 F2
    have e1 : (T.setFrames F1).setVm vm' = (T.setVm vm').setFrames F1 := rfl
    rw [e1, State.setFrames_setFrames]
  rw [hr, List.tail_cons, State.pushFrame, State.setTop_of_frames _ hr, State.setFrames_setFrames, key]
  exact a1
end CT
