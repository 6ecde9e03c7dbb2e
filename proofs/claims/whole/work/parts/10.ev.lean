/-- the messages of the exceptions, by their places -/
def xstr : List (String × Nat × String) := [(RX6, 91, "there are 8 channels"), (RX6, 264, "the law has no such thing"), (RX6, 145, "years are none"), (RX6, 224, "minutes are none"), (RX6, 229, "the minute is below 0"), (RX6, 306, "there is no such channel"), (RX6, 322, "there is no such share"), (RX6, 315, "the channel is dug"), (RX6, 318, "the channel is not dug"), (RX6, 324, "the share is let"), (RX6, 320, "there is no such well"), (RX6, 81, "head or slope is none"), (RX6, 121, "owner or days are none"), (RX6, 267, "owner or costs are none"), (RX6, 279, "a number of the field is none"), (RX6, 253, "the text is wrong"), (RX6, 179, "owner or part is none"), (RX6, 102, "place or floor is none"), (RX6, 212, "the other one or the time is none"), (RX6, 107, "the channel has 20 wells"), (RX6, 198, "many, an owner or a part is none"), (RX6, 243, "a share has no such thing"), (RX6, 181, "more than 60 shares")]
def wTx : List String := ["distance", "depth", "free", "repair", "heads", "hours"]
def wLen : List Nat := [8, 5, 4, 6, 5, 5]
def wByt : List (List Int32) := [[100, 105, 115, 116, 97, 110, 99, 101], [100, 101, 112, 116, 104], [102, 114, 101, 101], [114, 101, 112, 97, 105, 114], [104, 101, 97, 100, 115], [104, 111, 117, 114, 115]]
def wX3 : List Nat := [48, 58, 60, 62, 67, 69]
def wX7 : List Nat := [203, 212, 214, 216, 218, 220]
/-! ===== the world of all methods, and the judgement Ev over it ===== -/
/-- what all methods share: the launch, the classes' numbers, where the new cells begin, the array classes, the words' places -/
abbrev Gx : Type := Launch × va_G × Nat × (Nat → ClassId) × (Nat → Nat) × (Nat → Nat)
/-- where a walk stands: program, env, room, start, method .. , what is owed at its end -/
abbrev Kx : Type := Program × Env × Room × State × MethodId × Array Value × List Frame × Method × Code × (State → Prop)
def gl (G : Gx) : Launch := G.1
def gD (G : Gx) : va_G := G.2.1
def gb (G : Gx) : Nat := G.2.2.1
def gc (G : Gx) : Nat → ClassId := G.2.2.2.1
def gk (G : Gx) : Nat → Nat := G.2.2.2.2.1
def gv (G : Gx) : Nat → Nat := G.2.2.2.2.2
def tyl (cy : Nat → ClassId) : List (ClassId × FieldType) := [(cy 0, .byte), (cy 1, .int), (cy 2, .boolean), (cy 3, .object "DesertChannels$Channel"), (cy 4, .object "DesertChannels$Share"), (cy 5, .long)]
def bA (base : Nat) : Nat → Prop := fun q => base ≤ q
/-- a slot's known value, by its place -/
def LH (ls : Array Slot) (nL : Nat) (lv : List (Option Value)) : Prop := ls.size = nL ∧ lv_wf ls ∧ ∀ (i : Nat) (v : Value), lv[i]? = some (some v) → ls[i]? = some (.val v)
def lps : Nat → List (Option Value) → List (Nat × Value)
  | _, [] => []
  | i, none :: t => lps (i + 1) t
  | i, some v :: t => (i, v) :: lps (i + 1) t
theorem mem_lps : ∀ (lv : List (Option Value)) (i j : Nat) (v : Value), (j, v) ∈ lps i lv ↔ ∃ k, j = i + k ∧ lv[k]? = some (some v) := by
  intro lv
  induction lv with
  | nil => intro i j v; simp [lps]
  | cons o t ih =>
    intro i j v
    cases o with
    | none =>
      rw [lps, ih]
      constructor
      · rintro ⟨k, h1, h2⟩; exact ⟨k + 1, by omega, by simpa using h2⟩
      · rintro ⟨k, h1, h2⟩
        cases k with
        | zero => simp at h2
        | succ k => exact ⟨k, by omega, by simpa using h2⟩
    | some w =>
      rw [lps, List.mem_cons, ih]
      constructor
      · rintro (h | ⟨k, h1, h2⟩)
        · obtain ⟨rfl, rfl⟩ := Prod.mk.inj h; exact ⟨0, by omega, by simp⟩
        · exact ⟨k + 1, by omega, by simpa using h2⟩
      · rintro ⟨k, h1, h2⟩
        cases k with
        | zero => left; simp at h2; subst h2; simp at h1; rw [h1]
        | succ k => right; exact ⟨k, by omega, by simpa using h2⟩
theorem LH.has {ls : Array Slot} {nL : Nat} {lv : List (Option Value)} (h : LH ls nL lv) : lv_has ls nL (lps 0 lv) := by
  refine ⟨h.1, h.2.1, fun q hq => ?_⟩
  obtain ⟨k, h1, h2⟩ := (mem_lps lv 0 q.1 q.2).mp hq
  have e : q.1 = k := by omega
  rw [e]; exact h.2.2 k q.2 h2
def lcat (lv : List (Option Value)) (j : Nat) : Nat := match lv[j]? with
  | some (some v) => v.category
  | _ => 0
def lclr (lv : List (Option Value)) : Nat → List (Option Value)
  | 0 => lv
  | j + 1 => if lcat lv j = 2 then lv.set j none else lv
def lset (lv : List (Option Value)) (i : Nat) (v : Value) : List (Option Value) := (lclr lv i).set i (some v)
def lsetL (lv : List (Option Value)) (i : Nat) (v : Value) : List (Option Value) := ((lclr lv i).set i (some v)).set (i + 1) none
theorem lclr_at {lv : List (Option Value)} {i j : Nat} {v : Value} (h : (lclr lv i)[j]? = some (some v)) : lv[j]? = some (some v) ∧ ¬ (j + 1 = i ∧ v.category = 2) := by
  cases i with
  | zero => exact ⟨h, by omega⟩
  | succ i =>
    change (if lcat lv i = 2 then lv.set i none else lv)[j]? = some (some v) at h
    by_cases hc : lcat lv i = 2
    · rw [if_pos hc, List.getElem?_set] at h
      by_cases e : i = j
      · rw [if_pos e] at h
        split at h <;> simp at h
      · rw [if_neg e] at h
        exact ⟨h, by omega⟩
    · rw [if_neg hc] at h
      refine ⟨h, fun ⟨e, hv⟩ => hc ?_⟩
      have e2 : j = i := by omega
      subst e2
      show (match lv[j]? with
        | some (some v) => v.category
        | _ => 0) = 2
      rw [h]; exact hv
theorem lset_at {lv : List (Option Value)} {i j : Nat} {x v : Value} (h : (lset lv i x)[j]? = some (some v)) : (j = i ∧ v = x) ∨ (j ≠ i ∧ lv[j]? = some (some v) ∧ ¬ (j + 1 = i ∧ v.category = 2)) := by
  unfold lset at h
  rw [List.getElem?_set] at h
  split at h
  · rename_i e
    split at h
    · left; simp at h; exact ⟨e.symm, h.symm⟩
    · simp at h
  · rename_i e
    right
    have := lclr_at h
    exact ⟨fun q => e q.symm, this.1, this.2⟩
theorem lsetL_at {lv : List (Option Value)} {i j : Nat} {x v : Value} (h : (lsetL lv i x)[j]? = some (some v)) : (j = i ∧ v = x) ∨ (j ≠ i ∧ j ≠ i + 1 ∧ lv[j]? = some (some v) ∧ ¬ (j + 1 = i ∧ v.category = 2)) := by
  unfold lsetL at h
  rw [List.getElem?_set] at h
  split at h
  · rename_i e
    split at h <;> simp at h
  · rename_i e
    rw [List.getElem?_set] at h
    split at h
    · rename_i e2
      split at h
      · left; simp at h; exact ⟨e2.symm, h.symm⟩
      · simp at h
    · rename_i e2
      right
      have := lclr_at h
      exact ⟨fun q => e2 q.symm, fun q => e q.symm, this.1, this.2⟩
theorem LH.put {ls : Array Slot} {nL i : Nat} {lv : List (Option Value)} {x : Value} (h : lv_has ls nL ((i, x) :: (lps 0 lv).filter (fun q => !(q.1 == i) && !(q.1 + 1 == i && q.2.category == 2)))) : LH ls nL (lset lv i x) := by
  refine ⟨h.1, h.2.1, fun j v hj => ?_⟩
  rcases lset_at hj with ⟨rfl, rfl⟩ | ⟨h1, h2, h3⟩
  · exact h.2.2 _ List.mem_cons_self
  · refine h.2.2 (j, v) (List.mem_cons_of_mem _ (List.mem_filter.mpr ⟨(mem_lps lv 0 j v).mpr ⟨j, by omega, h2⟩, ?_⟩))
    simp only [Bool.and_eq_true, Bool.not_eq_true', beq_eq_false_iff_ne, ne_eq, Bool.and_eq_false_iff]
    refine ⟨h1, ?_⟩
    by_cases e : j + 1 = i
    · right; intro hc; exact h3 ⟨e, hc⟩
    · left; exact e
theorem LH.putL {ls : Array Slot} {nL i : Nat} {lv : List (Option Value)} {x : Value} (h : lv_has ls nL ((i, x) :: (lps 0 lv).filter (fun q => !(q.1 == i) && (!(q.1 == i + 1) && !(q.1 + 1 == i && q.2.category == 2))))) : LH ls nL (lsetL lv i x) := by
  refine ⟨h.1, h.2.1, fun j v hj => ?_⟩
  rcases lsetL_at hj with ⟨rfl, rfl⟩ | ⟨h1, h1b, h2, h3⟩
  · exact h.2.2 _ List.mem_cons_self
  · refine h.2.2 (j, v) (List.mem_cons_of_mem _ (List.mem_filter.mpr ⟨(mem_lps lv 0 j v).mpr ⟨j, by omega, h2⟩, ?_⟩))
    simp only [Bool.and_eq_true, Bool.not_eq_true', beq_eq_false_iff_ne, ne_eq, Bool.and_eq_false_iff]
    refine ⟨h1, h1b, ?_⟩
    by_cases e : j + 1 = i
    · right; intro hc; exact h3 ⟨e, hc⟩
    · left; exact e
def xexc : List String := ["java/lang/IllegalArgumentException", "java/lang/IllegalStateException", "java/lang/IndexOutOfBoundsException", "java/lang/UnsupportedOperationException", "java/util/NoSuchElementException"]
def xnms : List String := ["java/lang/RuntimeException", "java/lang/Exception"]
def xdec : List MethodName := [Bundle.initS "java/lang/RuntimeException", Bundle.initS "java/lang/Exception", Bundle.initS Bundle.tN]
def xnst : List (String × Nat × MethodName) := [(RX6, 9, yX3_init), (RX6, 35, yX0_init), (RX6, 48, yX4_init), (RX6, 51, yX2_init), (RX6, 61, yX1_init), (RX2, 21, yX6_isWithin), (RX2, 25, yX6_isOwner), (RX2, 29, yX6_partOf), (RX3, 11, yX5_init), (RX3, 87, yX6_isWithin)]
/-- what lies outside our own cells and stays: Throwable's two statics; the texts; words of the tables that are no good ones -/
def Old (G : Gx) (U : State) (H : Heap) : Prop := vx_Zq Bundle.tN "UNASSIGNED_STACK" Bundle.steD (bA (gb G)) U H ∧ vx_Zq Bundle.tN "SUPPRESSED_SENTINEL" Bundle.listD (bA (gb G)) U H ∧ (∀ q ∈ xstr, ∃ a, vk_R q.1 q.2.1 q.2.2 a U) ∧
  vk_S 6 wLen wByt (gk G) (gv G) (bA (gb G)) U H ∧ (∀ i, i < 6 → vk_R RX3 (wX3.getD i 0) (wTx.getD i "") (gk G i) U ∧ vk_R RX7 (wX7.getD i 0) (wTx.getD i "") (gk G i) U) ∧
  (∀ E ∈ xexc, va_Nw (.castable E E) U) ∧ (∀ y ∈ xdec, va_Nw (.declares y) U) ∧ (∀ q ∈ xnst, va_Nw (.methodLinkNest q.1 q.2.1 q.2.2 RX6) U) ∧
  va_Z RJ0 "COMPACT_STRINGS" "Z" (.int 1) (bA (gb G)) U H ∧ va_Zq RJ3 "SIOOBE_FORMATTER" "Ljava/util/function/BiFunction;" (bA (gb G)) U H ∧ (∀ E ∈ xexc, ∀ E' ∈ xexc, E ≠ E' → va_Nc E E' U) ∧ va_AO RX0 U ∧ va_AO RX4 U
theorem Old.to {G : Gx} {s U : State} {H H' : Heap} (h : Old G s H) (hW : s.WarmedH U.vm) (hq : ∀ a : Nat, a < H.size → ¬ bA (gb G) a → H'[a]? = H[a]?) : Old G U H' :=
  ⟨(h.1.moved hW.alike).kept hq, (h.2.1.moved hW.alike).kept hq, fun q hq => by obtain ⟨a, ha⟩ := h.2.2.1 q hq; exact ⟨a, ha.warm hW⟩, (h.2.2.2.1.moved hW.alike).kept hq, fun i hi => ⟨(h.2.2.2.2.1 i hi).1.warm hW, (h.2.2.2.2.1 i hi).2.warm hW⟩,
   fun E hE => (h.2.2.2.2.2.1 E hE).warmC hW, fun y hy => (h.2.2.2.2.2.2.1 y hy).warmD hW, fun q hq => (h.2.2.2.2.2.2.2.1 q hq).warmM hW, (h.2.2.2.2.2.2.2.2.1.moved hW.alike).kept hq, (h.2.2.2.2.2.2.2.2.2.1.moved hW.alike).kept hq, fun E hE E' hE' hne => (h.2.2.2.2.2.2.2.2.2.2.1 E hE E' hE' hne).moved hW.alike, h.2.2.2.2.2.2.2.2.2.2.2.1.moved hW.alike, h.2.2.2.2.2.2.2.2.2.2.2.2.moved hW.alike⟩
theorem Old.same {G : Gx} {u U : State} {H : Heap} (h : Old G u H) (hv : U.vm = u.vm) : Old G U H :=
  ⟨h.1.moved (by rw [hv]; exact Vm.Alike.refl _), h.2.1.moved (by rw [hv]; exact Vm.Alike.refl _), fun q hq => by obtain ⟨a, ha⟩ := h.2.2.1 q hq; exact ⟨a, ha.same hv⟩, h.2.2.2.1.moved (by rw [hv]; exact Vm.Alike.refl _), fun i hi => ⟨(h.2.2.2.2.1 i hi).1.same hv, (h.2.2.2.2.1 i hi).2.same hv⟩,
   fun E hE => va_Nw.same rfl hv.symm (h.2.2.2.2.2.1 E hE), fun y hy => va_Nw.same rfl hv.symm (h.2.2.2.2.2.2.1 y hy), fun q hq => va_Nw.same rfl hv.symm (h.2.2.2.2.2.2.2.1 q hq), h.2.2.2.2.2.2.2.2.1.moved (by rw [hv]; exact Vm.Alike.refl _), h.2.2.2.2.2.2.2.2.2.1.moved (by rw [hv]; exact Vm.Alike.refl _), fun E hE E' hE' hne => (h.2.2.2.2.2.2.2.2.2.2.1 E hE E' hE' hne).moved (by rw [hv]; exact Vm.Alike.refl _), h.2.2.2.2.2.2.2.2.2.2.2.1.moved (by rw [hv]; exact Vm.Alike.refl _), h.2.2.2.2.2.2.2.2.2.2.2.2.moved (by rw [hv]; exact Vm.Alike.refl _)⟩
/-- a state's heap holds the cells ws, all of them new, over the old things -/
def Wd (G : Gx) (ws : va_W) (U : State) : Prop := gb G ≤ U.heap.size ∧ va_P (gD G) vwCl ws U.heap ∧ va_K (gD G) vwCl (tyl (gc G)) U ∧ va_D (bA (gb G)) ws ∧ Old G U U.heap
theorem Wd.blind {G : Gx} {ws : va_W} {as : List Value} : FrameBlind (va_Pc as (Wd G ws)) := by
  intro a U g mk ⟨h0, h1, h2, h3, h4, h5⟩
  exact ⟨h0, h1, h2, va_K.moved (u := U) (U := U.calling g mk a) (Vm.Alike.refl U.vm) h3, h4, h5.same rfl⟩
def Cx (K : Kx) (G : Gx) (cc : ByteArray) (nL : Nat) (own : String) (ret : Option FieldType) (Ts : List Cond) (rm : Room) : Prop := match K with
  | (p, _, R, s, m, args, _, meth, c, _) => p.tables.exec = Jvm.exec ∧ c.code = cc ∧ c.maxLocals = nL ∧ s.vm.findClass own = some m.cls ∧ (∀ w ∈ Ts, w.before args s = true) ∧ meth.sig.returnType = ret ∧ meth.locks = false ∧ va_K (gD G) vwCl (tyl (gc G)) s ∧ gb G ≤ s.heap.size ∧ Old G s s.heap ∧ True ∧ R = rm ∧ (gl G).stackTraces = false
def Ev (K : Kx) (G : Gx) (nL cn sn pc : Nat) (lv : List (Option Value)) (st : List Value) (ws : va_W) : Prop := match K with
  | (p, e, R, s, m, args, below, meth, c, Q) => ∀ (H : Heap) (ls : Array Slot) (locs : List Loc), LH ls nL lv → va_P (gD G) vwCl ws H → va_D (bA (gb G)) ws → va_S (bA (gb G)) s.heap H locs → W p (gl G) e R s m args below meth c H locs cn sn Q (F0 m pc ls st)
/-- where an exception of class E comes out of a call at pc -/
def XEv (K : Kx) (G : Gx) (nL cn sn pc : Nat) (lv : List (Option Value)) (st : List Value) (E : String) (ws : va_W) : Prop := match K with
  | (p, e, R, s, m, args, below, meth, c, Q) => ∀ (H : Heap) (ls : Array Slot) (locs : List Loc) (q : Addr) (ce : Cell), LH ls nL lv → va_P (gD G) vwCl ws H → va_D (bA (gb G)) ws → va_S (bA (gb G)) s.heap H locs → H[q]? = some ce → ce.vm = .none → s.vm.findClass E = some ce.cls → vx_W p (gl G) e R s m args below meth c H locs cn sn Q (F0 m pc ls st) q
theorem lh_put1 {ls : Array Slot} {nL i : Nat} {lv : List (Option Value)} {x : Value} (h : lv_has ls nL ((i, x) :: (lps 0 lv).filter (fun q => !(q.1 == i) && !(q.1 + 1 == i && q.2.category == 2)))) : LH ls nL (lset lv i x) := LH.put h
section EV
variable {K : Kx} {G : Gx} {cc : ByteArray} {nL cn sn pc pc' : Nat} {own : String} {ret : Option FieldType} {Ts : List Cond} {rm : Room} {lv lv' : List (Option Value)} {st : List Value} {ws : va_W}
theorem e_iconst (C : Cx K G cc nL own ret Ts rm) {n : Int} {v : Int32} (hv : Int32.ofInt n = v) (d : decode cc pc = .ok (.iconst n, 1)) (hn : pc + 1 = pc') (k : Ev K G nL cn sn pc' lv (.int v :: st) ws) : Ev K G nL cn sn pc lv (st) ws := by
  obtain ⟨p, e, R, s, m, args, below, meth, c, Q⟩ := K
  intro H ls locs hl hP hD hS
  obtain ⟨hx, hb, hml, hown, hts, hr, hlk, hK, hbs, hO, hxt, hR, hst⟩ := C
  subst hn
  exact lv_iconst hx hb d hv (k H ls locs hl hP hD hS)
theorem e_bipush (C : Cx K G cc nL own ret Ts rm) {n : Int} {v : Int32} (hv : (Int8.ofInt n).toInt32 = v) (d : decode cc pc = .ok (.bipush n, 2)) (hn : pc + 2 = pc') (k : Ev K G nL cn sn pc' lv (.int v :: st) ws) : Ev K G nL cn sn pc lv (st) ws := by
  obtain ⟨p, e, R, s, m, args, below, meth, c, Q⟩ := K
  intro H ls locs hl hP hD hS
  obtain ⟨hx, hb, hml, hown, hts, hr, hlk, hK, hbs, hO, hxt, hR, hst⟩ := C
  subst hn
  exact lv_bipush hx hb d hv (k H ls locs hl hP hD hS)
theorem e_sipush (C : Cx K G cc nL own ret Ts rm) {n : Int} {v : Int32} (hv : (Int16.ofInt n).toInt32 = v) (d : decode cc pc = .ok (.sipush n, 3)) (hn : pc + 3 = pc') (k : Ev K G nL cn sn pc' lv (.int v :: st) ws) : Ev K G nL cn sn pc lv (st) ws := by
  obtain ⟨p, e, R, s, m, args, below, meth, c, Q⟩ := K
  intro H ls locs hl hP hD hS
  obtain ⟨hx, hb, hml, hown, hts, hr, hlk, hK, hbs, hO, hxt, hR, hst⟩ := C
  subst hn
  exact lv_sipush hx hb d hv (k H ls locs hl hP hD hS)
theorem e_lconst (C : Cx K G cc nL own ret Ts rm) {n : Fin 2} {v : Int64} (hv : Int64.ofNat (n : Nat) = v) (d : decode cc pc = .ok (.lconst n, 1)) (hn : pc + 1 = pc') (k : Ev K G nL cn sn pc' lv (.long v :: st) ws) : Ev K G nL cn sn pc lv (st) ws := by
  obtain ⟨p, e, R, s, m, args, below, meth, c, Q⟩ := K
  intro H ls locs hl hP hD hS
  obtain ⟨hx, hb, hml, hown, hts, hr, hlk, hK, hbs, hO, hxt, hR, hst⟩ := C
  subst hn
  exact lv_lconst hx hb d hv (k H ls locs hl hP hD hS)
theorem e_ldc (C : Cx K G cc nL own ret Ts rm) {ix : Nat} {v : Int32} (hw : Cond.constant own ix v ∈ Ts) (d : decode cc pc = .ok (.ldc ix, 2)) (hn : pc + 2 = pc') (k : Ev K G nL cn sn pc' lv (.int v :: st) ws) : Ev K G nL cn sn pc lv (st) ws := by
  obtain ⟨p, e, R, s, m, args, below, meth, c, Q⟩ := K
  intro H ls locs hl hP hD hS
  obtain ⟨hx, hb, hml, hown, hts, hr, hlk, hK, hbs, hO, hxt, hR, hst⟩ := C
  subst hn
  exact lv_ldc hx hb hown (hts _ hw) d (k H ls locs hl hP hD hS)
theorem e_ldcw (C : Cx K G cc nL own ret Ts rm) {ix : Nat} {v : Int32} (hw : Cond.constant own ix v ∈ Ts) (d : decode cc pc = .ok (.ldc_w ix, 3)) (hn : pc + 3 = pc') (k : Ev K G nL cn sn pc' lv (.int v :: st) ws) : Ev K G nL cn sn pc lv (st) ws := by
  obtain ⟨p, e, R, s, m, args, below, meth, c, Q⟩ := K
  intro H ls locs hl hP hD hS
  obtain ⟨hx, hb, hml, hown, hts, hr, hlk, hK, hbs, hO, hxt, hR, hst⟩ := C
  subst hn
  exact lv_ldcw hx hb hown (hts _ hw) d (k H ls locs hl hP hD hS)
theorem e_ldc2 (C : Cx K G cc nL own ret Ts rm) {ix : Nat} {v : Int64} (hw : Cond.constantLong own ix v ∈ Ts) (d : decode cc pc = .ok (.ldc2_w ix, 3)) (hn : pc + 3 = pc') (k : Ev K G nL cn sn pc' lv (.long v :: st) ws) : Ev K G nL cn sn pc lv (st) ws := by
  obtain ⟨p, e, R, s, m, args, below, meth, c, Q⟩ := K
  intro H ls locs hl hP hD hS
  obtain ⟨hx, hb, hml, hown, hts, hr, hlk, hK, hbs, hO, hxt, hR, hst⟩ := C
  subst hn
  exact lv_ldc2 hx hb hown (hts _ hw) d (k H ls locs hl hP hD hS)
theorem e_iload_n (C : Cx K G cc nL own ret Ts rm) {i : Fin 4} {x : Int32} (hv : lv[(i : Nat)]? = some (some (.int x))) (d : decode cc pc = .ok (.iload_n i, 1)) (hn : pc + 1 = pc') (k : Ev K G nL cn sn pc' lv (.int x :: st) ws) : Ev K G nL cn sn pc lv (st) ws := by
  obtain ⟨p, e, R, s, m, args, below, meth, c, Q⟩ := K
  intro H ls locs hl hP hD hS
  obtain ⟨hx, hb, hml, hown, hts, hr, hlk, hK, hbs, hO, hxt, hR, hst⟩ := C
  subst hn
  exact lv_iload_n hx hb d rfl (hl.2.2 _ _ hv) (k H ls locs hl hP hD hS)
theorem e_iload (C : Cx K G cc nL own ret Ts rm) {i : Nat} {x : Int32} (hv : lv[i]? = some (some (.int x))) (d : decode cc pc = .ok (.iload i, 2)) (hn : pc + 2 = pc') (k : Ev K G nL cn sn pc' lv (.int x :: st) ws) : Ev K G nL cn sn pc lv (st) ws := by
  obtain ⟨p, e, R, s, m, args, below, meth, c, Q⟩ := K
  intro H ls locs hl hP hD hS
  obtain ⟨hx, hb, hml, hown, hts, hr, hlk, hK, hbs, hO, hxt, hR, hst⟩ := C
  subst hn
  exact lv_iload hx hb d (hl.2.2 _ _ hv) (k H ls locs hl hP hD hS)
theorem e_aload_n (C : Cx K G cc nL own ret Ts rm) {i : Fin 4} {x : Nat} (hv : lv[(i : Nat)]? = some (some (.ref x))) (d : decode cc pc = .ok (.aload_n i, 1)) (hn : pc + 1 = pc') (k : Ev K G nL cn sn pc' lv (.ref x :: st) ws) : Ev K G nL cn sn pc lv (st) ws := by
  obtain ⟨p, e, R, s, m, args, below, meth, c, Q⟩ := K
  intro H ls locs hl hP hD hS
  obtain ⟨hx, hb, hml, hown, hts, hr, hlk, hK, hbs, hO, hxt, hR, hst⟩ := C
  subst hn
  exact lv_aload_n hx hb d rfl (hl.2.2 _ _ hv) (k H ls locs hl hP hD hS)
theorem e_aload (C : Cx K G cc nL own ret Ts rm) {i : Nat} {x : Nat} (hv : lv[i]? = some (some (.ref x))) (d : decode cc pc = .ok (.aload i, 2)) (hn : pc + 2 = pc') (k : Ev K G nL cn sn pc' lv (.ref x :: st) ws) : Ev K G nL cn sn pc lv (st) ws := by
  obtain ⟨p, e, R, s, m, args, below, meth, c, Q⟩ := K
  intro H ls locs hl hP hD hS
  obtain ⟨hx, hb, hml, hown, hts, hr, hlk, hK, hbs, hO, hxt, hR, hst⟩ := C
  subst hn
  exact lv_aload hx hb d (hl.2.2 _ _ hv) (k H ls locs hl hP hD hS)
theorem e_lload_n (C : Cx K G cc nL own ret Ts rm) {i : Fin 4} {x : Int64} (hv : lv[(i : Nat)]? = some (some (.long x))) (d : decode cc pc = .ok (.lload_n i, 1)) (hn : pc + 1 = pc') (k : Ev K G nL cn sn pc' lv (.long x :: st) ws) : Ev K G nL cn sn pc lv (st) ws := by
  obtain ⟨p, e, R, s, m, args, below, meth, c, Q⟩ := K
  intro H ls locs hl hP hD hS
  obtain ⟨hx, hb, hml, hown, hts, hr, hlk, hK, hbs, hO, hxt, hR, hst⟩ := C
  subst hn
  exact lv_lload_n hx hb d rfl (hl.2.2 _ _ hv) (k H ls locs hl hP hD hS)
theorem e_lload (C : Cx K G cc nL own ret Ts rm) {i : Nat} {x : Int64} (hv : lv[i]? = some (some (.long x))) (d : decode cc pc = .ok (.lload i, 2)) (hn : pc + 2 = pc') (k : Ev K G nL cn sn pc' lv (.long x :: st) ws) : Ev K G nL cn sn pc lv (st) ws := by
  obtain ⟨p, e, R, s, m, args, below, meth, c, Q⟩ := K
  intro H ls locs hl hP hD hS
  obtain ⟨hx, hb, hml, hown, hts, hr, hlk, hK, hbs, hO, hxt, hR, hst⟩ := C
  subst hn
  exact lv_lload hx hb d (hl.2.2 _ _ hv) (k H ls locs hl hP hD hS)
theorem e_istore_n (C : Cx K G cc nL own ret Ts rm) {i : Fin 4} {x : Int32} (hi : (i : Nat) < nL) (d : decode cc pc = .ok (.istore_n i, 1)) (hn : pc + 1 = pc') (hlv : lset lv (i : Nat) (.int x) = lv') (k : Ev K G nL cn sn pc' lv' st ws) : Ev K G nL cn sn pc lv (.int x :: st) ws := by
  obtain ⟨p, e, R, s, m, args, below, meth, c, Q⟩ := K
  intro H ls locs hl hP hD hS
  obtain ⟨hx, hb, hml, hown, hts, hr, hlk, hK, hbs, hO, hxt, hR, hst⟩ := C
  subst hn
  subst hlv
  exact lv_istore_n hx hb d rfl hl.has hi rfl (fun ls' h => k H ls' locs (LH.put h) hP hD hS)
theorem e_istore (C : Cx K G cc nL own ret Ts rm) {i : Nat} {x : Int32} (hi : i < nL) (d : decode cc pc = .ok (.istore i, 2)) (hn : pc + 2 = pc') (hlv : lset lv i (.int x) = lv') (k : Ev K G nL cn sn pc' lv' st ws) : Ev K G nL cn sn pc lv (.int x :: st) ws := by
  obtain ⟨p, e, R, s, m, args, below, meth, c, Q⟩ := K
  intro H ls locs hl hP hD hS
  obtain ⟨hx, hb, hml, hown, hts, hr, hlk, hK, hbs, hO, hxt, hR, hst⟩ := C
  subst hn
  subst hlv
  exact lv_istore hx hb d hl.has hi rfl (fun ls' h => k H ls' locs (LH.put h) hP hD hS)
theorem e_astore_n (C : Cx K G cc nL own ret Ts rm) {i : Fin 4} {x : Nat} (hi : (i : Nat) < nL) (d : decode cc pc = .ok (.astore_n i, 1)) (hn : pc + 1 = pc') (hlv : lset lv (i : Nat) (.ref x) = lv') (k : Ev K G nL cn sn pc' lv' st ws) : Ev K G nL cn sn pc lv (.ref x :: st) ws := by
  obtain ⟨p, e, R, s, m, args, below, meth, c, Q⟩ := K
  intro H ls locs hl hP hD hS
  obtain ⟨hx, hb, hml, hown, hts, hr, hlk, hK, hbs, hO, hxt, hR, hst⟩ := C
  subst hn
  subst hlv
  exact lv_astore_n hx hb d rfl hl.has hi rfl (fun ls' h => k H ls' locs (LH.put h) hP hD hS)
theorem e_astore (C : Cx K G cc nL own ret Ts rm) {i : Nat} {x : Nat} (hi : i < nL) (d : decode cc pc = .ok (.astore i, 2)) (hn : pc + 2 = pc') (hlv : lset lv i (.ref x) = lv') (k : Ev K G nL cn sn pc' lv' st ws) : Ev K G nL cn sn pc lv (.ref x :: st) ws := by
  obtain ⟨p, e, R, s, m, args, below, meth, c, Q⟩ := K
  intro H ls locs hl hP hD hS
  obtain ⟨hx, hb, hml, hown, hts, hr, hlk, hK, hbs, hO, hxt, hR, hst⟩ := C
  subst hn
  subst hlv
  exact lv_astore hx hb d hl.has hi rfl (fun ls' h => k H ls' locs (LH.put h) hP hD hS)
theorem e_lstore (C : Cx K G cc nL own ret Ts rm) {i : Nat} {x : Int64} (hi : i + 1 < nL) (d : decode cc pc = .ok (.lstore i, 2)) (hn : pc + 2 = pc') (hlv : lsetL lv i (.long x) = lv') (k : Ev K G nL cn sn pc' lv' st ws) : Ev K G nL cn sn pc lv (.long x :: st) ws := by
  obtain ⟨p, e, R, s, m, args, below, meth, c, Q⟩ := K
  intro H ls locs hl hP hD hS
  obtain ⟨hx, hb, hml, hown, hts, hr, hlk, hK, hbs, hO, hxt, hR, hst⟩ := C
  subst hn
  subst hlv
  exact lv_lstore hx hb d hl.has hi rfl (fun ls' h => k H ls' locs (LH.putL h) hP hD hS)
theorem e_iinc (C : Cx K G cc nL own ret Ts rm) {i : Nat} {n : Int} {x v : Int32} (d : decode cc pc = .ok (.iinc i n, 3)) (hv : lv[i]? = some (some (.int x))) (he : x + Int32.ofInt n = v) (hi : i < nL) (hn : pc + 3 = pc') (hlv : lset lv i (.int v) = lv') (k : Ev K G nL cn sn pc' lv' st ws) : Ev K G nL cn sn pc lv st ws := by
  obtain ⟨p, e, R, s, m, args, below, meth, c, Q⟩ := K
  intro H ls locs hl hP hD hS
  obtain ⟨hx, hb, hml, hown, hts, hr, hlk, hK, hbs, hO, hxt, hR, hst⟩ := C
  subst hn
  subst hlv
  obtain ⟨k9, hk9⟩ := List.getElem?_of_mem ((mem_lps lv 0 i (.int x)).mpr ⟨i, by omega, hv⟩)
  exact lv_iinc hx hb d hl.has hk9 he hi rfl (fun ls' h => k H ls' locs (LH.put h) hP hD hS)
theorem e_dup (C : Cx K G cc nL own ret Ts rm) {va : Value} (h1 : va.category = 1) (d : decode cc pc = .ok (.dup, 1)) (hn : pc + 1 = pc') (k : Ev K G nL cn sn pc' lv (va :: va :: st) ws) : Ev K G nL cn sn pc lv (va :: st) ws := by
  obtain ⟨p, e, R, s, m, args, below, meth, c, Q⟩ := K
  intro H ls locs hl hP hD hS
  obtain ⟨hx, hb, hml, hown, hts, hr, hlk, hK, hbs, hO, hxt, hR, hst⟩ := C
  subst hn
  exact lv_dup hx hb d h1 (k H ls locs hl hP hD hS)
theorem e_dup2 (C : Cx K G cc nL own ret Ts rm) {va vb : Value} (h1 : va.category = 1) (h2 : vb.category = 1) (d : decode cc pc = .ok (.dup2, 1)) (hn : pc + 1 = pc') (k : Ev K G nL cn sn pc' lv (va :: vb :: va :: vb :: st) ws) : Ev K G nL cn sn pc lv (va :: vb :: st) ws := by
  obtain ⟨p, e, R, s, m, args, below, meth, c, Q⟩ := K
  intro H ls locs hl hP hD hS
  obtain ⟨hx, hb, hml, hown, hts, hr, hlk, hK, hbs, hO, hxt, hR, hst⟩ := C
  subst hn
  exact lv_dup2_11 hx hb d h1 h2 (k H ls locs hl hP hD hS)
theorem e_pop (C : Cx K G cc nL own ret Ts rm) {va : Value} (h1 : va.category = 1) (d : decode cc pc = .ok (.pop, 1)) (hn : pc + 1 = pc') (k : Ev K G nL cn sn pc' lv (st) ws) : Ev K G nL cn sn pc lv (va :: st) ws := by
  obtain ⟨p, e, R, s, m, args, below, meth, c, Q⟩ := K
  intro H ls locs hl hP hD hS
  obtain ⟨hx, hb, hml, hown, hts, hr, hlk, hK, hbs, hO, hxt, hR, hst⟩ := C
  subst hn
  exact lv_pop hx hb d h1 (k H ls locs hl hP hD hS)
theorem e_iadd (C : Cx K G cc nL own ret Ts rm) {x y : Int32} (d : decode cc pc = .ok (.iadd, 1)) (hn : pc + 1 = pc') (k : Ev K G nL cn sn pc' lv (.int (x + y) :: st) ws) : Ev K G nL cn sn pc lv (.int y :: .int x :: st) ws := by
  obtain ⟨p, e, R, s, m, args, below, meth, c, Q⟩ := K
  intro H ls locs hl hP hD hS
  obtain ⟨hx, hb, hml, hown, hts, hr, hlk, hK, hbs, hO, hxt, hR, hst⟩ := C
  subst hn
  exact lv_iadd hx hb d (k H ls locs hl hP hD hS)
theorem e_isub (C : Cx K G cc nL own ret Ts rm) {x y : Int32} (d : decode cc pc = .ok (.isub, 1)) (hn : pc + 1 = pc') (k : Ev K G nL cn sn pc' lv (.int (x - y) :: st) ws) : Ev K G nL cn sn pc lv (.int y :: .int x :: st) ws := by
  obtain ⟨p, e, R, s, m, args, below, meth, c, Q⟩ := K
  intro H ls locs hl hP hD hS
  obtain ⟨hx, hb, hml, hown, hts, hr, hlk, hK, hbs, hO, hxt, hR, hst⟩ := C
  subst hn
  exact lv_isub hx hb d (k H ls locs hl hP hD hS)
theorem e_imul (C : Cx K G cc nL own ret Ts rm) {x y : Int32} (d : decode cc pc = .ok (.imul, 1)) (hn : pc + 1 = pc') (k : Ev K G nL cn sn pc' lv (.int (x * y) :: st) ws) : Ev K G nL cn sn pc lv (.int y :: .int x :: st) ws := by
  obtain ⟨p, e, R, s, m, args, below, meth, c, Q⟩ := K
  intro H ls locs hl hP hD hS
  obtain ⟨hx, hb, hml, hown, hts, hr, hlk, hK, hbs, hO, hxt, hR, hst⟩ := C
  subst hn
  exact lv_imul hx hb d (k H ls locs hl hP hD hS)
theorem e_iand (C : Cx K G cc nL own ret Ts rm) {x y : Int32} (d : decode cc pc = .ok (.iand, 1)) (hn : pc + 1 = pc') (k : Ev K G nL cn sn pc' lv (.int (x &&& y) :: st) ws) : Ev K G nL cn sn pc lv (.int y :: .int x :: st) ws := by
  obtain ⟨p, e, R, s, m, args, below, meth, c, Q⟩ := K
  intro H ls locs hl hP hD hS
  obtain ⟨hx, hb, hml, hown, hts, hr, hlk, hK, hbs, hO, hxt, hR, hst⟩ := C
  subst hn
  exact lv_iand hx hb d (k H ls locs hl hP hD hS)
theorem e_ior (C : Cx K G cc nL own ret Ts rm) {x y : Int32} (d : decode cc pc = .ok (.ior, 1)) (hn : pc + 1 = pc') (k : Ev K G nL cn sn pc' lv (.int (x ||| y) :: st) ws) : Ev K G nL cn sn pc lv (.int y :: .int x :: st) ws := by
  obtain ⟨p, e, R, s, m, args, below, meth, c, Q⟩ := K
  intro H ls locs hl hP hD hS
  obtain ⟨hx, hb, hml, hown, hts, hr, hlk, hK, hbs, hO, hxt, hR, hst⟩ := C
  subst hn
  exact lv_ior hx hb d (k H ls locs hl hP hD hS)
theorem e_ixor (C : Cx K G cc nL own ret Ts rm) {x y : Int32} (d : decode cc pc = .ok (.ixor, 1)) (hn : pc + 1 = pc') (k : Ev K G nL cn sn pc' lv (.int (x ^^^ y) :: st) ws) : Ev K G nL cn sn pc lv (.int y :: .int x :: st) ws := by
  obtain ⟨p, e, R, s, m, args, below, meth, c, Q⟩ := K
  intro H ls locs hl hP hD hS
  obtain ⟨hx, hb, hml, hown, hts, hr, hlk, hK, hbs, hO, hxt, hR, hst⟩ := C
  subst hn
  exact lv_ixor hx hb d (k H ls locs hl hP hD hS)
theorem e_ishl (C : Cx K G cc nL own ret Ts rm) {x y : Int32} (d : decode cc pc = .ok (.ishl, 1)) (hn : pc + 1 = pc') (k : Ev K G nL cn sn pc' lv (.int (x <<< (y &&& 31)) :: st) ws) : Ev K G nL cn sn pc lv (.int y :: .int x :: st) ws := by
  obtain ⟨p, e, R, s, m, args, below, meth, c, Q⟩ := K
  intro H ls locs hl hP hD hS
  obtain ⟨hx, hb, hml, hown, hts, hr, hlk, hK, hbs, hO, hxt, hR, hst⟩ := C
  subst hn
  exact lv_ishl hx hb d (k H ls locs hl hP hD hS)
theorem e_ishr (C : Cx K G cc nL own ret Ts rm) {x y : Int32} (d : decode cc pc = .ok (.ishr, 1)) (hn : pc + 1 = pc') (k : Ev K G nL cn sn pc' lv (.int (x >>> (y &&& 31)) :: st) ws) : Ev K G nL cn sn pc lv (.int y :: .int x :: st) ws := by
  obtain ⟨p, e, R, s, m, args, below, meth, c, Q⟩ := K
  intro H ls locs hl hP hD hS
  obtain ⟨hx, hb, hml, hown, hts, hr, hlk, hK, hbs, hO, hxt, hR, hst⟩ := C
  subst hn
  exact lv_ishr hx hb d (k H ls locs hl hP hD hS)
theorem e_iushr (C : Cx K G cc nL own ret Ts rm) {x y : Int32} (d : decode cc pc = .ok (.iushr, 1)) (hn : pc + 1 = pc') (k : Ev K G nL cn sn pc' lv (.int (x.toUInt32 >>> (y.toUInt32 &&& Int32.toUInt32 31)).toInt32 :: st) ws) : Ev K G nL cn sn pc lv (.int y :: .int x :: st) ws := by
  obtain ⟨p, e, R, s, m, args, below, meth, c, Q⟩ := K
  intro H ls locs hl hP hD hS
  obtain ⟨hx, hb, hml, hown, hts, hr, hlk, hK, hbs, hO, hxt, hR, hst⟩ := C
  subst hn
  exact lv_iushr hx hb d rfl (k H ls locs hl hP hD hS)
theorem e_ineg (C : Cx K G cc nL own ret Ts rm) {x : Int32} (d : decode cc pc = .ok (.ineg, 1)) (hn : pc + 1 = pc') (k : Ev K G nL cn sn pc' lv (.int (-x) :: st) ws) : Ev K G nL cn sn pc lv (.int x :: st) ws := by
  obtain ⟨p, e, R, s, m, args, below, meth, c, Q⟩ := K
  intro H ls locs hl hP hD hS
  obtain ⟨hx, hb, hml, hown, hts, hr, hlk, hK, hbs, hO, hxt, hR, hst⟩ := C
  subst hn
  exact lv_ineg hx hb d (k H ls locs hl hP hD hS)
theorem e_idiv (C : Cx K G cc nL own ret Ts rm) {x y : Int32} (hz : ¬ y = 0) (d : decode cc pc = .ok (.idiv, 1)) (hn : pc + 1 = pc') (k : Ev K G nL cn sn pc' lv (.int (x / y) :: st) ws) : Ev K G nL cn sn pc lv (.int y :: .int x :: st) ws := by
  obtain ⟨p, e, R, s, m, args, below, meth, c, Q⟩ := K
  intro H ls locs hl hP hD hS
  obtain ⟨hx, hb, hml, hown, hts, hr, hlk, hK, hbs, hO, hxt, hR, hst⟩ := C
  subst hn
  exact lv_idiv hx hb d hz (k H ls locs hl hP hD hS)
theorem e_irem (C : Cx K G cc nL own ret Ts rm) {x y : Int32} (hz : ¬ y = 0) (d : decode cc pc = .ok (.irem, 1)) (hn : pc + 1 = pc') (k : Ev K G nL cn sn pc' lv (.int (x - x / y * y) :: st) ws) : Ev K G nL cn sn pc lv (.int y :: .int x :: st) ws := by
  obtain ⟨p, e, R, s, m, args, below, meth, c, Q⟩ := K
  intro H ls locs hl hP hD hS
  obtain ⟨hx, hb, hml, hown, hts, hr, hlk, hK, hbs, hO, hxt, hR, hst⟩ := C
  subst hn
  exact lv_irem hx hb d hz (k H ls locs hl hP hD hS)
theorem e_i2l (C : Cx K G cc nL own ret Ts rm) {x : Int32} (d : decode cc pc = .ok (.i2l, 1)) (hn : pc + 1 = pc') (k : Ev K G nL cn sn pc' lv (.long x.toInt64 :: st) ws) : Ev K G nL cn sn pc lv (.int x :: st) ws := by
  obtain ⟨p, e, R, s, m, args, below, meth, c, Q⟩ := K
  intro H ls locs hl hP hD hS
  obtain ⟨hx, hb, hml, hown, hts, hr, hlk, hK, hbs, hO, hxt, hR, hst⟩ := C
  subst hn
  exact lv_i2l hx hb d rfl (k H ls locs hl hP hD hS)
theorem e_l2i (C : Cx K G cc nL own ret Ts rm) {x : Int64} (d : decode cc pc = .ok (.l2i, 1)) (hn : pc + 1 = pc') (k : Ev K G nL cn sn pc' lv (.int x.toInt32 :: st) ws) : Ev K G nL cn sn pc lv (.long x :: st) ws := by
  obtain ⟨p, e, R, s, m, args, below, meth, c, Q⟩ := K
  intro H ls locs hl hP hD hS
  obtain ⟨hx, hb, hml, hown, hts, hr, hlk, hK, hbs, hO, hxt, hR, hst⟩ := C
  subst hn
  exact lv_l2i hx hb d rfl (k H ls locs hl hP hD hS)
theorem e_i2b (C : Cx K G cc nL own ret Ts rm) {x : Int32} (d : decode cc pc = .ok (.i2b, 1)) (hn : pc + 1 = pc') (k : Ev K G nL cn sn pc' lv (.int x.toInt8.toInt32 :: st) ws) : Ev K G nL cn sn pc lv (.int x :: st) ws := by
  obtain ⟨p, e, R, s, m, args, below, meth, c, Q⟩ := K
  intro H ls locs hl hP hD hS
  obtain ⟨hx, hb, hml, hown, hts, hr, hlk, hK, hbs, hO, hxt, hR, hst⟩ := C
  subst hn
  exact lv_i2b hx hb d rfl (k H ls locs hl hP hD hS)
theorem e_ladd (C : Cx K G cc nL own ret Ts rm) {x y : Int64} (d : decode cc pc = .ok (.ladd, 1)) (hn : pc + 1 = pc') (k : Ev K G nL cn sn pc' lv (.long (x + y) :: st) ws) : Ev K G nL cn sn pc lv (.long y :: .long x :: st) ws := by
  obtain ⟨p, e, R, s, m, args, below, meth, c, Q⟩ := K
  intro H ls locs hl hP hD hS
  obtain ⟨hx, hb, hml, hown, hts, hr, hlk, hK, hbs, hO, hxt, hR, hst⟩ := C
  subst hn
  exact lv_ladd hx hb d (k H ls locs hl hP hD hS)
theorem e_lsub (C : Cx K G cc nL own ret Ts rm) {x y : Int64} (d : decode cc pc = .ok (.lsub, 1)) (hn : pc + 1 = pc') (k : Ev K G nL cn sn pc' lv (.long (x - y) :: st) ws) : Ev K G nL cn sn pc lv (.long y :: .long x :: st) ws := by
  obtain ⟨p, e, R, s, m, args, below, meth, c, Q⟩ := K
  intro H ls locs hl hP hD hS
  obtain ⟨hx, hb, hml, hown, hts, hr, hlk, hK, hbs, hO, hxt, hR, hst⟩ := C
  subst hn
  exact lv_lsub hx hb d (k H ls locs hl hP hD hS)
theorem e_lmul (C : Cx K G cc nL own ret Ts rm) {x y : Int64} (d : decode cc pc = .ok (.lmul, 1)) (hn : pc + 1 = pc') (k : Ev K G nL cn sn pc' lv (.long (x * y) :: st) ws) : Ev K G nL cn sn pc lv (.long y :: .long x :: st) ws := by
  obtain ⟨p, e, R, s, m, args, below, meth, c, Q⟩ := K
  intro H ls locs hl hP hD hS
  obtain ⟨hx, hb, hml, hown, hts, hr, hlk, hK, hbs, hO, hxt, hR, hst⟩ := C
  subst hn
  exact lv_lmul hx hb d (k H ls locs hl hP hD hS)
theorem e_ldiv (C : Cx K G cc nL own ret Ts rm) {x y : Int64} (hz : ¬ y = 0) (d : decode cc pc = .ok (.ldiv, 1)) (hn : pc + 1 = pc') (k : Ev K G nL cn sn pc' lv (.long (x / y) :: st) ws) : Ev K G nL cn sn pc lv (.long y :: .long x :: st) ws := by
  obtain ⟨p, e, R, s, m, args, below, meth, c, Q⟩ := K
  intro H ls locs hl hP hD hS
  obtain ⟨hx, hb, hml, hown, hts, hr, hlk, hK, hbs, hO, hxt, hR, hst⟩ := C
  subst hn
  exact lv_ldiv hx hb d hz (k H ls locs hl hP hD hS)
theorem e_lcmp (C : Cx K G cc nL own ret Ts rm) {x y : Int64} (d : decode cc pc = .ok (.lcmp, 1)) (hn : pc + 1 = pc') (k : Ev K G nL cn sn pc' lv (.int (lg_cmp x y) :: st) ws) : Ev K G nL cn sn pc lv (.long y :: .long x :: st) ws := by
  obtain ⟨p, e, R, s, m, args, below, meth, c, Q⟩ := K
  intro H ls locs hl hP hD hS
  obtain ⟨hx, hb, hml, hown, hts, hr, hlk, hK, hbs, hO, hxt, hR, hst⟩ := C
  subst hn
  exact W.lcmp hx hb d (k H ls locs hl hP hD hS)
theorem e_if_eq (C : Cx K G cc nL own ret Ts rm) {x : Int32} {off : Int} {tg : Nat} (d : decode cc pc = .ok (.ifCond .eq off, 3)) (ht : (pc : Int) + off = (tg : Int)) (hn : pc + 3 = pc') (k1 : x = 0 → Ev K G nL cn sn tg lv st ws) (k2 : ¬ x = 0 → Ev K G nL cn sn pc' lv st ws) : Ev K G nL cn sn pc lv (.int x :: st) ws := by
  obtain ⟨p, e, R, s, m, args, below, meth, c, Q⟩ := K
  intro H ls locs hl hP hD hS
  obtain ⟨hx, hb, hml, hown, hts, hr, hlk, hK, hbs, hO, hxt, hR, hst⟩ := C
  subst hn
  exact lv_if_eq hx hb d ht (fun h => k1 h H ls locs hl hP hD hS) (fun h => k2 h H ls locs hl hP hD hS)
theorem e_if_ne (C : Cx K G cc nL own ret Ts rm) {x : Int32} {off : Int} {tg : Nat} (d : decode cc pc = .ok (.ifCond .ne off, 3)) (ht : (pc : Int) + off = (tg : Int)) (hn : pc + 3 = pc') (k1 : ¬ x = 0 → Ev K G nL cn sn tg lv st ws) (k2 : x = 0 → Ev K G nL cn sn pc' lv st ws) : Ev K G nL cn sn pc lv (.int x :: st) ws := by
  obtain ⟨p, e, R, s, m, args, below, meth, c, Q⟩ := K
  intro H ls locs hl hP hD hS
  obtain ⟨hx, hb, hml, hown, hts, hr, hlk, hK, hbs, hO, hxt, hR, hst⟩ := C
  subst hn
  exact lv_if_ne hx hb d ht (fun h => k1 h H ls locs hl hP hD hS) (fun h => k2 h H ls locs hl hP hD hS)
theorem e_if_lt (C : Cx K G cc nL own ret Ts rm) {x : Int32} {off : Int} {tg : Nat} (d : decode cc pc = .ok (.ifCond .lt off, 3)) (ht : (pc : Int) + off = (tg : Int)) (hn : pc + 3 = pc') (k1 : x < 0 → Ev K G nL cn sn tg lv st ws) (k2 : ¬ x < 0 → Ev K G nL cn sn pc' lv st ws) : Ev K G nL cn sn pc lv (.int x :: st) ws := by
  obtain ⟨p, e, R, s, m, args, below, meth, c, Q⟩ := K
  intro H ls locs hl hP hD hS
  obtain ⟨hx, hb, hml, hown, hts, hr, hlk, hK, hbs, hO, hxt, hR, hst⟩ := C
  subst hn
  exact lv_if_lt hx hb d ht (fun h => k1 h H ls locs hl hP hD hS) (fun h => k2 h H ls locs hl hP hD hS)
theorem e_if_ge (C : Cx K G cc nL own ret Ts rm) {x : Int32} {off : Int} {tg : Nat} (d : decode cc pc = .ok (.ifCond .ge off, 3)) (ht : (pc : Int) + off = (tg : Int)) (hn : pc + 3 = pc') (k1 : 0 ≤ x → Ev K G nL cn sn tg lv st ws) (k2 : ¬ 0 ≤ x → Ev K G nL cn sn pc' lv st ws) : Ev K G nL cn sn pc lv (.int x :: st) ws := by
  obtain ⟨p, e, R, s, m, args, below, meth, c, Q⟩ := K
  intro H ls locs hl hP hD hS
  obtain ⟨hx, hb, hml, hown, hts, hr, hlk, hK, hbs, hO, hxt, hR, hst⟩ := C
  subst hn
  exact lv_if_ge hx hb d ht (fun h => k1 h H ls locs hl hP hD hS) (fun h => k2 h H ls locs hl hP hD hS)
theorem e_if_gt (C : Cx K G cc nL own ret Ts rm) {x : Int32} {off : Int} {tg : Nat} (d : decode cc pc = .ok (.ifCond .gt off, 3)) (ht : (pc : Int) + off = (tg : Int)) (hn : pc + 3 = pc') (k1 : 0 < x → Ev K G nL cn sn tg lv st ws) (k2 : ¬ 0 < x → Ev K G nL cn sn pc' lv st ws) : Ev K G nL cn sn pc lv (.int x :: st) ws := by
  obtain ⟨p, e, R, s, m, args, below, meth, c, Q⟩ := K
  intro H ls locs hl hP hD hS
  obtain ⟨hx, hb, hml, hown, hts, hr, hlk, hK, hbs, hO, hxt, hR, hst⟩ := C
  subst hn
  exact lv_if_gt hx hb d ht (fun h => k1 h H ls locs hl hP hD hS) (fun h => k2 h H ls locs hl hP hD hS)
theorem e_if_le (C : Cx K G cc nL own ret Ts rm) {x : Int32} {off : Int} {tg : Nat} (d : decode cc pc = .ok (.ifCond .le off, 3)) (ht : (pc : Int) + off = (tg : Int)) (hn : pc + 3 = pc') (k1 : x ≤ 0 → Ev K G nL cn sn tg lv st ws) (k2 : ¬ x ≤ 0 → Ev K G nL cn sn pc' lv st ws) : Ev K G nL cn sn pc lv (.int x :: st) ws := by
  obtain ⟨p, e, R, s, m, args, below, meth, c, Q⟩ := K
  intro H ls locs hl hP hD hS
  obtain ⟨hx, hb, hml, hown, hts, hr, hlk, hK, hbs, hO, hxt, hR, hst⟩ := C
  subst hn
  exact lv_if_le hx hb d ht (fun h => k1 h H ls locs hl hP hD hS) (fun h => k2 h H ls locs hl hP hD hS)
theorem e_icmp_eq (C : Cx K G cc nL own ret Ts rm) {x y : Int32} {off : Int} {tg : Nat} (d : decode cc pc = .ok (.if_icmp .eq off, 3)) (ht : (pc : Int) + off = (tg : Int)) (hn : pc + 3 = pc') (k1 : x = y → Ev K G nL cn sn tg lv st ws) (k2 : ¬ x = y → Ev K G nL cn sn pc' lv st ws) : Ev K G nL cn sn pc lv (.int y :: .int x :: st) ws := by
  obtain ⟨p, e, R, s, m, args, below, meth, c, Q⟩ := K
  intro H ls locs hl hP hD hS
  obtain ⟨hx, hb, hml, hown, hts, hr, hlk, hK, hbs, hO, hxt, hR, hst⟩ := C
  subst hn
  exact lv_icmp_eq hx hb d ht (fun h => k1 h H ls locs hl hP hD hS) (fun h => k2 h H ls locs hl hP hD hS)
theorem e_icmp_ne (C : Cx K G cc nL own ret Ts rm) {x y : Int32} {off : Int} {tg : Nat} (d : decode cc pc = .ok (.if_icmp .ne off, 3)) (ht : (pc : Int) + off = (tg : Int)) (hn : pc + 3 = pc') (k1 : ¬ x = y → Ev K G nL cn sn tg lv st ws) (k2 : x = y → Ev K G nL cn sn pc' lv st ws) : Ev K G nL cn sn pc lv (.int y :: .int x :: st) ws := by
  obtain ⟨p, e, R, s, m, args, below, meth, c, Q⟩ := K
  intro H ls locs hl hP hD hS
  obtain ⟨hx, hb, hml, hown, hts, hr, hlk, hK, hbs, hO, hxt, hR, hst⟩ := C
  subst hn
  exact lv_icmp_ne hx hb d ht (fun h => k1 h H ls locs hl hP hD hS) (fun h => k2 h H ls locs hl hP hD hS)
theorem e_icmp_lt (C : Cx K G cc nL own ret Ts rm) {x y : Int32} {off : Int} {tg : Nat} (d : decode cc pc = .ok (.if_icmp .lt off, 3)) (ht : (pc : Int) + off = (tg : Int)) (hn : pc + 3 = pc') (k1 : x < y → Ev K G nL cn sn tg lv st ws) (k2 : ¬ x < y → Ev K G nL cn sn pc' lv st ws) : Ev K G nL cn sn pc lv (.int y :: .int x :: st) ws := by
  obtain ⟨p, e, R, s, m, args, below, meth, c, Q⟩ := K
  intro H ls locs hl hP hD hS
  obtain ⟨hx, hb, hml, hown, hts, hr, hlk, hK, hbs, hO, hxt, hR, hst⟩ := C
  subst hn
  exact lv_icmp_lt hx hb d ht (fun h => k1 h H ls locs hl hP hD hS) (fun h => k2 h H ls locs hl hP hD hS)
theorem e_icmp_ge (C : Cx K G cc nL own ret Ts rm) {x y : Int32} {off : Int} {tg : Nat} (d : decode cc pc = .ok (.if_icmp .ge off, 3)) (ht : (pc : Int) + off = (tg : Int)) (hn : pc + 3 = pc') (k1 : y ≤ x → Ev K G nL cn sn tg lv st ws) (k2 : ¬ y ≤ x → Ev K G nL cn sn pc' lv st ws) : Ev K G nL cn sn pc lv (.int y :: .int x :: st) ws := by
  obtain ⟨p, e, R, s, m, args, below, meth, c, Q⟩ := K
  intro H ls locs hl hP hD hS
  obtain ⟨hx, hb, hml, hown, hts, hr, hlk, hK, hbs, hO, hxt, hR, hst⟩ := C
  subst hn
  exact lv_icmp_ge hx hb d ht (fun h => k1 h H ls locs hl hP hD hS) (fun h => k2 h H ls locs hl hP hD hS)
theorem e_icmp_gt (C : Cx K G cc nL own ret Ts rm) {x y : Int32} {off : Int} {tg : Nat} (d : decode cc pc = .ok (.if_icmp .gt off, 3)) (ht : (pc : Int) + off = (tg : Int)) (hn : pc + 3 = pc') (k1 : y < x → Ev K G nL cn sn tg lv st ws) (k2 : ¬ y < x → Ev K G nL cn sn pc' lv st ws) : Ev K G nL cn sn pc lv (.int y :: .int x :: st) ws := by
  obtain ⟨p, e, R, s, m, args, below, meth, c, Q⟩ := K
  intro H ls locs hl hP hD hS
  obtain ⟨hx, hb, hml, hown, hts, hr, hlk, hK, hbs, hO, hxt, hR, hst⟩ := C
  subst hn
  exact lv_icmp_gt hx hb d ht (fun h => k1 h H ls locs hl hP hD hS) (fun h => k2 h H ls locs hl hP hD hS)
theorem e_icmp_le (C : Cx K G cc nL own ret Ts rm) {x y : Int32} {off : Int} {tg : Nat} (d : decode cc pc = .ok (.if_icmp .le off, 3)) (ht : (pc : Int) + off = (tg : Int)) (hn : pc + 3 = pc') (k1 : x ≤ y → Ev K G nL cn sn tg lv st ws) (k2 : ¬ x ≤ y → Ev K G nL cn sn pc' lv st ws) : Ev K G nL cn sn pc lv (.int y :: .int x :: st) ws := by
  obtain ⟨p, e, R, s, m, args, below, meth, c, Q⟩ := K
  intro H ls locs hl hP hD hS
  obtain ⟨hx, hb, hml, hown, hts, hr, hlk, hK, hbs, hO, hxt, hR, hst⟩ := C
  subst hn
  exact lv_icmp_le hx hb d ht (fun h => k1 h H ls locs hl hP hD hS) (fun h => k2 h H ls locs hl hP hD hS)
theorem e_acmp_eq (C : Cx K G cc nL own ret Ts rm) {x y : Nat} {off : Int} {tg : Nat} (d : decode cc pc = .ok (.if_acmp .eq off, 3)) (ht : (pc : Int) + off = (tg : Int)) (hn : pc + 3 = pc') (k1 : x = y → Ev K G nL cn sn tg lv st ws) (k2 : ¬ x = y → Ev K G nL cn sn pc' lv st ws) : Ev K G nL cn sn pc lv (.ref y :: .ref x :: st) ws := by
  obtain ⟨p, e, R, s, m, args, below, meth, c, Q⟩ := K
  intro H ls locs hl hP hD hS
  obtain ⟨hx, hb, hml, hown, hts, hr, hlk, hK, hbs, hO, hxt, hR, hst⟩ := C
  subst hn
  exact lv_acmp_eq (rx := some x) (ry := some y) hx hb d ht (fun h => k1 (Option.some.inj h) H ls locs hl hP hD hS) (fun h => k2 (fun q => h (congrArg some q)) H ls locs hl hP hD hS)
theorem e_goto (C : Cx K G cc nL own ret Ts rm) {off : Int} {tg : Nat} (d : decode cc pc = .ok (.goto off, 3)) (ht : (pc : Int) + off = (tg : Int)) (k : Ev K G nL cn sn tg lv st ws) : Ev K G nL cn sn pc lv st ws := by
  obtain ⟨p, e, R, s, m, args, below, meth, c, Q⟩ := K
  intro H ls locs hl hP hD hS
  obtain ⟨hx, hb, hml, hown, hts, hr, hlk, hK, hbs, hO, hxt, hR, hst⟩ := C
  exact lv_goto hx hb d ht (k H ls locs hl hP hD hS)
theorem e_tabIn (C : Cx K G cc nL own ret Ts rm) {dflt lo hi : Int} {offs : Array Int} {len : Nat} {x : Int32} {off : Int} {tg : Nat} (d : decode cc pc = .ok (.tableswitch dflt lo hi offs, len)) (h1 : ¬ x.toInt < lo) (h2 : ¬ hi < x.toInt) (ho : offs[(x.toInt - lo).toNat]? = some off) (ht : (pc : Int) + off = (tg : Int)) (k : Ev K G nL cn sn tg lv st ws) : Ev K G nL cn sn pc lv (.int x :: st) ws := by
  obtain ⟨p, e, R, s, m, args, below, meth, c, Q⟩ := K
  intro H ls locs hl hP hD hS
  obtain ⟨hx, hb, hml, hown, hts, hr, hlk, hK, hbs, hO, hxt, hR, hst⟩ := C
  exact lv_tableIn hx hb d h1 h2 ho ht (k H ls locs hl hP hD hS)
theorem e_tabOut (C : Cx K G cc nL own ret Ts rm) {dflt lo hi : Int} {offs : Array Int} {len : Nat} {x : Int32} {tg : Nat} (d : decode cc pc = .ok (.tableswitch dflt lo hi offs, len)) (h : x.toInt < lo ∨ hi < x.toInt) (ht : (pc : Int) + dflt = (tg : Int)) (k : Ev K G nL cn sn tg lv st ws) : Ev K G nL cn sn pc lv (.int x :: st) ws := by
  obtain ⟨p, e, R, s, m, args, below, meth, c, Q⟩ := K
  intro H ls locs hl hP hD hS
  obtain ⟨hx, hb, hml, hown, hts, hr, hlk, hK, hbs, hO, hxt, hR, hst⟩ := C
  exact lv_tableOut hx hb d h ht (k H ls locs hl hP hD hS)
/-- a field of an int, a field of a reference: read -/
def qI (ci j a : Nat) (ws : va_W) (T : Int32 → Prop) : Prop := ∃ (k : Nat) (fs : List Value) (v : Int32), ws[k]? = some (a, .inr (ci, fs)) ∧ fs[j]? = some (.int v) ∧ T v
def qR (ci j a : Nat) (ws : va_W) (T : Nat → Prop) : Prop := ∃ (k : Nat) (fs : List Value) (v : Nat), ws[k]? = some (a, .inr (ci, fs)) ∧ fs[j]? = some (.ref v) ∧ T v
/-- a field is written -/
def qP (ci j a : Nat) (v : Value) (ws : va_W) (T : va_W → Prop) : Prop := ∃ (k : Nat) (fs : List Value), ws[k]? = some (a, .inr (ci, fs)) ∧ j < fs.length ∧ T (ws.set k (a, .inr (ci, fs.set j v)))
/-- rows of numbers: read, written -/
def qA (cA : ClassId) (a : Nat) (i : Int32) (ws : va_W) (T : Int32 → Prop) : Prop := ∃ (k n : Nat) (f : Nat → Int32), ws[k]? = some (a, .inl (cA, n, .inl f)) ∧ vp_in i n ∧ T (f i.toNatClampNeg)
def qS (cA : ClassId) (a : Nat) (i x : Int32) (ws : va_W) (T : va_W → Prop) : Prop := ∃ (k n : Nat) (f : Nat → Int32), ws[k]? = some (a, .inl (cA, n, .inl f)) ∧ vp_in i n ∧ T (ws.set k (a, .inl (cA, n, .inl (upd f i.toNatClampNeg x))))
def qQ (cA : ClassId) (a : Nat) (i : Int32) (ws : va_W) (T : Nat → Prop) : Prop := ∃ (k n : Nat) (f : Nat → Option Nat) (v : Nat), ws[k]? = some (a, .inl (cA, n, .inr (.inr (.inr (.inr f))))) ∧ vp_in i n ∧ f i.toNatClampNeg = some v ∧ T v
/-- the thing that a method is called on is an object of the class -/
def qV (ci a : Nat) (ws : va_W) : Prop := ∃ (k : Nat) (fs : List Value), ws[k]? = some (a, .inr (ci, fs))
theorem e_getI (C : Cx K G cc nL own ret Ts rm) {a ci ix k : Nat} {fs : List Value} {v : Value} {CN ref : String} {T : u_T} {N : Nat} (j : Nat) (d : decode cc pc = .ok (.getfield ix, 3)) (hn : pc + 3 = pc') (hin : ∀ w ∈ u_ws CN T N, w ∈ Ts) (hc : vwCl[ci]? = some (CN, T, N)) (hj : j < N) (hlk : Cond.fieldLink own ix (T j).1 (T j).2.1 (T j).2.2.1 ∈ Ts)
    (hk : ws[k]? = some (a, .inr (ci, fs))) (hv : fs[j]? = some v) (kk : Ev K G nL cn sn pc' lv (v :: st) ws) : Ev K G nL cn sn pc lv (.ref a :: st) ws := by
  obtain ⟨p, e, R, s, m, args, below, meth, c, Q⟩ := K
  intro H ls locs hl hP hD hS
  obtain ⟨hx, hb, hml, hown, hts, hr, hlkk, hK, hbs, hO, hxt, hR, hst⟩ := C
  subst hn
  exact va_get (D := gD G) (ci := ci) (v := v) (C := CN) (T := T) (N := N) hx hb hts hin hown hK hP k hk hc j hj (hts _ hlk) (fun _ h9 => h9) hv d (kk H ls locs hl hP hD hS)
theorem e_put (C : Cx K G cc nL own ret Ts rm) {a ci ix k : Nat} {fs : List Value} {v : Value} {CN : String} {T : u_T} {N : Nat} {ty : FieldType} (j : Nat) (ty0 : Nat → FieldType) (d : decode cc pc = .ok (.putfield ix, 3)) (hn : pc + 3 = pc') (hin : ∀ w ∈ u_ws CN T N, w ∈ Ts) (hty : ∀ k, k < N → parseFieldDescriptor (T k).2.2.1 = some (ty0 k)) (hnm : ∀ a, a < N → ∀ b, b < N → a ≠ b → (T a).2.1 ≠ (T b).2.1) (hc : vwCl[ci]? = some (CN, T, N)) (hj : j < N) (hlk : Cond.fieldLink own ix (T j).1 (T j).2.1 (T j).2.2.1 ∈ Ts) (hfin : (T j).2.2.2 = false) (hd : parseFieldDescriptor (T j).2.2.1 = some ty) (hnw : narrow ty v = v) (hfit : fits ty v = true)
    (hk : ws[k]? = some (a, .inr (ci, fs))) (hl9 : j < fs.length) (kk : Ev K G nL cn sn pc' lv st (ws.set k (a, .inr (ci, fs.set j v)))) : Ev K G nL cn sn pc lv (v :: .ref a :: st) ws := by
  obtain ⟨p, e, R, s, m, args, below, meth, c, Q⟩ := K
  intro H ls locs hl hP hD hS
  obtain ⟨hx, hb, hml, hown, hts, hr, hlkk, hK, hbs, hO, hxt, hR, hst⟩ := C
  subst hn
  exact va_put (D := gD G) (ci := ci) (v := v) (ty := ty) (C := CN) (T := T) (N := N) hx hb hts hin ty0 hty hnm hown hK hP hD hS k hk hc j hj (hts _ hlk) (fun _ h9 => h9) hfin hd hnw hfit hl9 d (fun H1 locs1 hP1 hD1 hS1 => kk H1 ls locs1 hl hP1 hD1 hS1)
theorem e_iaload (C : Cx K G cc nL own ret Ts rm) {a k n : Nat} {f : Nat → Int32} {i : Int32} (d : decode cc pc = .ok (.iaload, 1)) (hn : pc + 1 = pc') (hk : ws[k]? = some (a, .inl (gc G 1, n, .inl f))) (hi : vp_in i n) (kk : Ev K G nL cn sn pc' lv (.int (f i.toNatClampNeg) :: st) ws) : Ev K G nL cn sn pc lv (.int i :: .ref a :: st) ws := by
  obtain ⟨p, e, R, s, m, args, below, meth, c, Q⟩ := K
  intro H ls locs hl hP hD hS
  obtain ⟨hx, hb, hml, hown, hts, hr, hlk, hK, hbs, hO, hxt, hR, hst⟩ := C
  subst hn
  exact va_iald hx hb hK hP k 1 hk rfl hi d (kk H ls locs hl hP hD hS)
theorem e_baload (C : Cx K G cc nL own ret Ts rm) {a k n : Nat} {f : Nat → Int32} {i : Int32} (d : decode cc pc = .ok (.baload, 1)) (hn : pc + 1 = pc') (hk : ws[k]? = some (a, .inl (gc G 0, n, .inl f))) (hi : vp_in i n) (kk : Ev K G nL cn sn pc' lv (.int (f i.toNatClampNeg) :: st) ws) : Ev K G nL cn sn pc lv (.int i :: .ref a :: st) ws := by
  obtain ⟨p, e, R, s, m, args, below, meth, c, Q⟩ := K
  intro H ls locs hl hP hD hS
  obtain ⟨hx, hb, hml, hown, hts, hr, hlk, hK, hbs, hO, hxt, hR, hst⟩ := C
  subst hn
  exact va_bald hx hb hK hP k 0 hk rfl hi d (kk H ls locs hl hP hD hS)
theorem e_zaload (C : Cx K G cc nL own ret Ts rm) {a k n : Nat} {f : Nat → Int32} {i : Int32} (d : decode cc pc = .ok (.baload, 1)) (hn : pc + 1 = pc') (hk : ws[k]? = some (a, .inl (gc G 2, n, .inl f))) (hi : vp_in i n) (kk : Ev K G nL cn sn pc' lv (.int (f i.toNatClampNeg) :: st) ws) : Ev K G nL cn sn pc lv (.int i :: .ref a :: st) ws := by
  obtain ⟨p, e, R, s, m, args, below, meth, c, Q⟩ := K
  intro H ls locs hl hP hD hS
  obtain ⟨hx, hb, hml, hown, hts, hr, hlk, hK, hbs, hO, hxt, hR, hst⟩ := C
  subst hn
  exact va_zald hx hb hK hP k 2 hk rfl hi d (kk H ls locs hl hP hD hS)
theorem e_iastore (C : Cx K G cc nL own ret Ts rm) {a k n : Nat} {f : Nat → Int32} {i x : Int32} (d : decode cc pc = .ok (.iastore, 1)) (hn : pc + 1 = pc') (hk : ws[k]? = some (a, .inl (gc G 1, n, .inl f))) (hi : vp_in i n) (kk : Ev K G nL cn sn pc' lv st (ws.set k (a, .inl (gc G 1, n, .inl (upd f i.toNatClampNeg x))))) : Ev K G nL cn sn pc lv (.int x :: .int i :: .ref a :: st) ws := by
  obtain ⟨p, e, R, s, m, args, below, meth, c, Q⟩ := K
  intro H ls locs hl hP hD hS
  obtain ⟨hx, hb, hml, hown, hts, hr, hlk, hK, hbs, hO, hxt, hR, hst⟩ := C
  subst hn
  exact va_iast hx hb hK hP hD hS k 1 hk rfl hi d (fun H1 locs1 hP1 hD1 hS1 => kk H1 ls locs1 hl hP1 hD1 hS1)
theorem e_bastore (C : Cx K G cc nL own ret Ts rm) {a k n : Nat} {f : Nat → Int32} {i x : Int32} (d : decode cc pc = .ok (.bastore, 1)) (hn : pc + 1 = pc') (hk : ws[k]? = some (a, .inl (gc G 0, n, .inl f))) (hi : vp_in i n) (kk : Ev K G nL cn sn pc' lv st (ws.set k (a, .inl (gc G 0, n, .inl (upd f i.toNatClampNeg (vp_nar .byte x)))))) : Ev K G nL cn sn pc lv (.int x :: .int i :: .ref a :: st) ws := by
  obtain ⟨p, e, R, s, m, args, below, meth, c, Q⟩ := K
  intro H ls locs hl hP hD hS
  obtain ⟨hx, hb, hml, hown, hts, hr, hlk, hK, hbs, hO, hxt, hR, hst⟩ := C
  subst hn
  exact va_bast hx hb hK hP hD hS k 0 hk rfl hi d (fun H1 locs1 hP1 hD1 hS1 => kk H1 ls locs1 hl hP1 hD1 hS1)
theorem e_zastore (C : Cx K G cc nL own ret Ts rm) {a k n : Nat} {f : Nat → Int32} {i x : Int32} (d : decode cc pc = .ok (.bastore, 1)) (hn : pc + 1 = pc') (hk : ws[k]? = some (a, .inl (gc G 2, n, .inl f))) (hi : vp_in i n) (kk : Ev K G nL cn sn pc' lv st (ws.set k (a, .inl (gc G 2, n, .inl (upd f i.toNatClampNeg (vp_nar .boolean x)))))) : Ev K G nL cn sn pc lv (.int x :: .int i :: .ref a :: st) ws := by
  obtain ⟨p, e, R, s, m, args, below, meth, c, Q⟩ := K
  intro H ls locs hl hP hD hS
  obtain ⟨hx, hb, hml, hown, hts, hr, hlk, hK, hbs, hO, hxt, hR, hst⟩ := C
  subst hn
  exact va_zast hx hb hK hP hD hS k 2 hk rfl hi d (fun H1 locs1 hP1 hD1 hS1 => kk H1 ls locs1 hl hP1 hD1 hS1)
theorem e_aaloadC (C : Cx K G cc nL own ret Ts rm) {a k n v : Nat} {f : Nat → Option Nat} {i : Int32} (d : decode cc pc = .ok (.aaload, 1)) (hn : pc + 1 = pc') (hk : ws[k]? = some (a, .inl (gc G 3, n, .inr (.inr (.inr (.inr f)))))) (hi : vp_in i n) (hv : f i.toNatClampNeg = some v) (kk : Ev K G nL cn sn pc' lv (.ref v :: st) ws) : Ev K G nL cn sn pc lv (.int i :: .ref a :: st) ws := by
  obtain ⟨p, e, R, s, m, args, below, meth, c, Q⟩ := K
  intro H ls locs hl hP hD hS
  obtain ⟨hx, hb, hml, hown, hts, hr, hlk, hK, hbs, hO, hxt, hR, hst⟩ := C
  subst hn
  refine va_aldq hx hb hK hP k 3 hk rfl hi d ?_
  rw [hv]
  exact kk H ls locs hl hP hD hS
theorem e_aaloadS (C : Cx K G cc nL own ret Ts rm) {a k n v : Nat} {f : Nat → Option Nat} {i : Int32} (d : decode cc pc = .ok (.aaload, 1)) (hn : pc + 1 = pc') (hk : ws[k]? = some (a, .inl (gc G 4, n, .inr (.inr (.inr (.inr f)))))) (hi : vp_in i n) (hv : f i.toNatClampNeg = some v) (kk : Ev K G nL cn sn pc' lv (.ref v :: st) ws) : Ev K G nL cn sn pc lv (.int i :: .ref a :: st) ws := by
  obtain ⟨p, e, R, s, m, args, below, meth, c, Q⟩ := K
  intro H ls locs hl hP hD hS
  obtain ⟨hx, hb, hml, hown, hts, hr, hlk, hK, hbs, hO, hxt, hR, hst⟩ := C
  subst hn
  refine va_aldq hx hb hK hP k 4 hk rfl hi d ?_
  rw [hv]
  exact kk H ls locs hl hP hD hS
end EV
