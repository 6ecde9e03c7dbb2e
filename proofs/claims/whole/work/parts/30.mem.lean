/-! ===== the world as a table of ints: M k j is place j of cell k ===== -/
abbrev Mem : Type := Nat → Nat → Int32
def mup (M : Mem) (k j : Nat) (v : Int32) : Mem := fun k' j' => if k' = k ∧ j' = j then v else M k' j'
/-- four ints of the row a are copied to the row b -/
def mcp (M : Mem) (a b : Nat) : Mem := fun k j => if k = b ∧ j < 4 then M a j else M k j
def pW (k j : Nat) (v : Int32) (M : Mem) (T : Mem → Prop) : Prop := T (mup M k j v)
def pC (a b : Nat) (M : Mem) (T : Mem → Prop) : Prop := T (mcp M a b)
theorem pW_at {k j : Nat} {v : Int32} {M : Mem} {T : Mem → Prop} (h : pW k j v M T) : T (mup M k j v) := h
theorem pC_at {a b : Nat} {M : Mem} {T : Mem → Prop} (h : pC a b M T) : T (mcp M a b) := h
def fl (k : Nat) : Option (Nat × List (Option Nat)) :=
  if k = 0 then some (6, [some 1, some 2, some 5, none, some 6, none, none, none, none, none, some 47, none, none, some 108, some 112, some 113]) else
  if k = 1 then some (3, [some 2, some 4, none, none]) else
  if k = 2 then some (5, [some 3, none]) else
  if k = 108 then some (2, [some 109, some 110, some 111]) else
  if k = 113 then some (1, [some 114, some 115, some 116, some 117, none]) else
  if k = 118 then some (7, [none, none, none, none, none, some 119, some 120, some 121, some 122, some 123, none, none, some 124, some 125, some 126, some 127, some 128, none, some 129, some 130, some 131, some 132, some 133, some 134, none, none, none, none, none, some 135, some 136, some 137, some 138, some 139, none, some 140]) else
  if 7 ≤ k ∧ k < 47 ∧ (k - 7) % 5 = 0 then some (0, [some (k + 1), some (k + 2), some (k + 3), some (k + 4), none, none, none, none]) else
  if 48 ≤ k ∧ k < 108 then some (4, [none, none, none, none, none, none, none]) else none
def ar (k : Nat) : Option (Nat × Nat) :=
  if k = 3 then some (1, 400) else
  if k = 4 then some (1, 4) else
  if k = 5 then some (1, 4) else
  if k = 109 then some (1, 4) else
  if k = 110 then some (1, 4) else
  if k = 111 then some (1, 4) else
  if k = 112 then some (1, 31) else
  if k = 114 then some (1, 9) else
  if k = 115 then some (1, 9) else
  if k = 116 then some (1, 9) else
  if k = 117 then some (1, 512) else
  if k = 119 then some (1, 8) else
  if k = 120 then some (2, 8) else
  if k = 121 then some (1, 8) else
  if k = 122 then some (1, 8) else
  if k = 123 then some (1, 8) else
  if k = 124 then some (1, 160) else
  if k = 125 then some (1, 160) else
  if k = 126 then some (1, 160) else
  if k = 127 then some (2, 160) else
  if k = 128 then some (1, 420) else
  if k = 129 then some (1, 4) else
  if k = 130 then some (1, 4) else
  if k = 131 then some (1, 4) else
  if k = 132 then some (1, 4) else
  if k = 133 then some (1, 4) else
  if k = 134 then some (0, 400) else
  if k = 135 then some (1, 5) else
  if k = 136 then some (1, 31) else
  if k = 137 then some (1, 9) else
  if k = 138 then some (1, 9) else
  if k = 139 then some (1, 9) else
  if k = 140 then some (1, 512) else
  if 7 ≤ k ∧ k < 47 ∧ (k - 7) % 5 = 4 then some (2, 20) else
  if 7 ≤ k ∧ k < 47 then some (1, 20) else none
def AR (k t n : Nat) : Prop := fl k = none ∧ ar k = some (t, n) ∧ k < 142
def fls (ad : Nat → Nat) (f : Nat → Int32) : Nat → List (Option Nat) → List Value
  | _, [] => []
  | j, some r :: t => .ref (ad r) :: fls ad f (j + 1) t
  | j, none :: t => .int (f j) :: fls ad f (j + 1) t
def cel (ad : Nat → Nat) (cy : Nat → ClassId) (lf : Nat → Int64) (M : Mem) (k : Nat) : va_E := match fl k with
  | some (ci, l) => .inr (ci, fls ad (M k) 0 l)
  | none => match ar k with
    | some (t, n) => .inl (cy t, n, .inl (M k))
    | none => if k = 6 then .inl (cy 3, 8, .inr (.inr (.inr (.inr (fun i => if i < 8 then some (ad (7 + 5 * i)) else none))))) else if k = 47 then .inl (cy 4, 60, .inr (.inr (.inr (.inr (fun i => if i < 60 then some (ad (48 + i)) else none))))) else .inl (cy 5, 1, .inr (.inl lf))
def wM (ad : Nat → Nat) (cy : Nat → ClassId) (lf : Nat → Int64) (M : Mem) : va_W := (List.range 142).map (fun k => (ad k, cel ad cy lf M k))
def Inj (ad : Nat → Nat) : Prop := ∀ i j, i < 142 → j < 142 → ad i = ad j → i = j
theorem fls_none {ad : Nat → Nat} {f : Nat → Int32} : ∀ (l : List (Option Nat)) (b j : Nat), l[j]? = some none → (fls ad f b l)[j]? = some (.int (f (b + j))) := by
  intro l
  induction l with
  | nil => intro b j h; simp at h
  | cons a t ih =>
    intro b j h
    cases j with
    | zero => cases a with
      | none => simp [fls]
      | some r => simp at h
    | succ j =>
      have h' : t[j]? = some none := by simpa using h
      have := ih (b + 1) j h'
      rw [show b + 1 + j = b + (j + 1) by omega] at this
      cases a <;> simpa [fls] using this
theorem fls_some {ad : Nat → Nat} {f : Nat → Int32} {r : Nat} : ∀ (l : List (Option Nat)) (b j : Nat), l[j]? = some (some r) → (fls ad f b l)[j]? = some (.ref (ad r)) := by
  intro l
  induction l with
  | nil => intro b j h; simp at h
  | cons a t ih =>
    intro b j h
    cases j with
    | zero => cases a with
      | none => simp at h
      | some r' => simp at h; subst h; simp [fls]
    | succ j =>
      have h' : t[j]? = some (some r) := by simpa using h
      have := ih (b + 1) j h'
      cases a <;> simpa [fls] using this
theorem fls_len {ad : Nat → Nat} {f : Nat → Int32} : ∀ (l : List (Option Nat)) (b : Nat), (fls ad f b l).length = l.length := by
  intro l
  induction l with
  | nil => intro b; rfl
  | cons a t ih => intro b; cases a <;> simp [fls, ih (b + 1)]
theorem fls_put {ad : Nat → Nat} {f : Nat → Int32} {v : Int32} : ∀ (l : List (Option Nat)) (b j : Nat), l[j]? = some none → (fls ad f b l).set j (.int v) = fls ad (fun q => if q = b + j then v else f q) b l := by
  intro l
  induction l with
  | nil => intro b j h; simp at h
  | cons a t ih =>
    intro b j h
    have same : ∀ (t : List (Option Nat)) (c : Nat), b + j < c → fls ad (fun q => if q = b + j then v else f q) c t = fls ad f c t := by
      intro t
      induction t with
      | nil => intro c _; rfl
      | cons a' t' ih' =>
        intro c hc
        cases a' with
        | none => simp only [fls, ih' (c + 1) (by omega)]; rw [if_neg (by omega)]
        | some r => simp only [fls, ih' (c + 1) (by omega)]
    cases j with
    | zero => cases a with
      | none =>
        simp only [fls, List.set_cons_zero]
        rw [if_pos (by omega), same t (b + 1) (by omega)]
      | some r => simp at h
    | succ j =>
      have h' : t[j]? = some none := by simpa using h
      have e := ih (b + 1) j h'
      rw [show b + 1 + j = b + (j + 1) by omega] at e
      cases a with
      | none =>
        simp only [fls, List.set_cons_succ, e]
        rw [if_neg (by omega)]
      | some r => simp only [fls, List.set_cons_succ, e]
theorem fl_lt {k : Nat} {x : Nat × List (Option Nat)} (h : fl k = some x) : k < 142 := by
  unfold fl at h
  repeat' (split at h)
  all_goals (first | omega | simp at h)
theorem wM_at {ad : Nat → Nat} {cy : Nat → ClassId} {lf : Nat → Int64} {M : Mem} {k : Nat} (h : k < 142) : (wM ad cy lf M)[k]? = some (ad k, cel ad cy lf M k) := by
  simp [wM, h]
theorem wM_set {ad : Nat → Nat} {cy : Nat → ClassId} {lf lf' : Nat → Int64} {M M' : Mem} {k : Nat} {e : va_E} (hk : k < 142) (h1 : cel ad cy lf' M' k = e) (h2 : ∀ k', k' ≠ k → cel ad cy lf' M' k' = cel ad cy lf M k') : (wM ad cy lf M).set k (ad k, e) = wM ad cy lf' M' := by
  apply List.ext_getElem?
  intro q
  rw [List.getElem?_set]
  by_cases e1 : k = q
  · subst e1
    rw [if_pos rfl, wM_at hk, if_pos (by simp [wM]; omega), h1]
  · rw [if_neg e1]
    by_cases hq : q < 142
    · rw [wM_at hq, wM_at hq, h2 q (fun e => e1 e.symm)]
    · rw [List.getElem?_eq_none (by simp [wM]; omega), List.getElem?_eq_none (by simp [wM]; omega)]
theorem cel_obj {ad : Nat → Nat} {cy : Nat → ClassId} {lf : Nat → Int64} {M : Mem} {k ci : Nat} {l : List (Option Nat)} (h : fl k = some (ci, l)) : cel ad cy lf M k = .inr (ci, fls ad (M k) 0 l) := by simp only [cel, h]
theorem cel_arr {ad : Nat → Nat} {cy : Nat → ClassId} {lf : Nat → Int64} {M : Mem} {k t n : Nat} (h : AR k t n) : cel ad cy lf M k = .inl (cy t, n, .inl (M k)) := by simp only [cel, h.1, h.2.1]
theorem cel_ext {ad : Nat → Nat} {cy : Nat → ClassId} {lf : Nat → Int64} {M M' : Mem} {k : Nat} (h : M' k = M k) : cel ad cy lf M' k = cel ad cy lf M k := by simp only [cel, h]
theorem mup_ne {M : Mem} {k j k' : Nat} {v : Int32} (h : k' ≠ k) : mup M k j v k' = M k' := by funext j'; simp [mup, h]
theorem mup_row {M : Mem} {k j : Nat} {v : Int32} : mup M k j v k = fun q => if q = j then v else M k q := by funext j'; simp [mup]
theorem vp_lt {i : Int32} {n : Nat} (h : vp_in i n) : i.toNatClampNeg < n := by
  unfold vp_in at h
  omega
section IR
variable {G : Gx} {ad : Nat → Nat} {lf : Nat → Int64} {M : Mem}
theorem i_I {ci j k : Nat} {l : List (Option Nat)} {T : Int32 → Prop} (hs : fl k = some (ci, l)) (hj : l[j]? = some none) (h : T (M k j)) : qI ci j (ad k) (wM ad (gc G) lf M) T :=
  ⟨k, _, M k j, by rw [wM_at (fl_lt hs), cel_obj hs], by have := fls_none (ad := ad) (f := M k) l 0 j hj; rw [Nat.zero_add] at this; exact this, h⟩
theorem i_R {ci j k r : Nat} {l : List (Option Nat)} {T : Nat → Prop} (hs : fl k = some (ci, l)) (hj : l[j]? = some (some r)) (h : T (ad r)) : qR ci j (ad k) (wM ad (gc G) lf M) T :=
  ⟨k, _, ad r, by rw [wM_at (fl_lt hs), cel_obj hs], fls_some l 0 j hj, h⟩
theorem i_P {ci j k : Nat} {v : Int32} {l : List (Option Nat)} {T : va_W → Prop} (hs : fl k = some (ci, l)) (hj : l[j]? = some none) (h : T (wM ad (gc G) lf (mup M k j v))) : qP ci j (ad k) (.int v) (wM ad (gc G) lf M) T := by
  refine ⟨k, _, by rw [wM_at (fl_lt hs), cel_obj hs], by rw [fls_len]; exact (List.getElem?_eq_some_iff.mp hj).1, ?_⟩
  rw [wM_set (lf' := lf) (M' := mup M k j v) (fl_lt hs)]
  · exact h
  · rw [cel_obj hs, fls_put l 0 j hj, mup_row]
    simp only [Nat.zero_add]
  · intro k' hk'
    exact cel_ext (mup_ne hk')
theorem i_A {t n k : Nat} {i : Int32} {T : Int32 → Prop} (ha : AR k t n) (hi : vp_in i n) (h : T (M k i.toNatClampNeg)) : qA (gc G t) (ad k) i (wM ad (gc G) lf M) T :=
  ⟨k, n, M k, by rw [wM_at ha.2.2, cel_arr ha], hi, h⟩
theorem i_S {t n k : Nat} {i x : Int32} {T : va_W → Prop} (ha : AR k t n) (hi : vp_in i n) (h : T (wM ad (gc G) lf (mup M k i.toNatClampNeg x))) : qS (gc G t) (ad k) i x (wM ad (gc G) lf M) T := by
  refine ⟨k, n, M k, by rw [wM_at ha.2.2, cel_arr ha], hi, ?_⟩
  rw [wM_set (lf' := lf) (M' := mup M k i.toNatClampNeg x) ha.2.2]
  · exact h
  · rw [cel_arr ha, mup_row]
    rfl
  · intro k' hk'
    exact cel_ext (mup_ne hk')
theorem i_QC {i : Int32} {T : Nat → Prop} (hi : vp_in i 8) (h : T (ad (7 + 5 * i.toNatClampNeg))) : qQ (gc G 3) (ad 6) i (wM ad (gc G) lf M) T :=
  ⟨6, 8, _, _, by rw [wM_at (by decide)]; rfl, hi, by rw [if_pos (vp_lt hi)], h⟩
theorem i_QS {i : Int32} {T : Nat → Prop} (hi : vp_in i 60) (h : T (ad (48 + i.toNatClampNeg))) : qQ (gc G 4) (ad 47) i (wM ad (gc G) lf M) T :=
  ⟨47, 60, _, _, by rw [wM_at (by decide)]; rfl, hi, by rw [if_pos (vp_lt hi)], h⟩
theorem i_V {ci k : Nat} {l : List (Option Nat)} (hs : fl k = some (ci, l)) : qV ci (ad k) (wM ad (gc G) lf M) := ⟨k, _, by rw [wM_at (fl_lt hs), cel_obj hs]⟩
theorem i_acmp {a b : Nat} {A B : Prop} (hA : Inj ad) (ha : a < 8) (hb : b < 8) (h1 : a = b → A) (h2 : ¬ a = b → B) : (ad (7 + 5 * a) = ad (7 + 5 * b) → A) ∧ (¬ ad (7 + 5 * a) = ad (7 + 5 * b) → B) :=
  ⟨fun h => h1 (by have := hA _ _ (by omega) (by omega) h; omega), fun h => h2 (fun e => h (by rw [e]))⟩
theorem i_C {k0 k1 : Nat} {T : va_W → Prop} (h0 : AR k0 1 4) (h1 : AR k1 1 4) (h : T (wM ad (gc G) lf (mcp M k0 k1))) : qC (gc G 1) (ad k0) (0 : Int32) (ad k1) (0 : Int32) (4 : Int32) (wM ad (gc G) lf M) T := by
  refine ⟨k0, k1, 4, 4, M k0, M k1, by rw [wM_at h0.2.2, cel_arr h0], by rw [wM_at h1.2.2, cel_arr h1], by decide, by decide, by decide, by decide, by decide, ?_⟩
  rw [wM_set (lf' := lf) (M' := mcp M k0 k1) h1.2.2]
  · exact h
  · rw [cel_arr h1]
    have e : mcp M k0 k1 k1 = va_cpy (M k0) (M k1) (0 : Int32).toNatClampNeg (0 : Int32).toNatClampNeg (4 : Int32).toNatClampNeg := by
      funext j
      show (if k1 = k1 ∧ j < 4 then M k0 j else M k1 j) = (if 0 ≤ j ∧ j < 0 + 4 then M k0 (0 + (j - 0)) else M k1 j)
      by_cases hj : j < 4
      · rw [if_pos ⟨rfl, hj⟩, if_pos ⟨by omega, by omega⟩]; congr 1; omega
      · rw [if_neg (fun h => hj h.2), if_neg (fun h => hj (by omega))]
    rw [e]
  · intro k' hk'
    refine cel_ext ?_
    funext j
    show (if k' = k1 ∧ j < 4 then M k0 j else M k' j) = M k' j
    rw [if_neg (fun h => hk' h.1)]
theorem i_Ln {w : Nat} {T : Int32 → Prop} (hw : w < 6) (h : T (nI (wLen.getD w 0))) : qLn G (gk G w) T := ⟨w, hw, rfl, h⟩
theorem i_Ch {w : Nat} {j : Int32} {T : Int32 → Prop} (hw : w < 6) (hj : vp_in j (wLen.getD w 0)) (h : T ((wByt.getD w []).getD j.toNatClampNeg 0)) : qCh G (gk G w) j T := ⟨w, hw, rfl, hj, h⟩
end IR
theorem fl_X6 : fl 0 = some (6, [some 1, some 2, some 5, none, some 6, none, none, none, none, none, some 47, none, none, some 108, some 112, some 113]) := rfl
theorem fl_X3 : fl 1 = some (3, [some 2, some 4, none, none]) := rfl
theorem fl_X5 : fl 2 = some (5, [some 3, none]) := rfl
theorem fl_X2 : fl 108 = some (2, [some 109, some 110, some 111]) := rfl
theorem fl_X1 : fl 113 = some (1, [some 114, some 115, some 116, some 117, none]) := rfl
theorem fl_X7 : fl 118 = some (7, [none, none, none, none, none, some 119, some 120, some 121, some 122, some 123, none, none, some 124, some 125, some 126, some 127, some 128, none, some 129, some 130, some 131, some 132, some 133, some 134, none, none, none, none, none, some 135, some 136, some 137, some 138, some 139, none, some 140]) := rfl
theorem fl_C {c : Nat} (h : c < 8) : fl (7 + 5 * c) = some (0, [some (8 + 5 * c), some (9 + 5 * c), some (10 + 5 * c), some (11 + 5 * c), none, none, none, none]) := by
  have : c = 0 ∨ c = 1 ∨ c = 2 ∨ c = 3 ∨ c = 4 ∨ c = 5 ∨ c = 6 ∨ c = 7 := by omega
  rcases this with rfl | rfl | rfl | rfl | rfl | rfl | rfl | rfl <;> rfl
theorem fl_S {j : Nat} (h : j < 60) : fl (48 + j) = some (4, [none, none, none, none, none, none, none]) := by
  unfold fl
  rw [if_neg (by omega), if_neg (by omega), if_neg (by omega), if_neg (by omega), if_neg (by omega), if_neg (by omega), if_neg (by omega), if_pos (by omega)]
theorem ar_3 : AR 3 1 400 := ⟨rfl, rfl, by decide⟩
theorem ar_4 : AR 4 1 4 := ⟨rfl, rfl, by decide⟩
theorem ar_5 : AR 5 1 4 := ⟨rfl, rfl, by decide⟩
theorem ar_109 : AR 109 1 4 := ⟨rfl, rfl, by decide⟩
theorem ar_110 : AR 110 1 4 := ⟨rfl, rfl, by decide⟩
theorem ar_111 : AR 111 1 4 := ⟨rfl, rfl, by decide⟩
theorem ar_112 : AR 112 1 31 := ⟨rfl, rfl, by decide⟩
theorem ar_114 : AR 114 1 9 := ⟨rfl, rfl, by decide⟩
theorem ar_115 : AR 115 1 9 := ⟨rfl, rfl, by decide⟩
theorem ar_116 : AR 116 1 9 := ⟨rfl, rfl, by decide⟩
theorem ar_117 : AR 117 1 512 := ⟨rfl, rfl, by decide⟩
theorem ar_119 : AR 119 1 8 := ⟨rfl, rfl, by decide⟩
theorem ar_120 : AR 120 2 8 := ⟨rfl, rfl, by decide⟩
theorem ar_121 : AR 121 1 8 := ⟨rfl, rfl, by decide⟩
theorem ar_122 : AR 122 1 8 := ⟨rfl, rfl, by decide⟩
theorem ar_123 : AR 123 1 8 := ⟨rfl, rfl, by decide⟩
theorem ar_124 : AR 124 1 160 := ⟨rfl, rfl, by decide⟩
theorem ar_125 : AR 125 1 160 := ⟨rfl, rfl, by decide⟩
theorem ar_126 : AR 126 1 160 := ⟨rfl, rfl, by decide⟩
theorem ar_127 : AR 127 2 160 := ⟨rfl, rfl, by decide⟩
theorem ar_128 : AR 128 1 420 := ⟨rfl, rfl, by decide⟩
theorem ar_129 : AR 129 1 4 := ⟨rfl, rfl, by decide⟩
theorem ar_130 : AR 130 1 4 := ⟨rfl, rfl, by decide⟩
theorem ar_131 : AR 131 1 4 := ⟨rfl, rfl, by decide⟩
theorem ar_132 : AR 132 1 4 := ⟨rfl, rfl, by decide⟩
theorem ar_133 : AR 133 1 4 := ⟨rfl, rfl, by decide⟩
theorem ar_134 : AR 134 0 400 := ⟨rfl, rfl, by decide⟩
theorem ar_135 : AR 135 1 5 := ⟨rfl, rfl, by decide⟩
theorem ar_136 : AR 136 1 31 := ⟨rfl, rfl, by decide⟩
theorem ar_137 : AR 137 1 9 := ⟨rfl, rfl, by decide⟩
theorem ar_138 : AR 138 1 9 := ⟨rfl, rfl, by decide⟩
theorem ar_139 : AR 139 1 9 := ⟨rfl, rfl, by decide⟩
theorem ar_140 : AR 140 1 512 := ⟨rfl, rfl, by decide⟩
theorem ar_C0 {c : Nat} (h : c < 8) : AR (8 + 5 * c) 1 20 := by
  have : c = 0 ∨ c = 1 ∨ c = 2 ∨ c = 3 ∨ c = 4 ∨ c = 5 ∨ c = 6 ∨ c = 7 := by omega
  rcases this with rfl | rfl | rfl | rfl | rfl | rfl | rfl | rfl <;> exact ⟨rfl, rfl, by decide⟩
theorem ar_C1 {c : Nat} (h : c < 8) : AR (9 + 5 * c) 1 20 := by
  have : c = 0 ∨ c = 1 ∨ c = 2 ∨ c = 3 ∨ c = 4 ∨ c = 5 ∨ c = 6 ∨ c = 7 := by omega
  rcases this with rfl | rfl | rfl | rfl | rfl | rfl | rfl | rfl <;> exact ⟨rfl, rfl, by decide⟩
theorem ar_C2 {c : Nat} (h : c < 8) : AR (10 + 5 * c) 1 20 := by
  have : c = 0 ∨ c = 1 ∨ c = 2 ∨ c = 3 ∨ c = 4 ∨ c = 5 ∨ c = 6 ∨ c = 7 := by omega
  rcases this with rfl | rfl | rfl | rfl | rfl | rfl | rfl | rfl <;> exact ⟨rfl, rfl, by decide⟩
theorem ar_C3 {c : Nat} (h : c < 8) : AR (11 + 5 * c) 2 20 := by
  have : c = 0 ∨ c = 1 ∨ c = 2 ∨ c = 3 ∨ c = 4 ∨ c = 5 ∨ c = 6 ∨ c = 7 := by omega
  rcases this with rfl | rfl | rfl | rfl | rfl | rfl | rfl | rfl <;> exact ⟨rfl, rfl, by decide⟩
