/-! ===== what the two constructors make: symbolic cells, by their number ===== -/
abbrev SF : Type := Option (Sum Nat Int32)
abbrev SE : Type := Sum (Nat × List SF) (Sum (Nat × Nat) (Nat × Nat × (Nat → Option Nat)))
def sv (ad : Nat → Nat) (x : SF) : Value := match x with
  | none => .null
  | some (.inl r) => .ref (ad r)
  | some (.inr v) => .int v
def sev (ad : Nat → Nat) (cy : Nat → ClassId) (e : SE) : va_E := match e with
  | .inl (ci, fs) => .inr (ci, fs.map (sv ad))
  | .inr (.inl (t, n)) => .inl (cy t, n, .inl (fun _ => 0))
  | .inr (.inr (t, n, g)) => .inl (cy t, n, .inr (.inr (.inr (.inr (fun i => (g i).map ad)))))
def srf (e : SE) (r : Nat) : Prop := match e with
  | .inl (_, fs) => some (Sum.inl r) ∈ fs
  | .inr (.inl _) => False
  | .inr (.inr (_, _, g)) => ∃ i, g i = some r
def mkS (cy : Nat → ClassId) (n : Nat) (ad : Nat → Nat) (S : Nat → SE) : va_W := (List.range n).map (fun k => (ad k, sev ad cy (S k)))
def upS (S : Nat → SE) (k : Nat) (e : SE) : Nat → SE := fun j => if j = k then e else S j
def Stt (cy : Nat → ClassId) (n : Nat) (ad : Nat → Nat) (S : Nat → SE) (ws : va_W) : Prop := ws = mkS cy n ad S ∧ ∀ k, k < n → ∀ r, srf (S k) r → r < n
def Ag (n : Nat) (ad ad' : Nat → Nat) : Prop := ∀ k, k < n → ad' k = ad k
theorem Ag.tr {n m : Nat} {a b c : Nat → Nat} (h : Ag n a b) (g : Ag m b c) (hm : n ≤ m) : Ag n a c := fun k hk => (g k (by omega)).trans (h k hk)
theorem upS_e {S : Nat → SE} {k : Nat} {e : SE} : upS S k e k = e := if_pos rfl
theorem upS_n {S : Nat → SE} {k j : Nat} {e : SE} (h : j ≠ k) : upS S k e j = S j := if_neg h
theorem sev_ag {ad ad' : Nat → Nat} {cy : Nat → ClassId} {e : SE} (h : ∀ r, srf e r → ad' r = ad r) : sev ad' cy e = sev ad cy e := by
  match e, h with
  | .inl (ci, fs), h =>
    show (Sum.inr (ci, fs.map (sv ad')) : va_E) = Sum.inr (ci, fs.map (sv ad))
    have : fs.map (sv ad') = fs.map (sv ad) := by
      apply List.map_congr_left
      intro x hx
      match x, hx with
      | none, _ => rfl
      | some (.inl r), hx => exact congrArg Value.ref (h r hx)
      | some (.inr v), _ => rfl
    rw [this]
  | .inr (.inl (t, n)), _ => rfl
  | .inr (.inr (t, n, g)), h =>
    have : (fun i => (g i).map ad') = (fun i => (g i).map ad) := by
      funext i
      cases hg : g i with
      | none => rfl
      | some r => exact congrArg some (h r ⟨i, hg⟩)
    show (Sum.inl (cy t, n, Sum.inr (Sum.inr (Sum.inr (Sum.inr (fun i => (g i).map ad'))))) : va_E) = _
    rw [this]
    rfl
section CT
variable {G : Gx} {cy : Nat → ClassId} {n k j ci t N : Nat} {ad : Nat → Nat} {S : Nat → SE} {ws : va_W}
theorem mk_at (hk : k < n) : (mkS cy n ad S)[k]? = some (ad k, sev ad cy (S k)) := by simp [mkS, hk]
theorem mk_set {e : SE} (hk : k < n) : (mkS cy n ad S).set k (ad k, sev ad cy e) = mkS cy n ad (upS S k e) := by
  apply List.ext_getElem?
  intro q
  rw [List.getElem?_set]
  by_cases e1 : k = q
  · subst e1
    rw [if_pos rfl, mk_at hk, if_pos (by simp [mkS]; omega), upS_e]
  · rw [if_neg e1]
    by_cases hq : q < n
    · rw [mk_at hq, mk_at hq, upS_n (fun e => e1 e.symm)]
    · rw [List.getElem?_eq_none (by simp [mkS]; omega), List.getElem?_eq_none (by simp [mkS]; omega)]
theorem Stt.cg {S' : Nat → SE} (h : Stt cy n ad S ws) (e : ∀ k, k < n → S' k = S k) : Stt cy n ad S' ws := by
  refine ⟨?_, fun k hk r hr => ?_⟩
  · rw [h.1]
    apply List.map_congr_left
    intro k hk
    rw [e k (List.mem_range.mp hk)]
  · rw [e k hk] at hr
    exact h.2 k hk r hr
theorem ex_ad (n q : Nat) (ad : Nat → Nat) : ∃ ad' : Nat → Nat, (∀ k, k ≠ n → ad' k = ad k) ∧ ad' n = q := ⟨fun k => if k = n then q else ad k, fun k hk => if_neg hk, if_pos rfl⟩
theorem Stt.app {q : Nat} {e : SE} {x : va_E} (h : Stt cy n ad S ws) (he : ∀ r, ¬ srf e r) (hv : x = sev (fun _ => 0) cy e) : ∃ ad', Ag n ad ad' ∧ ad' n = q ∧ Stt cy (n + 1) ad' (upS S n e) (ws ++ [(q, x)]) := by
  obtain ⟨ad', a1, a2⟩ := ex_ad n q ad
  refine ⟨ad', fun k hk => a1 k (by omega), a2, ?_, fun k hk r hr => ?_⟩
  · rw [h.1]
    unfold mkS
    rw [List.range_succ, List.map_append]
    congr 1
    · apply List.map_congr_left
      intro k hk
      have hk := List.mem_range.mp hk
      rw [upS_n (by omega), a1 k (by omega)]
      rw [sev_ag (ad := ad) (ad' := ad') (fun r hr => a1 r (by have := h.2 k hk r hr; omega))]
    · rw [List.map_cons, List.map_nil, upS_e, a2, hv]
      rw [sev_ag (ad := fun _ => 0) (ad' := ad') (fun r hr => absurd hr (he r))]
  · by_cases e1 : k = n
    · rw [e1, upS_e] at hr
      exact absurd hr (he r)
    · rw [upS_n e1] at hr
      have := h.2 k (by omega) r hr
      omega
theorem t_NO {fs : List Value} {T : Nat → va_W → Prop} (h : Stt cy n ad S ws) (fs' : List SF) (e : fs = fs'.map (sv (fun _ => 0))) (hn : ∀ r, ¬ some (Sum.inl r) ∈ fs') (kk : ∀ q ws' ad', Ag n ad ad' → ad' n = q → Stt cy (n + 1) ad' (upS S n (.inl (ci, fs'))) ws' → T q ws') : qNO ci fs ws T := by
  intro q
  obtain ⟨ad', g1, g2, g3⟩ := h.app (q := q) (e := .inl (ci, fs')) (x := .inr (ci, fs)) hn (by rw [e]; rfl)
  exact kk q _ ad' g1 g2 g3
theorem t_NA {T : Nat → va_W → Prop} (h : Stt cy n ad S ws) (hS : S n = .inr (.inl (t, N))) (kk : ∀ q ws' ad', Ag n ad ad' → ad' n = q → Stt cy (n + 1) ad' S ws' → T q ws') : qNA (cy t) N ws T := by
  intro q
  obtain ⟨ad', g1, g2, g3⟩ := h.app (q := q) (e := .inr (.inl (t, N))) (x := .inl (cy t, N, .inl (fun _ => 0))) (fun _ h => h) rfl
  refine kk q _ ad' g1 g2 (g3.cg (fun k hk => ?_))
  by_cases e : k = n
  · rw [e, upS_e, hS]
  · rw [upS_n e]
theorem t_NR {T : Nat → va_W → Prop} (h : Stt cy n ad S ws) (kk : ∀ q ws' ad', Ag n ad ad' → ad' n = q → Stt cy (n + 1) ad' (upS S n (.inr (.inr (t, N, fun _ => none)))) ws' → T q ws') : qNR (cy t) N ws T := by
  intro q
  obtain ⟨ad', g1, g2, g3⟩ := h.app (q := q) (e := .inr (.inr (t, N, fun _ => none))) (x := .inl (cy t, N, .inr (.inr (.inr (.inr (fun _ => none)))))) (fun r ⟨i, h⟩ => by cases h) rfl
  exact kk q _ ad' g1 g2 g3
theorem t_P {a : Nat} {v : Value} {fs : List SF} {T : va_W → Prop} (h : Stt cy n ad S ws) (hk : k < n) (ha : a = ad k) (hS : S k = .inl (ci, fs)) (hj : j < fs.length) (x : SF) (hv : v = sv ad x) (hx : ∀ r, x = some (.inl r) → r < n) (kk : ∀ ws', Stt cy n ad (upS S k (.inl (ci, fs.set j x))) ws' → T ws') : qP ci j a v ws T := by
  refine ⟨k, fs.map (sv ad), ?_, by rw [List.length_map]; exact hj, kk _ ⟨?_, fun k' hk' r hr => ?_⟩⟩
  · rw [h.1, mk_at hk, hS, ha]
    rfl
  · rw [h.1, ha, hv, ← List.map_set]
    exact mk_set (e := .inl (ci, fs.set j x)) hk
  · by_cases e1 : k' = k
    · rw [e1, upS_e] at hr
      rcases List.mem_or_eq_of_mem_set hr with h1 | h1
      · exact h.2 k hk r (by rw [hS]; exact h1)
      · exact hx r h1.symm
    · rw [upS_n e1] at hr
      exact h.2 k' hk' r hr
theorem t_R {a r : Nat} {fs : List SF} {T : Nat → Prop} (h : Stt cy n ad S ws) (hk : k < n) (ha : a = ad k) (hS : S k = .inl (ci, fs)) (hj : fs[j]? = some (some (.inl r))) (kk : T (ad r)) : qR ci j a ws T := by
  refine ⟨k, fs.map (sv ad), ad r, ?_, ?_, kk⟩
  · rw [h.1, mk_at hk, hS, ha]
    rfl
  · rw [List.getElem?_map, hj]
    rfl
theorem t_V {a : Nat} {fs : List SF} (h : Stt cy n ad S ws) (hk : k < n) (ha : a = ad k) (hS : S k = .inl (ci, fs)) : qV ci a ws := by
  refine ⟨k, fs.map (sv ad), ?_⟩
  rw [h.1, mk_at hk, hS, ha]
  rfl
theorem t_W {a v k2 : Nat} {g : Nat → Option Nat} {fs : List SF} {T : va_W → Prop} (h : Stt cy n ad S ws) (hk : k < n) (ha : a = ad k) (hS : S k = .inr (.inr (t, N, g))) (hj : j < N) (hN : N < 2 ^ 31) (hk2 : k2 < n) (hv : v = ad k2) (hS2 : S k2 = .inl (ci, fs)) (kk : ∀ ws', Stt cy n ad (upS S k (.inr (.inr (t, N, fun i => if i = j then some k2 else g i)))) ws' → T ws') : qW (cy t) ci a (nI j) v ws T := by
  refine ⟨k, N, fun i => (g i).map ad, k2, fs.map (sv ad), ?_, vp_in_nI hj hN, ?_, kk _ ⟨?_, fun k' hk' r hr => ?_⟩⟩
  · rw [h.1, mk_at hk, hS, ha]
    rfl
  · rw [h.1, mk_at hk2, hS2, hv]
    rfl
  · rw [h.1, ha, hv, nI_clamp (by omega)]
    have e : va_up (fun i => (g i).map ad) j (some (ad k2)) = fun i => (if i = j then some k2 else g i).map ad := by
      funext i
      unfold va_up
      by_cases e : i = j
      · rw [if_pos e, if_pos e]; rfl
      · rw [if_neg e, if_neg e]
    rw [e]
    exact mk_set (e := .inr (.inr (t, N, fun i => if i = j then some k2 else g i))) hk
  · by_cases e1 : k' = k
    · rw [e1, upS_e] at hr
      obtain ⟨i, hi⟩ := hr
      have hi : (if i = j then some k2 else g i) = some r := hi
      by_cases e : i = j
      · rw [if_pos e] at hi
        cases hi
        exact hk2
      · rw [if_neg e] at hi
        exact h.2 k hk r (by rw [hS]; exact ⟨i, hi⟩)
    · rw [upS_n e1] at hr
      exact h.2 k' hk' r hr
/-- a row is made and put into a place of an object that stands open -/
theorem t_AP {a : Nat} {fs : List SF} {T : va_W → Prop} (h : Stt cy n ad (upS S k (.inl (ci, fs))) ws) (hk : k < n) (ha : a = ad k) (hS : S n = .inr (.inl (t, N))) (hj : j < fs.length) (kk : ∀ ws' ad', Ag n ad ad' → Stt cy (n + 1) ad' (upS S k (.inl (ci, fs.set j (some (.inl n))))) ws' → T ws') : qNA (cy t) N ws (fun q ws => qP ci j a (.ref q) ws T) := by
  refine t_NA h (by rw [upS_n (by omega)]; exact hS) (fun q ws1 ad1 g1 g2 h1 => ?_)
  refine t_P h1 (k := k) (by omega) (ha.trans (g1 k hk).symm) upS_e hj (some (.inl n)) (by rw [← g2]; rfl) (fun r hr => by cases hr; omega) (fun ws2 h2 => kk ws2 ad1 g1 (h2.cg (fun i hi => ?_)))
  by_cases e : i = k
  · rw [e, upS_e, upS_e]
  · rw [upS_n e, upS_n e, upS_n e]
/-- a number or a cell is put into a place of an object that stands open -/
theorem t_PP {a : Nat} {v : Value} {fs : List SF} {T : va_W → Prop} (h : Stt cy n ad (upS S k (.inl (ci, fs))) ws) (hk : k < n) (ha : a = ad k) (hj : j < fs.length) (x : SF) (hv : v = sv ad x) (hx : ∀ r, x = some (.inl r) → r < n) (kk : ∀ ws', Stt cy n ad (upS S k (.inl (ci, fs.set j x))) ws' → T ws') : qP ci j a v ws T := by
  refine t_P h hk ha upS_e hj x hv hx (fun ws2 h2 => kk ws2 (h2.cg (fun i hi => ?_)))
  by_cases e : i = k
  · rw [e, upS_e, upS_e]
  · rw [upS_n e, upS_n e, upS_n e]
/-- an object that is complete stands no longer open -/
theorem Stt.shut {e : SE} (h : Stt cy n ad (upS S k e) ws) (he : S k = e) : Stt cy n ad S ws := h.cg (fun i hi => by
  by_cases e1 : i = k
  · rw [e1, upS_e, he]
  · rw [upS_n e1])
theorem Stt.swap {k2 : Nat} {e e2 : SE} (h : Stt cy n ad (upS (upS S k e) k2 e2) ws) (hk : k ≠ k2) : Stt cy n ad (upS (upS S k2 e2) k e) ws := h.cg (fun i hi => by
  by_cases e1 : i = k
  · rw [e1, upS_e, upS_n hk, upS_e]
  · rw [upS_n e1]
    by_cases e3 : i = k2
    · rw [e3, upS_e, upS_e]
    · rw [upS_n e3, upS_n e3, upS_n e1])
end CT
/-! ===== the world at the start ===== -/
def M0 : Mem := fun k j => if (k = 0 ∧ j = 3) ∨ (k = 118 ∧ j = 28) then -1 else if (k = 0 ∧ j = 7) ∨ (k = 118 ∧ j = 1) then 500 else if (k = 0 ∧ j = 8) ∨ (k = 118 ∧ j = 2) then 2 else 0
theorem M0_z {k j : Nat} (h : k ≠ 0) (h2 : k ≠ 118) : M0 k j = 0 := by
  unfold M0
  rw [if_neg (by omega), if_neg (by omega), if_neg (by omega)]
def fsy (f : Nat → Int32) : Nat → List (Option Nat) → List SF
  | _, [] => []
  | j, some r :: l => some (.inl r) :: fsy f (j + 1) l
  | j, none :: l => some (.inr (f j)) :: fsy f (j + 1) l
theorem fsy_map {ad : Nat → Nat} {f : Nat → Int32} : ∀ (l : List (Option Nat)) (j : Nat), (fsy f j l).map (sv ad) = fls ad f j l := by
  intro l
  induction l with
  | nil => intro j; rfl
  | cons a l ih =>
    intro j
    cases a with
    | none => simp only [fsy, fls, List.map_cons, ih]; rfl
    | some r => simp only [fsy, fls, List.map_cons, ih]; rfl
def Sf (k : Nat) : SE := match fl k with
  | some (ci, l) => .inl (ci, fsy (M0 k) 0 l)
  | none => match ar k with
    | some (t, n) => .inr (.inl (t, n))
    | none => if k = 6 then .inr (.inr (3, 8, fun i => if i < 8 then some (7 + 5 * i) else none)) else if k = 47 then .inr (.inr (4, 60, fun i => if i < 60 then some (48 + i) else none)) else .inr (.inl (5, 1))
theorem Sf_o {k ci : Nat} {l : List (Option Nat)} (h : fl k = some (ci, l)) : Sf k = .inl (ci, fsy (M0 k) 0 l) := by unfold Sf; rw [h]
theorem Sf_a {k t n : Nat} (h : AR k t n) : Sf k = .inr (.inl (t, n)) := by unfold Sf; rw [h.1, h.2.1]
theorem cel_sev {G : Gx} {ad : Nat → Nat} {lf : Nat → Int64} {k : Nat} (hk : k < 141) : cel ad (gc G) lf M0 k = sev ad (gc G) (Sf k) := by
  have ho := cel_oth k hk
  cases hf : fl k with
  | some x =>
    obtain ⟨ci, l⟩ := x
    rw [Sf_o hf, cel_obj hf]
    show _ = (Sum.inr (ci, (fsy (M0 k) 0 l).map (sv ad)) : va_E)
    rw [fsy_map]
  | none =>
    cases ha : ar k with
    | some x =>
      obtain ⟨t, n⟩ := x
      have hA : AR k t n := ⟨hf, ha, by omega⟩
      rw [Sf_a hA, cel_arr hA]
      have h0 : k ≠ 0 := fun e => by rw [e] at hf; cases hf
      have h1 : k ≠ 118 := fun e => by rw [e] at hf; cases hf
      have : M0 k = fun _ => 0 := funext (fun j => M0_z h0 h1)
      rw [this]
      rfl
    | none =>
      rw [hf, ha] at ho
      rcases ho with h | h | h | h
      · exact absurd h (by decide)
      · exact absurd h (by decide)
      · subst h
        show (Sum.inl (gc G 3, 8, Sum.inr (Sum.inr (Sum.inr (Sum.inr (fun i => if i < 8 then some (ad (7 + 5 * i)) else none))))) : va_E) = Sum.inl (gc G 3, 8, Sum.inr (Sum.inr (Sum.inr (Sum.inr (fun i => (if i < 8 then some (7 + 5 * i) else none : Option Nat).map ad)))))
        have : (fun i : Nat => if i < 8 then some (ad (7 + 5 * i)) else none) = fun i => (if i < 8 then some (7 + 5 * i) else none : Option Nat).map ad := by
          funext i
          by_cases e : i < 8
          · rw [if_pos e, if_pos e]; rfl
          · rw [if_neg e, if_neg e]; rfl
        rw [this]
      · subst h
        show (Sum.inl (gc G 4, 60, Sum.inr (Sum.inr (Sum.inr (Sum.inr (fun i => if i < 60 then some (ad (48 + i)) else none))))) : va_E) = Sum.inl (gc G 4, 60, Sum.inr (Sum.inr (Sum.inr (Sum.inr (fun i => (if i < 60 then some (48 + i) else none : Option Nat).map ad)))))
        have : (fun i : Nat => if i < 60 then some (ad (48 + i)) else none) = fun i => (if i < 60 then some (48 + i) else none : Option Nat).map ad := by
          funext i
          by_cases e : i < 60
          · rw [if_pos e, if_pos e]; rfl
          · rw [if_neg e, if_neg e]; rfl
        rw [this]
theorem Stt.fin {G : Gx} {ad : Nat → Nat} {ws : va_W} {q : Nat} (h : Stt (gc G) 141 ad Sf ws) : ∃ ad', Ag 141 ad ad' ∧ ad' 141 = q ∧ ws ++ [(q, .inl (gc G 5, 1, .inr (.inl (fun _ => 0))))] = wM ad' (gc G) (fun _ => 0) M0 := by
  obtain ⟨ad', a1, a2⟩ := ex_ad 141 q ad
  refine ⟨ad', fun k hk => a1 k (by omega), a2, ?_⟩
  rw [h.1]
  unfold mkS wM
  have e : List.range 142 = List.range 141 ++ [141] := List.range_succ
  rw [e, List.map_append]
  congr 1
  · apply List.map_congr_left
    intro k hk
    have hk := List.mem_range.mp hk
    rw [a1 k (by omega), cel_sev hk]
    rw [sev_ag (ad := ad) (ad' := ad') (fun r hr => a1 r (by have := h.2 k hk r hr; omega))]
  · rw [List.map_cons, List.map_nil, a2]
    rfl
