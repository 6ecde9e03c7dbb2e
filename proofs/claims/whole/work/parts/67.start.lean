/-! ===== what holds at the law's start: the old things, the array classes ===== -/
def nfl : List Cond := flatC (Jvm.Cond.and given_1 narrow_1)
abbrev tmw (i : Nat) : Term := .string RX3 (wX3.getD i 0)
set_option maxRecDepth 100000 in
theorem nf_ex3 : ∀ i, i < 6 → Cond.exactly (tmw i) "java/lang/String" ∈ nfl := by decide +kernel
set_option maxRecDepth 100000 in
theorem nf_co3 : ∀ i, i < 6 → Cond.eq (.field (tmw i) "java/lang/String" "coder" "B") (.int 0) ∈ nfl := by decide +kernel
set_option maxRecDepth 100000 in
theorem nf_ar3 : ∀ i, i < 6 → Cond.arrayOf (.field (tmw i) "java/lang/String" "value" "[B") .byte ∈ nfl := by decide +kernel
set_option maxRecDepth 100000 in
theorem nf_le3 : ∀ i, i < 6 → Cond.eq (.length (.field (tmw i) "java/lang/String" "value" "[B")) (.int (Int32.ofNat (wLen.getD i 0))) ∈ nfl := by decide +kernel
set_option maxRecDepth 100000 in
theorem nf_el3_0 : ∀ j, j < 8 → Cond.eq (.elem (.field (tmw 0) "java/lang/String" "value" "[B") (.int (Int32.ofNat j))) (.int ((wByt.getD 0 []).getD j 0)) ∈ nfl := by decide +kernel
set_option maxRecDepth 100000 in
theorem nf_el3_1 : ∀ j, j < 5 → Cond.eq (.elem (.field (tmw 1) "java/lang/String" "value" "[B") (.int (Int32.ofNat j))) (.int ((wByt.getD 1 []).getD j 0)) ∈ nfl := by decide +kernel
set_option maxRecDepth 100000 in
theorem nf_el3_2 : ∀ j, j < 4 → Cond.eq (.elem (.field (tmw 2) "java/lang/String" "value" "[B") (.int (Int32.ofNat j))) (.int ((wByt.getD 2 []).getD j 0)) ∈ nfl := by decide +kernel
set_option maxRecDepth 100000 in
theorem nf_el3_3 : ∀ j, j < 6 → Cond.eq (.elem (.field (tmw 3) "java/lang/String" "value" "[B") (.int (Int32.ofNat j))) (.int ((wByt.getD 3 []).getD j 0)) ∈ nfl := by decide +kernel
set_option maxRecDepth 100000 in
theorem nf_el3_4 : ∀ j, j < 5 → Cond.eq (.elem (.field (tmw 4) "java/lang/String" "value" "[B") (.int (Int32.ofNat j))) (.int ((wByt.getD 4 []).getD j 0)) ∈ nfl := by decide +kernel
set_option maxRecDepth 100000 in
theorem nf_el3_5 : ∀ j, j < 5 → Cond.eq (.elem (.field (tmw 5) "java/lang/String" "value" "[B") (.int (Int32.ofNat j))) (.int ((wByt.getD 5 []).getD j 0)) ∈ nfl := by decide +kernel
theorem nf_el3 : ∀ i, i < 6 → ∀ j, j < wLen.getD i 0 → Cond.eq (.elem (.field (tmw i) "java/lang/String" "value" "[B") (.int (Int32.ofNat j))) (.int ((wByt.getD i []).getD j 0)) ∈ nfl := by
  intro i hi
  rcases (show i = 0 ∨ i = 1 ∨ i = 2 ∨ i = 3 ∨ i = 4 ∨ i = 5 by omega) with rfl | rfl | rfl | rfl | rfl | rfl
  · exact nf_el3_0
  · exact nf_el3_1
  · exact nf_el3_2
  · exact nf_el3_3
  · exact nf_el3_4
  · exact nf_el3_5
set_option maxRecDepth 100000 in
theorem nf_eq37 : ∀ i, i < 6 → Cond.eq (tmw i) (.string RX7 (wX7.getD i 0)) ∈ nfl := by decide +kernel
set_option maxRecDepth 100000 in
theorem nf_ex6 : ∀ q ∈ xstr, Cond.exactly (.string q.1 q.2.1) "java/lang/String" ∈ nfl := by decide +kernel
set_option maxRecDepth 100000 in
theorem nf_nc : ∀ E ∈ xexc, ∀ E' ∈ xexc, E ≠ E' → Cond.not (.castable E E') ∈ nfl := by decide +kernel
set_option maxRecDepth 100000 in
theorem nf_st : Cond.isRef (.static Bundle.tN "UNASSIGNED_STACK" Bundle.steD) ∈ nfl ∧ Cond.isRef (.static Bundle.tN "SUPPRESSED_SENTINEL" Bundle.listD) ∈ nfl ∧ Cond.isRef (.static RJ3 "SIOOBE_FORMATTER" "Ljava/util/function/BiFunction;") ∈ nfl ∧ Cond.eq (.static RJ0 "COMPACT_STRINGS" "Z") (.int 1) ∈ nfl := by decide +kernel
set_option maxRecDepth 100000 in
theorem tb_sta : (Cond.laysStatic Bundle.tN "UNASSIGNED_STACK" Bundle.steD ∈ lw_tbl ∧ Cond.laysStatic Bundle.tN "SUPPRESSED_SENTINEL" Bundle.listD ∈ lw_tbl ∧ Cond.laysStatic RJ3 "SIOOBE_FORMATTER" "Ljava/util/function/BiFunction;" ∈ lw_tbl ∧ Cond.laysStatic RJ0 "COMPACT_STRINGS" "Z" ∈ lw_tbl) ∧ (Cond.initialized Bundle.tN ∈ lw_tbl ∧ Cond.initialized RJ3 ∈ lw_tbl ∧ Cond.initialized RJ0 ∈ lw_tbl) := by decide +kernel
set_option maxRecDepth 100000 in
theorem tb_s6 : ∀ q ∈ xstr, Cond.stringRef q.1 q.2.1 q.2.2 ∈ lw_tbl := by decide +kernel
set_option maxRecDepth 100000 in
theorem tb_s37 : ∀ i, i < 6 → Cond.stringRef RX3 (wX3.getD i 0) (wTx.getD i "") ∈ lw_tbl ∧ Cond.stringRef RX7 (wX7.getD i 0) (wTx.getD i "") ∈ lw_tbl := by decide +kernel
set_option maxRecDepth 100000 in
theorem tb_ca : ∀ E ∈ xexc, Cond.castable E E ∈ lw_tbl := by decide +kernel
set_option maxRecDepth 100000 in
theorem tb_de : ∀ y ∈ xdec, Cond.declares y ∈ lw_tbl := by decide +kernel
set_option maxRecDepth 100000 in
theorem tb_ne : ∀ q ∈ xnst, Cond.methodLinkNest q.1 q.2.1 q.2.2 RX6 ∈ lw_tbl := by decide +kernel
set_option maxRecDepth 100000 in
theorem tb_ar : Cond.arrayClass .byte ∈ lw_tbl ∧ Cond.arrayClass .int ∈ lw_tbl ∧ Cond.arrayClass .boolean ∈ lw_tbl ∧ Cond.arrayClass .long ∈ lw_tbl ∧ Cond.arrayOver (.object "DesertChannels$Channel") ∈ lw_tbl ∧ Cond.arrayOver (.object "DesertChannels$Share") ∈ lw_tbl := by decide +kernel
theorem w_inj : ∀ i, i < 6 → ∀ j, j < 6 → wLen.getD i 0 = wLen.getD j 0 → (∀ k, k < wLen.getD i 0 → (wByt.getD i []).getD k 0 = (wByt.getD j []).getD k 0) → i = j := by decide +kernel
section START
variable {s : State} {args : Array Value}
/-- the words' texts -/
theorem st_words {A : Nat → Prop} (hn : ∀ c ∈ nfl, c.before args s = true) (hA : ∀ a : Nat, a < s.heap.size → ¬ A a) : ∃ adK adV : Nat → Nat, vk_S 6 wLen wByt adK adV A s s.heap ∧ ∀ i, i < 6 → (tmw i).eval args s none [] s = some (.ref (adK i)) := by
  have h0 : ∀ i : Nat, ∃ q : Nat × Nat, i < 6 → (tmw i).eval args s none [] s = some (.ref q.1) ∧ va_O "java/lang/String" q.1 A s s.heap ∧ va_OF "java/lang/String" "coder" "B" (.int 0) q.1 A s s.heap ∧ va_OF "java/lang/String" "value" "[B" (.ref q.2) q.1 A s s.heap ∧ va_T .byte q.2 (wLen.getD i 0) (fun j => .int ((wByt.getD i []).getD j 0)) A s s.heap := by
    intro i
    by_cases hi : i < 6
    · obtain ⟨adK, adV, hS, he⟩ := vk_Sof (args := args) (s := s) (N := 1) (tm := fun _ => tmw i) (len := [wLen.getD i 0]) (byt := [wByt.getD i []]) (A := A) (fun k hk => by rw [show k = 0 by omega]; exact (w_all i hi).1) (fun k _ => hn _ (nf_ex3 i hi)) (fun k _ => hn _ (nf_co3 i hi)) (fun k _ => hn _ (nf_ar3 i hi))
        (fun k hk => by rw [show k = 0 by omega]; exact hn _ (nf_le3 i hi)) (fun k hk j hj => by rw [show k = 0 by omega] at hj ⊢; exact hn _ (nf_el3 i hi j hj)) (fun k j hk hj hne => absurd (show k = j by omega) hne) hA
      have h1 := hS.1 0 (by omega)
      exact ⟨(adK 0, adV 0), fun _ => ⟨he 0 (by omega), h1.1, h1.2.1, h1.2.2.1, h1.2.2.2⟩⟩
    · exact ⟨(0, 0), fun h => absurd h hi⟩
  obtain ⟨ad, had⟩ := Classical.axiomOfChoice h0
  refine ⟨fun i => (ad i).1, fun i => (ad i).2, ⟨fun i hi => (had i hi).2, fun i j hi hj e => ?_⟩, fun i hi => (had i hi).1⟩
  obtain ⟨-, -, -, ⟨cf, k, n, f, cell, a1, a2, a3, a4, a5, -⟩, ⟨c1, b1, -, -, b2, b3, b4, -⟩⟩ := had i hi
  obtain ⟨-, -, -, ⟨cf', k', n', f', cell', d1, d2, d3, d4, d5, -⟩, ⟨c2, e1, -, -, e2, e3, e4, -⟩⟩ := had j hj
  have e0 : (ad i).1 = (ad j).1 := e
  cases Option.some.inj (a1.symm.trans d1)
  rw [e0] at a3
  cases Option.some.inj (a3.symm.trans d3)
  have e5 : (ad i).2 = (ad j).2 := Value.ref.inj (Option.some.inj (a5.symm.trans d5))
  rw [e5] at b1
  cases Option.some.inj (b1.symm.trans e1)
  have hl : wLen.getD i 0 = wLen.getD j 0 := by
    have h := b3.symm.trans e3
    exact (nI_eq (w_all i hi).1 (w_all j hj).1).mp h
  refine w_inj i hi j hj hl (fun q hq => ?_)
  have h := (b4 q hq).symm.trans (e4 q (by omega))
  exact Value.int.inj (Option.some.inj h)
theorem st_old {l : Launch} {D : va_G} {cy : Nat → ClassId} (hts : ∀ w ∈ lw_tbl, w.before args s = true) (hn : ∀ c ∈ nfl, c.before args s = true) : ∃ adK adV : Nat → Nat, Old (l, D, s.heap.size, cy, adK, adV) s s.heap := by
  have hA : ∀ a : Nat, a < s.heap.size → ¬ bA s.heap.size a := fun a h1 h2 => by unfold bA at h2; omega
  obtain ⟨adK, adV, hS, he⟩ := st_words (A := bA s.heap.size) hn hA
  obtain ⟨n1, n2, n3, n4⟩ := nf_st
  obtain ⟨⟨t1, t2, t3, t4⟩, t5, t6, t7⟩ := tb_sta
  refine ⟨adK, adV, vx_Zqof (hts _ t1) (hts _ t5) (hn _ n1) hA, vx_Zqof (hts _ t2) (hts _ t5) (hn _ n2) hA, fun q hq => ?_, hS, fun i hi => ⟨?_, ?_⟩, fun E hE => va_Nw.of rfl (hts _ (tb_ca E hE)), fun y hy => va_Nw.of rfl (hts _ (tb_de y hy)), fun q hq => va_Nw.of rfl (hts _ (tb_ne q hq)),
    va_Zof (hts _ t4) (hts _ t7) (va_eqt (hn _ n4)) hA, va_Zqof (hts _ t3) (hts _ t6) (hn _ n3) hA, fun E hE E' hE' hne => va_Nc.of (hn _ (nf_nc E hE E' hE' hne)), va_AO.of (hts _ tb_ar.2.2.2.2.1), va_AO.of (hts _ tb_ar.2.2.2.2.2)⟩
  · obtain ⟨a, -, -, -, h1, -⟩ := Cond.exactly_spec (args := args) (first := s) (o := none) (s := s) (idx := []) (hn _ (nf_ex6 q hq))
    exact ⟨a, vk_R.of (hts _ (tb_s6 q hq)) h1⟩
  · exact vk_R.of (hts _ (tb_s37 i hi).1) (he i hi)
  · exact vk_R.of (hts _ (tb_s37 i hi).2) (va_eqR (hn _ (nf_eq37 i hi)) (he i hi))
theorem st_prim {ty : FieldType} (h : (Cond.arrayClass ty).before args s = true) : ∃ c, ArrOfT s c ty ∧ s.vm.findClass ("[" ++ ty.toString) = some c := by
  obtain ⟨c, k, comp, h1, h2, h3⟩ := Cond.arrayClass_spec (args := args) (first := s) (o := none) (s := s) (idx := []) h
  exact ⟨c, fun n z => ⟨fun k h => (by cases h), k, h2, comp, h3⟩, h1⟩
theorem st_obj {C : String} (h : (Cond.arrayOver (.object C)).before args s = true) : ∃ c, ArrOfT s c (.object C) ∧ va_RA s c (.object C) := by
  obtain ⟨comp, c, k, h1, h2, h3, h4, h5⟩ := Cond.arrayOver_spec (args := args) (first := s) (o := none) (s := s) (idx := []) h
  exact ⟨c, fun n z => ⟨fun k h => (by cases h), k, h3, comp, h4⟩, k, comp, h3, h4, h1, h5⟩
theorem st_cy (hts : ∀ w ∈ lw_tbl, w.before args s = true) : ∃ cy : Nat → ClassId, ∀ (k : Nat) (q : ClassId × FieldType), (tyl cy)[k]? = some q → ArrOfT s q.1 q.2 ∧ va_RA s q.1 q.2 := by
  obtain ⟨c0, a0, b0⟩ := st_prim (hts _ tb_ar.1)
  obtain ⟨c1, a1, b1⟩ := st_prim (hts _ tb_ar.2.1)
  obtain ⟨c2, a2, b2⟩ := st_prim (hts _ tb_ar.2.2.1)
  obtain ⟨c5, a5, b5⟩ := st_prim (hts _ tb_ar.2.2.2.1)
  obtain ⟨c3, a3, b3⟩ := st_obj (hts _ tb_ar.2.2.2.2.1)
  obtain ⟨c4, a4, b4⟩ := st_obj (hts _ tb_ar.2.2.2.2.2)
  refine ⟨fun k => match k with | 0 => c0 | 1 => c1 | 2 => c2 | 3 => c3 | 4 => c4 | _ => c5, fun k q hq => ?_⟩
  match k, hq with
  | 0, hq => cases hq; exact ⟨a0, b0⟩
  | 1, hq => cases hq; exact ⟨a1, b1⟩
  | 2, hq => cases hq; exact ⟨a2, b2⟩
  | 3, hq => cases hq; exact ⟨a3, b3⟩
  | 4, hq => cases hq; exact ⟨a4, b4⟩
  | 5, hq => cases hq; exact ⟨a5, b5⟩
  | k + 6, hq => simp [tyl] at hq
end START
