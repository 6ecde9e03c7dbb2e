/-! ===== the classes' words in the tables ===== -/
set_option maxRecDepth 100000 in
theorem inT_X0 : ∀ w ∈ wsX00, w ∈ lw_tbl := by decide +kernel
set_option maxRecDepth 100000 in
theorem nT_X0 : Cond.instantiable RX0 8 ∈ lw_tbl := by decide +kernel
set_option maxRecDepth 100000 in
theorem inT_X1 : ∀ w ∈ wsX10, w ∈ lw_tbl := by decide +kernel
set_option maxRecDepth 100000 in
theorem nT_X1 : Cond.instantiable RX1 5 ∈ lw_tbl := by decide +kernel
set_option maxRecDepth 100000 in
theorem inT_X2 : ∀ w ∈ wsX20, w ∈ lw_tbl := by decide +kernel
set_option maxRecDepth 100000 in
theorem nT_X2 : Cond.instantiable RX2 3 ∈ lw_tbl := by decide +kernel
set_option maxRecDepth 100000 in
theorem inT_X3 : ∀ w ∈ wsX30, w ∈ lw_tbl := by decide +kernel
set_option maxRecDepth 100000 in
theorem nT_X3 : Cond.instantiable RX3 4 ∈ lw_tbl := by decide +kernel
set_option maxRecDepth 100000 in
theorem inT_X4 : ∀ w ∈ wsX40, w ∈ lw_tbl := by decide +kernel
set_option maxRecDepth 100000 in
theorem nT_X4 : Cond.instantiable RX4 7 ∈ lw_tbl := by decide +kernel
set_option maxRecDepth 100000 in
theorem inT_X5 : ∀ w ∈ wsX50, w ∈ lw_tbl := by decide +kernel
set_option maxRecDepth 100000 in
theorem nT_X5 : Cond.instantiable RX5 2 ∈ lw_tbl := by decide +kernel
set_option maxRecDepth 100000 in
theorem inT_X6 : ∀ w ∈ wsX60, w ∈ lw_tbl := by decide +kernel
set_option maxRecDepth 100000 in
theorem nT_X6 : Cond.instantiable RX6 16 ∈ lw_tbl := by decide +kernel
set_option maxRecDepth 100000 in
theorem inT_X7 : ∀ w ∈ wsX70, w ∈ lw_tbl := by decide +kernel
set_option maxRecDepth 100000 in
theorem nT_X7 : Cond.instantiable RX7 36 ∈ lw_tbl := by decide +kernel
theorem st_K {s : State} {args : Array Value} {cy : Nat → ClassId} (hts : ∀ w ∈ lw_tbl, w.before args s = true) (hcy : ∀ (k : Nat) (q : ClassId × FieldType), (tyl cy)[k]? = some q → ArrOfT s q.1 q.2 ∧ va_RA s q.1 q.2) : ∃ D : va_G, va_K D vwCl (tyl cy) s := by
  obtain ⟨c0, i0, h0⟩ := u_known (C := RX0) (T := TX0) (N := 8) (n := 8) hts inT_X0 (hts _ nT_X0)
  obtain ⟨c1, i1, h1⟩ := u_known (C := RX1) (T := TX1) (N := 5) (n := 5) hts inT_X1 (hts _ nT_X1)
  obtain ⟨c2, i2, h2⟩ := u_known (C := RX2) (T := TX2) (N := 3) (n := 3) hts inT_X2 (hts _ nT_X2)
  obtain ⟨c3, i3, h3⟩ := u_known (C := RX3) (T := TX3) (N := 4) (n := 4) hts inT_X3 (hts _ nT_X3)
  obtain ⟨c4, i4, h4⟩ := u_known (C := RX4) (T := TX4) (N := 7) (n := 7) hts inT_X4 (hts _ nT_X4)
  obtain ⟨c5, i5, h5⟩ := u_known (C := RX5) (T := TX5) (N := 2) (n := 2) hts inT_X5 (hts _ nT_X5)
  obtain ⟨c6, i6, h6⟩ := u_known (C := RX6) (T := TX6) (N := 16) (n := 16) hts inT_X6 (hts _ nT_X6)
  obtain ⟨c7, i7, h7⟩ := u_known (C := RX7) (T := TX7) (N := 36) (n := 36) hts inT_X7 (hts _ nT_X7)
  refine ⟨(fun k => match k with | 0 => c0 | 1 => c1 | 2 => c2 | 3 => c3 | 4 => c4 | 5 => c5 | 6 => c6 | _ => c7, fun k => match k with | 0 => i0 | 1 => i1 | 2 => i2 | 3 => i3 | 4 => i4 | 5 => i5 | 6 => i6 | _ => i7), fun k q hq => ?_, hcy⟩
  match k, hq with
  | 0, hq => cases hq; exact h0
  | 1, hq => cases hq; exact h1
  | 2, hq => cases hq; exact h2
  | 3, hq => cases hq; exact h3
  | 4, hq => cases hq; exact h4
  | 5, hq => cases hq; exact h5
  | 6, hq => cases hq; exact h6
  | 7, hq => cases hq; exact h7
  | k + 8, hq => simp [vwCl] at hq
