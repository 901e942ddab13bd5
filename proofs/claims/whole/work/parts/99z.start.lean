/-! ===== what the law's entry gives ===== -/
theorem st_ws {args : Array Value} {s : State} (hts : ∀ w ∈ lw_tbl, w.before args s = true) : ∃ (dC : Nat → ClassId) (dI : Nat → Nat → Nat), ∀ (k : Nat) (q : vw_C), vwCl[k]? = some q → u_Kn s q.1 q.2.1 q.2.2 (dC k) (dI k) := by
  obtain ⟨c0, i0, h0⟩ := u_known (C := RJ0) (T := TJ0) (N := 2) (n := 4) hts (by decide +kernel) (hts (.instantiable RJ0 4) (by decide +kernel))
  obtain ⟨c1, i1, h1⟩ := u_known (C := RJx00060) (T := TJx00060) (N := 6) (n := 6) hts (by decide +kernel) (hts (.instantiable RJx00060 6) (by decide +kernel))
  obtain ⟨c2, i2, h2⟩ := u_known (C := RX0) (T := TX0) (N := 18) (n := 18) hts (by decide +kernel) (hts (.instantiable RX0 18) (by decide +kernel))
  obtain ⟨c3, i3, h3⟩ := u_known (C := RX1) (T := TX1) (N := 10) (n := 10) hts (by decide +kernel) (hts (.instantiable RX1 10) (by decide +kernel))
  obtain ⟨c4, i4, h4⟩ := u_known (C := RX2) (T := TX2) (N := 14) (n := 14) hts (by decide +kernel) (hts (.instantiable RX2 14) (by decide +kernel))
  obtain ⟨c5, i5, h5⟩ := u_known (C := RX3) (T := TX3) (N := 6) (n := 6) hts (by decide +kernel) (hts (.instantiable RX3 6) (by decide +kernel))
  obtain ⟨c6, i6, h6⟩ := u_known (C := RX4) (T := TX4) (N := 14) (n := 14) hts (by decide +kernel) (hts (.instantiable RX4 14) (by decide +kernel))
  obtain ⟨c7, i7, h7⟩ := u_known (C := RX5) (T := TX5) (N := 33) (n := 33) hts (by decide +kernel) (hts (.instantiable RX5 33) (by decide +kernel))
  refine ⟨fun k => [c0, c1, c2, c3, c4, c5, c6, c7].getD k 0, fun k => [i0, i1, i2, i3, i4, i5, i6, i7].getD k (fun _ => 0), fun k q hq => ?_⟩
  match k, hq with
  | 0, hq => cases hq; exact h0
  | 1, hq => cases hq; exact h1
  | 2, hq => cases hq; exact h2
  | 3, hq => cases hq; exact h3
  | 4, hq => cases hq; exact h4
  | 5, hq => cases hq; exact h5
  | 6, hq => cases hq; exact h6
  | 7, hq => cases hq; exact h7
  | k + 8, hq => simp [vwCl] at hq
theorem st_arr {args : Array Value} {s : State} {ty : FieldType} (h : (Cond.arrayClass ty).before args s = true) : ∃ cA : ClassId, ArrOfT s cA ty ∧ s.vm.findClass ("[" ++ ty.toString) = some cA := by
  obtain ⟨c, k, comp, h1, h2, h3⟩ := Cond.arrayClass_spec h
  exact ⟨c, fun n z => ⟨fun q e => (by cases e), k, h2, comp, h3⟩, h1⟩
theorem st_net {args : Array Value} {s : State} (h : (Cond.arrayOver tNet).before args s = true) : ∃ cA : ClassId, ArrOfT s cA tNet ∧ va_RA s cA tNet := by
  obtain ⟨comp, c, k, h1, -, h3, h4, h5⟩ := Cond.arrayOver_spec h
  exact ⟨c, fun n z => ⟨fun q e => (by cases e), k, h3, comp, h4⟩, k, comp, h3, h4, h1, h5⟩
theorem st_tys {args : Array Value} {s : State} (hts : ∀ w ∈ lw_tbl, w.before args s = true) : ∃ fC : FieldType → ClassId, ∀ (k : Nat) (q : ClassId × FieldType), ([(fC .int, .int), (fC .long, .long), (fC .boolean, .boolean), (fC .char, .char), (fC .double, .double), (fC tNet, tNet)] : List (ClassId × FieldType))[k]? = some q → ArrOfT s q.1 q.2 ∧ va_RA s q.1 q.2 := by
  obtain ⟨c0, a0, b0⟩ := st_arr (hts (.arrayClass .int) (by decide +kernel))
  obtain ⟨c1, a1, b1⟩ := st_arr (hts (.arrayClass .long) (by decide +kernel))
  obtain ⟨c2, a2, b2⟩ := st_arr (hts (.arrayClass .boolean) (by decide +kernel))
  obtain ⟨c3, a3, b3⟩ := st_arr (hts (.arrayClass .char) (by decide +kernel))
  obtain ⟨c4, a4, b4⟩ := st_arr (hts (.arrayClass .double) (by decide +kernel))
  obtain ⟨c5, a5, b5⟩ := st_net (hts (.arrayOver tNet) (by decide +kernel))
  refine ⟨fun t => match t with
    | .int => c0
    | .long => c1
    | .boolean => c2
    | .char => c3
    | .double => c4
    | _ => c5, fun k q hq => ?_⟩
  match k, hq with
  | 0, hq => cases hq; exact ⟨a0, b0⟩
  | 1, hq => cases hq; exact ⟨a1, b1⟩
  | 2, hq => cases hq; exact ⟨a2, b2⟩
  | 3, hq => cases hq; exact ⟨a3, b3⟩
  | 4, hq => cases hq; exact ⟨a4, b4⟩
  | 5, hq => cases hq; exact ⟨a5, b5⟩
  | k + 6, hq => simp at hq
/-- a static array of seven ints -/
theorem st_vals {args : Array Value} {s : State} {nm : String} {vs : List Int32} {B : Nat} (hB : s.heap.size = B) (hl : (Cond.laysStatic "HeatNetwork" nm "[I").before args s = true) (hi : (Cond.initialized "HeatNetwork").before args s = true) (ha : (Cond.arrayOf (.static "HeatNetwork" nm "[I") .int).before args s = true) (hn : (Cond.eq (.length (.static "HeatNetwork" nm "[I")) (.int 7)).before args s = true) (he : ∀ j, j < 7 → (Cond.eq (.elem (.static "HeatNetwork" nm "[I") (.int (Int32.ofNat j))) (.int (vs.getD j 0))).before args s = true) : ∃ t : Nat, (Term.static "HeatNetwork" nm "[I").eval args s none [] s = some (.ref t) ∧ va_Z "HeatNetwork" nm "[I" (.ref t) (fun q => B ≤ q) s s.heap ∧ va_T .int t 7 (fun j => .int (vs.getD j 0)) (fun q => B ≤ q) s s.heap := by
  have hA : ∀ a : Nat, a < s.heap.size → ¬ B ≤ a := fun a q => by omega
  obtain ⟨t, ht, hT⟩ := va_Tof (N := 7) (f := fun j => .int (vs.getD j 0)) (A := fun q => B ≤ q) (by decide) ha (va_eqt hn) (fun j hj => va_eqt (he j hj)) hA
  exact ⟨t, ht, va_Zof hl hi ht hA, hT⟩
theorem len_lt {args : Array Value} {s : State} {t : Term} {v : Value} (h : (Term.length t).eval args s none [] s = some v) {a : Addr} {cell : Cell} (e1 : t.eval args s none [] s = some (.ref a)) (e2 : s.arrayAt? a = some cell) : cell.slots.size < 2 ^ 31 := by
  apply Classical.byContradiction
  intro hc
  simp only [Term.eval, e1, e2, Option.bind_eq_bind, Option.bind_some] at h
  rw [if_neg hc] at h
  cases h
abbrev gvC : Cond := Jvm.Cond.and given_1 narrow_1
theorem nb_on {w : Cond} (h : nbWord w = true) : w.onTables = true := by
  cases w <;> first | rfl | cases h
theorem strs_ok : ∀ q ∈ strs, Cond.stringRef "HeatNetwork" q.1 q.2 ∈ lw_tbl ∧ Cond.exactly (.string "HeatNetwork" q.1) "java/lang/String" ∈ flatC gvC := by decide +kernel
theorem nc_ok : ∀ q ∈ NC, Cond.not (.castable q.1 q.2) ∈ flatC gvC := by decide +kernel
theorem LV_ok : ∀ j, j < 7 → Cond.eq (.elem (.static "HeatNetwork" "LEAST_VALUES" "[I") (.int (Int32.ofNat j))) (.int (LV.getD j 0)) ∈ flatC gvC := by decide +kernel
theorem GV_ok : ∀ j, j < 7 → Cond.eq (.elem (.static "HeatNetwork" "GREATEST_VALUES" "[I") (.int (Int32.ofNat j))) (.int (GV.getD j 0)) ∈ flatC gvC := by decide +kernel
theorem FV_ok : ∀ j, j < 7 → Cond.eq (.elem (.static "HeatNetwork" "FIRST_VALUES" "[I") (.int (Int32.ofNat j))) (.int (FVs.getD j 0)) ∈ flatC gvC := by decide +kernel
theorem st_KC {args : Array Value} {s : State} {b : Nat} (hts : ∀ w ∈ lw_tbl, w.before args s = true) (hgv : gvC.before args s = true) : ∃ g : Gh, KC g s ∧ gB g = s.heap.size ∧ (∀ i : Nat, i < 235 → gA g i = gB g + i) ∧ gA g 1003 = b := by
  have hs := flat_of_before _ hgv
  obtain ⟨dC, dI, hK⟩ := st_ws hts
  obtain ⟨fC, hT⟩ := st_tys hts
  have hini := hts (.initialized "HeatNetwork") (by decide +kernel)
  obtain ⟨tL, -, zL1, zL2⟩ := st_vals (nm := "LEAST_VALUES") (vs := LV) rfl (hts _ (by decide +kernel)) hini (hs _ (by decide +kernel)) (hs _ (by decide +kernel)) (fun j hj => hs _ (LV_ok j hj))
  obtain ⟨tG, -, zG1, zG2⟩ := st_vals (nm := "GREATEST_VALUES") (vs := GV) rfl (hts _ (by decide +kernel)) hini (hs _ (by decide +kernel)) (hs _ (by decide +kernel)) (fun j hj => hs _ (GV_ok j hj))
  obtain ⟨tF, etF, zF1, zF2⟩ := st_vals (nm := "FIRST_VALUES") (vs := FVs) rfl (hts _ (by decide +kernel)) hini (hs _ (by decide +kernel)) (hs _ (by decide +kernel)) (fun j hj => hs _ (FV_ok j hj))
  have hA : ∀ a : Nat, a < s.heap.size → ¬ s.heap.size ≤ a := fun a q => by omega
  refine ⟨((dC, dI), fC, fun i => if i < 235 then s.heap.size + i else if i = 1001 then tL else if i = 1002 then tG else b, s.heap.size), ⟨⟨⟨hK, hT⟩, fun i j hi hj e => ?_, fun i hi => ?_, Nat.le_refl _, ⟨zL1, zL2⟩, ⟨zG1, zG2⟩, vx_Zqof (hts _ (by decide +kernel)) (hts _ (by decide +kernel)) (hs _ (by decide +kernel)) hA, vx_Zqof (hts _ (by decide +kernel)) (hts _ (by decide +kernel)) (hs _ (by decide +kernel)) hA, fun q hq => ?_, fun w hw => ?_, fun q hq => va_Nc.of (hs _ (nc_ok q hq))⟩, va_AO.of (hts _ (by decide +kernel)), va_Nw.of rfl (hts _ (by decide +kernel)), ?_⟩, rfl, fun i hi => if_pos hi, rfl⟩
  · have e' : (if i < 235 then s.heap.size + i else if i = 1001 then tL else if i = 1002 then tG else b) = (if j < 235 then s.heap.size + j else if j = 1001 then tL else if j = 1002 then tG else b) := e
    rw [if_pos hi, if_pos hj] at e'
    omega
  · show s.heap.size ≤ (if i < 235 then s.heap.size + i else if i = 1001 then tL else if i = 1002 then tG else b)
    rw [if_pos hi]
    omega
  · obtain ⟨h1, h2⟩ := strs_ok q hq
    obtain ⟨a, c, cell, k, e1, -⟩ := Cond.exactly_spec (hs _ h2)
    exact ⟨a, vk_R.of (hts _ h1) e1⟩
  · exact va_Nw.of (nb_on (List.mem_filter.mp hw).2) (hts w (List.mem_filter.mp hw).1)
  · obtain ⟨a, c, cell, k, e1, e2, e3, e4, e5, e6, -⟩ := Cond.exactly_spec (hs (.exactly (.static "HeatNetwork" "FIRST_VALUES" "[I") "[I") (by decide +kernel))
    cases e1.symm.trans etF
    obtain ⟨cell9, q1, q2, q3, q4, q5, q6, q7⟩ := zF2
    cases e3.symm.trans q1
    have hc : c = fC .int := Option.some.inj (e2.symm.trans (va_nm_int (hT 0 _ rfl).2))
    have hlen := va_eqt (hs (.eq (.length (.static "HeatNetwork" "FIRST_VALUES" "[I")) (.int 7)) (by decide +kernel))
    obtain ⟨a2, cell2, g1, g2, g3⟩ := Term.length_spec hlen
    have hlt := len_lt hlen g1 g2
    cases g1.symm.trans etF
    have hc2 := (State.arrayAt?_spec g2).1
    cases hc2.symm.trans e3
    have hsz : cell.slots.size = 7 := by
      have e7 : nI cell.slots.size = nI 7 := q5
      exact (nI_eq hlt (by decide)).mp e7
    refine ⟨tF, cell, zF1, e3, e6.trans hc, q2.1, q3, ?_, q7⟩
    apply Array.ext (by rw [hsz, arrV_size])
    intro i h1 h2
    rw [hsz] at h1
    have w1 := q6 i h1
    have w2 := arrV_read (fC .int) (fun j => Value.int (FVs.getD j 0)) h1
    exact Option.some.inj ((Array.getElem?_eq_getElem _).symm.trans (w1.trans (w2.symm.trans (Array.getElem?_eq_getElem _))))
