/-! ===== a float of the pool by a wide number ===== -/
theorem r_ldcfw {x : Ctx} {own : String} {cc : ByteArray} {nL n pc : Nat} {L : List (Nat × Value)} {S : List Value} {σ : Mem} (C : Cx x own cc nL) (pc' : Nat) {ix : Nat} {v : UInt32} (d : decode cc pc = .ok (.ldc_w ix, 3)) (hp : pc + 3 = pc') (hw : Cond.constantFloat own ix v ∈ TB) (k : Ws x n pc' L (.float v :: S) σ) : Ws x n pc L S σ := by
  obtain ⟨p, l, e, R, s, m, args, below, meth, c, g, QQ, c0, s0, nL'⟩ := x
  obtain ⟨hx, hb, hml, hown, hts, hKE, hlk, htr, rfl⟩ := C
  subst hp
  intro H locs ls hP hS hl T hT X
  obtain ⟨t, a, b⟩ := k H locs ls hP hS hl T hT X
  obtain ⟨kk, cf, hk, hcf, hcp⟩ := Cond.constantFloat_spec hown (hts _ hw)
  obtain ⟨k', hk', he⟩ := X.warmed.alike.2.2 _ _ hk
  refine ⟨t, ?_, b⟩
  jvm_step X.here [hx, hb, d, ldc_w.wp_float (s := T) (f := F0 m pc ls (S.map (rv g))) X.here.top hk' (by rw [he]; exact hcf) hcp]
  exact a
