theorem k_istore {x : Ctx} {own : String} {cc : ByteArray} {nL cs sl pc N0 : Nat} {F : Op} {L : List (Nat × Value)} {S : List Value} {σ : Mem} (C : Ck x own cc nL) (pc' : Nat) (L' : List (Nat × Value)) {i : Nat} {v : Int32} (d : decode cc pc = .ok (.istore i, 2)) (hp : pc + 2 = pc') (hi : i < nL) (hL : st1 L i (.int v) = L') (kk : Wk x cs sl pc' L' S σ N0 F) : Wk x cs sl pc L (.int v :: S) σ N0 F := by
  obtain ⟨p, l, e, R, s, m, args, below, meth, c, g, QQ, c0, s0, nL'⟩ := x
  obtain ⟨hx, hb, hml, hown, hts, hKE, hlk, htr, rfl⟩ := C
  subst hp
  intro H locs ls hP hS hl
  subst hL
  exact lv_istore hx hb d hl hi (mapL_st1 g L _ (.int v)) (fun ls' hl' => kk H locs ls' hP hS hl')
theorem k_astore {x : Ctx} {own : String} {cc : ByteArray} {nL cs sl pc N0 : Nat} {F : Op} {L : List (Nat × Value)} {S : List Value} {σ : Mem} (C : Ck x own cc nL) (pc' : Nat) (L' : List (Nat × Value)) {i : Nat} {v : Nat} (d : decode cc pc = .ok (.astore i, 2)) (hp : pc + 2 = pc') (hi : i < nL) (hL : st1 L i (.ref v) = L') (kk : Wk x cs sl pc' L' S σ N0 F) : Wk x cs sl pc L (.ref v :: S) σ N0 F := by
  obtain ⟨p, l, e, R, s, m, args, below, meth, c, g, QQ, c0, s0, nL'⟩ := x
  obtain ⟨hx, hb, hml, hown, hts, hKE, hlk, htr, rfl⟩ := C
  subst hp
  intro H locs ls hP hS hl
  subst hL
  exact lv_astore hx hb d hl hi (mapL_st1 g L _ (.ref v)) (fun ls' hl' => kk H locs ls' hP hS hl')
theorem k_astore_n {x : Ctx} {own : String} {cc : ByteArray} {nL cs sl pc N0 : Nat} {F : Op} {L : List (Nat × Value)} {S : List Value} {σ : Mem} (C : Ck x own cc nL) (pc' : Nat) (L' : List (Nat × Value)) {i : Fin 4} {v : Nat} (d : decode cc pc = .ok (.astore_n i, 1)) (hp : pc + 1 = pc') (hi : (i : Nat) < nL) (hL : st1 L (i : Nat) (.ref v) = L') (kk : Wk x cs sl pc' L' S σ N0 F) : Wk x cs sl pc L (.ref v :: S) σ N0 F := by
  obtain ⟨p, l, e, R, s, m, args, below, meth, c, g, QQ, c0, s0, nL'⟩ := x
  obtain ⟨hx, hb, hml, hown, hts, hKE, hlk, htr, rfl⟩ := C
  subst hp
  intro H locs ls hP hS hl
  subst hL
  exact lv_astore_n hx hb d rfl hl hi (mapL_st1 g L _ (.ref v)) (fun ls' hl' => kk H locs ls' hP hS hl')
theorem law_entry {x : Ctx} (C : Ck x RL cL_law 10) (hR : roomOf x = room_1) (kk : Wk x 235 4084 28 (LL 0) [] s00 235 (fun _ => none)) : Wk x 0 0 0 [(0, .ref 1003)] [] (SG []) 0 (fun _ => none) := by
  refine k_new C cl6 3 dL_law_0 rfl kd_0 (tb_mem 111 (by decide +kernel) (by decide +kernel)) (tb_mem 112 (by decide +kernel) (by decide +kernel)) (tb_mem 90 (by decide +kernel) (by decide +kernel)) (by rw [hR]; exact Nat.le_of_ble_eq_true rfl) (by rw [hR]; exact Nat.le_of_ble_eq_true rfl) [.null, .null, .null, .null, .null, .null, .null, .null, .int 0, .int 0, .int 0, .int 0, .int 0, .int 0] bl6 (fun _ => rfl) ?_
  show Wk x 1 14 3 [(0, .ref 1003)] [.ref 0] (SG []) 1 (opn (fun _ => none) 0 (some (.inl [.null, .null, .null, .null, .null, .null, .null, .null, .int 0, .int 0, .int 0, .int 0, .int 0, .int 0])))
  refine k_dup C 4 dL_law_3 rfl rfl ?_
  refine k_call C 7 ct_X4 dL_law_4 rfl rfl (tb_mem 113 (by decide +kernel) (by decide +kernel)) (tb_mem 115 (by decide +kernel) (by decide +kernel)) (tb_mem 114 (by decide +kernel) (by decide +kernel)) (tb_mem 90 (by decide +kernel) (by decide +kernel)) ⟨by decide, by decide, by decide +kernel⟩ (by rw [hR]; exact ⟨Nat.le_of_ble_eq_true rfl, Nat.le_of_ble_eq_true rfl⟩) (Nat.le_of_ble_eq_true rfl) (by rw [hR]; exact Nat.le_of_ble_eq_true rfl) (by rw [hR]; exact Nat.le_of_ble_eq_true rfl) ?_
  show Wk x 209 2287 7 [(0, .ref 1003)] [.ref 0] (wi (SG [196, 182, 168, 154, 140, 126, 112, 98, 84, 30, 16, 2]) 0 12 (-1)) 209 (fun _ => none)
  refine k_astore_n C 8 [(1, .ref 0), (0, .ref 1003)] dL_law_7 rfl (by decide) rfl ?_
  refine k_new C cl7 11 dL_law_8 rfl kd_209 (tb_mem 1205 (by decide +kernel) (by decide +kernel)) (tb_mem 1206 (by decide +kernel) (by decide +kernel)) (tb_mem 95 (by decide +kernel) (by decide +kernel)) (by rw [hR]; exact Nat.le_of_ble_eq_true rfl) (by rw [hR]; exact Nat.le_of_ble_eq_true rfl) [.int 0, .null, .null, .null, .null, .int 0, .null, .null, .int 0, .null, .null, .null, .int 0, .int 0, .int 0, .int 0, .null, .null, .null, .null, .null, .null, .int 0, .null, .null, .null, .null, .null, .null, .null, .null, .long 0, .int 0] bl7 (fun _ => rfl) ?_
  show Wk x 210 2320 11 [(1, .ref 0), (0, .ref 1003)] [.ref 209] (wi (SG [196, 182, 168, 154, 140, 126, 112, 98, 84, 30, 16, 2]) 0 12 (-1)) 210 (opn (fun _ => none) 209 (some (.inl [.int 0, .null, .null, .null, .null, .int 0, .null, .null, .int 0, .null, .null, .null, .int 0, .int 0, .int 0, .int 0, .null, .null, .null, .null, .null, .null, .int 0, .null, .null, .null, .null, .null, .null, .null, .null, .long 0, .int 0])))
  refine k_dup C 12 dL_law_11 rfl rfl ?_
  refine k_call C 15 (ct_X5 (F := (fun _ => none)) (σ0 := (wi (SG [196, 182, 168, 154, 140, 126, 112, 98, 84, 30, 16, 2]) 0 12 (-1))) (by decide +kernel) rfl (fun _ _ _ => rfl) (fun j _ => zr_s6 j)) dL_law_12 rfl rfl (tb_mem 1207 (by decide +kernel) (by decide +kernel)) (tb_mem 1209 (by decide +kernel) (by decide +kernel)) (tb_mem 1208 (by decide +kernel) (by decide +kernel)) (tb_mem 95 (by decide +kernel) (by decide +kernel)) ⟨by decide, by decide, by decide +kernel⟩ (by rw [hR]; exact ⟨Nat.le_of_ble_eq_true rfl, Nat.le_of_ble_eq_true rfl⟩) (Nat.le_of_ble_eq_true rfl) (by rw [hR]; exact Nat.le_of_ble_eq_true rfl) (by rw [hR]; exact Nat.le_of_ble_eq_true rfl) ?_
  show Wk x 233 4082 15 [(1, .ref 0), (0, .ref 1003)] [.ref 209] (wi (wi (wi (wi (wi (wi (wi (wi (SG [196, 182, 168, 154, 140, 126, 112, 98, 84, 30, 16, 2]) 0 12 (-1)) 210 0 900) 210 1 100) 210 3 10) 210 4 50000000) 210 5 100) 210 6 5) 209 14 (-1)) 233 (fun _ => none)
  refine k_astore_n C 16 [(2, .ref 209), (1, .ref 0), (0, .ref 1003)] dL_law_15 rfl (by decide) rfl ?_
  refine k_iconst C 17 (v := 1) dL_law_16 rfl (by decide) ?_
  refine k_newa C 19 (N := 1) (ty := .long) (at' := .long) dL_law_17 rfl kd_233 rfl (fun _ => rfl) (tb_mem 216 (by decide +kernel) (by decide +kernel)) (by rw [hR]; exact Nat.le_of_ble_eq_true rfl) (by rw [hR]; exact Nat.le_of_ble_eq_true rfl) (by decide) (by decide) (by decide) rfl (s00_z (a := 233) (by decide) (by decide) (by decide) (by decide)) (by decide) ?_
  show Wk x 234 4083 19 [(2, .ref 209), (1, .ref 0), (0, .ref 1003)] [.ref 233] (wi (wi (wi (wi (wi (wi (wi (wi (SG [196, 182, 168, 154, 140, 126, 112, 98, 84, 30, 16, 2]) 0 12 (-1)) 210 0 900) 210 1 100) 210 3 10) 210 4 50000000) 210 5 100) 210 6 5) 209 14 (-1)) 234 (fun _ => none)
  refine k_astore_n C 20 [(3, .ref 233), (2, .ref 209), (1, .ref 0), (0, .ref 1003)] dL_law_19 rfl (by decide) rfl ?_
  refine k_iconst C 21 (v := 1) dL_law_20 rfl (by decide) ?_
  refine k_newa C 23 (N := 1) (ty := .double) (at' := .double) dL_law_21 rfl kd_234 rfl (fun _ => rfl) (tb_mem 1693 (by decide +kernel) (by decide +kernel)) (by rw [hR]; exact Nat.le_of_ble_eq_true rfl) (by rw [hR]; exact Nat.le_of_ble_eq_true rfl) (by decide) (by decide) (by decide) rfl (s00_z (a := 234) (by decide) (by decide) (by decide) (by decide)) (by decide) ?_
  show Wk x 235 4084 23 [(3, .ref 233), (2, .ref 209), (1, .ref 0), (0, .ref 1003)] [.ref 234] (wi (wi (wi (wi (wi (wi (wi (wi (SG [196, 182, 168, 154, 140, 126, 112, 98, 84, 30, 16, 2]) 0 12 (-1)) 210 0 900) 210 1 100) 210 3 10) 210 4 50000000) 210 5 100) 210 6 5) 209 14 (-1)) 235 (fun _ => none)
  refine k_astore C 25 [(4, .ref 234), (3, .ref 233), (2, .ref 209), (1, .ref 0), (0, .ref 1003)] dL_law_23 rfl (by decide) rfl ?_
  refine k_iconst C 26 (v := 0) dL_law_25 rfl (by decide) ?_
  exact k_istore C 28 [(5, .int 0), (4, .ref 234), (3, .ref 233), (2, .ref 209), (1, .ref 0), (0, .ref 1003)] dL_law_26 rfl (by decide) rfl kk
