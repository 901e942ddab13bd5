def cOf (x : Ctx) : Nat := x.2.2.2.2.2.2.2.2.2.2.2.2.1
def sOf (x : Ctx) : Nat := x.2.2.2.2.2.2.2.2.2.2.2.2.2.1
/-- a wrapper's contract: it catches all -/
def CtW (y : MethodName) (yc : ByteArray) (ml : Nat) (hh : List (Nat × Nat × Nat × Nat)) (d κ : Nat) (as : List Value) (σ : Mem) (K : Int32 → Mem → Prop) : Prop :=
  ∀ (l : Launch) (g : Gh), l.stackTraces = false → Met l y (Cond.codeWith y yc ml (some .int) hh :: TB) (rmd d κ) (Pre g as σ) (va_Qi K (BB g) (AA g)) κ (6 * κ) (AA g)
def RtW (x : Ctx) (d κ : Nat) (K : Int32 → Mem → Prop) (hh : List (Nat × Nat × Nat × Nat)) : Prop := match x with
  | (p, l, e, R, s, m, args, below, meth, c, g, QQ, c0, s0, nL) => R = rmd d κ ∧ meth.sig.returnType = some .int ∧ QQ = MQ below (va_Qi K (BB g) (AA g)) args s κ (6 * κ) (AA g) ∧ c0 = 0 ∧ s0 = 0 ∧ c.exceptionTable.toList = tableOf hh
theorem tb_goodInW {y : MethodName} {yc : ByteArray} {ml : Nat} {ret : Option FieldType} {hh : List (Nat × Nat × Nat × Nat)} (h : Cond.codeWith y yc ml ret hh ∈ TB) : GoodIn TB (Cond.codeWith y yc ml ret hh :: TB) := fun w hw => by
  rcases List.mem_cons.mp hw with rfl | hw
  · exact ⟨h, good_of_word (tb_good _ h)⟩
  · exact ⟨hw, good_of_word (tb_good _ hw)⟩
theorem ctW_of {y : MethodName} {yc : ByteArray} {ml : Nat} {hh : List (Nat × Nat × Nat × Nat)} {d κ : Nat} {as : List Value} {σ : Mem} {K : Int32 → Mem → Prop} (hy : plainName y.cls = true) (hl : (lg_sl as).length ≤ ml)
    (body : ∀ x : Ctx, Cx x y.cls yc ml → RtW x d κ K hh → Ws x 0 0 (lv_args 0 as) [] σ) : CtW y yc ml hh d κ as σ K := by
  intro l g htr
  refine va_MetW (cc := yc) (maxL := ml) (ret := some .int) (hh := hh) hy rfl ?_
  intro p e s m args below meth c s₁ B hml hv
  obtain ⟨rfl, hP, hKE⟩ := hv
  have hx := B.exec
  have hb := B.bytes
  have hr := B.returns
  have hts0 := atoms_spec (ws := Cond.codeWith y yc ml (some .int) hh :: TB) B.pre
  have hown : s.vm.findClass y.cls = some m.cls := findClass_of_methodNamed B.named
  have hlocks := B.notSynchronized
  have htab := vx_table (x := y) B (hts0 _ List.mem_cons_self)
  have hle := lv_entry (as.map (rv g)) (n := ml) (by rw [lg_sl_map]; exact hl)
  rw [lg_entry_eq]
  rw [lv_args_map] at hle
  exact body (p, l, e, rmd d κ, s, m, (as.map (rv g)).toArray, below, meth, c, g, _, 0, 0, ml) ⟨hx, hb, hml, hown, fun w hw => hts0 w (List.mem_cons_of_mem _ hw), hKE, hlocks, htr, rfl⟩ ⟨rfl, hr, rfl, rfl, rfl, htab⟩ s.heap [] _ hP va_S.rf hle
theorem r_iretW {x : Ctx} {own : String} {cc : ByteArray} {nL n pc : Nat} {L : List (Nat × Value)} {σ : Mem} {d κ : Nat} {v : Int32} {K : Int32 → Mem → Prop} {hh : List (Nat × Nat × Nat × Nat)} (C : Cx x own cc nL) (r : RtW x d κ K hh) (dc : decode cc pc = .ok (.ireturn, 1)) (hn : n ≤ κ) (h : K v σ) : Ws x n pc L [.int v] σ := by
  obtain ⟨p, l, e, R, s, m, args, below, meth, c, g, QQ, c0, s0, nL'⟩ := x
  obtain ⟨hx, hb, hml, hown, hts, hKE, hlk, htr, rfl⟩ := C
  obtain ⟨rfl, hr, rfl, rfl, rfl, htb⟩ := r
  intro H locs ls hP hS hl
  refine W.widen (k := κ) (n := 6 * κ) (by omega) (by omega) (W.iret (v := v) hx hb hr (fun t ht hW => ⟨⟨v, σ, rfl, h, by rw [← ht] at hP; exact hP⟩, hS.F ht⟩) (fun q hq => hS.2.2 q hq) dc hlk)
/-- the store of what was caught -/
def AstAt (cc : ByteArray) (pc j pc' : Nat) : Prop := (decode cc pc = .ok (.astore j, 2) ∧ pc' = pc + 2) ∨ (∃ i : Fin 4, decode cc pc = .ok (.astore_n i, 1) ∧ (i : Nat) = j ∧ pc' = pc + 1)
/-- what catches E at pc, and goes on behind the store -/
def Hd (x : Ctx) (own : String) (cc : ByteArray) (hh : List (Nat × Nat × Nat × Nat)) (pc : Nat) (E : String) (nL n : Nat) (L : List (Nat × Value)) (τ : Mem) : Prop :=
  ∃ (pre : List ExceptionTableEntry) (xx : ExceptionTableEntry) (suf : List ExceptionTableEntry) (j pc' : Nat), tableOf hh = pre ++ xx :: suf ∧ (∀ z ∈ pre, z.catchType ≠ 0 ∧ ∃ nm : String, Cond.classLink own z.catchType nm ∈ TB ∧ (E, nm) ∈ NC) ∧ covers xx pc = true ∧ xx.catchType ≠ 0 ∧ Cond.classLink own xx.catchType E ∈ TB ∧ Cond.castable E E ∈ NB ∧ AstAt cc xx.handlerPc j pc' ∧ j < nL ∧ (∀ q ∈ L, q.1 < j ∧ q.2.category = 1) ∧ Ws x n pc' L [] τ
theorem Hd.go {x : Ctx} {own : String} {cc : ByteArray} {hh : List (Nat × Nat × Nat × Nat)} {pc : Nat} {E : String} {nL n : Nat} {L : List (Nat × Value)} {τ : Mem} (h : Hd x own cc hh pc E nL n L τ) (C : Cx x own cc nL) {d κ : Nat} {K : Int32 → Mem → Prop} (r : RtW x d κ K hh) : match x with
  | (p, l, e, R, s, m, args, below, meth, c, g, QQ, c0, s0, nL) => ∀ (H : Heap) (locs : List Loc) (ls : Array Slot) (rest : List Value) (q : Addr) (ce : Cell), PM g τ H → va_S (AA g) s.heap H locs → lv_has ls nL (mapL g L) → H[q]? = some ce → ce.vm = .none → s.vm.findClass E = some ce.cls → vx_W p l e R s m args below meth c H locs (c0 + n) (s0 + 6 * n) QQ (F0 m pc ls rest) q := by
  obtain ⟨p, l, e, R, s, m, args, below, meth, c, g, QQ, c0, s0, nL'⟩ := x
  obtain ⟨pre, xx, suf, j, pc', h1, h2, h3, h4, h5, h6, h7, h8, h9, h10⟩ := h
  obtain ⟨hx, hb, hml, hown, hts, hKE, hlk, htr, rfl⟩ := C
  intro H locs ls rest q ce hP hS hl hc hv hcl
  refine vx_catch (E := E) (name := E) (ce := ce) hown pre xx suf (r.2.2.2.2.2.trans h1) (fun z hz => Or.inr ⟨(h2 z hz).1, by
    obtain ⟨nm, q1, q2⟩ := (h2 z hz).2
    exact ⟨nm, hts _ q1, hKE.2.2.2.2.2.2.2.2.2.2 _ q2⟩⟩) h3 h4 (hts _ h5) (va_Nw.use rfl (hKE.2.2.2.2.2.2.2.2.2.1 _ h6)) hc hv hcl ?_
  have hfil : (mapL g L).filter (fun q => !(q.1 == j) && !(q.1 + 1 == j && q.2.category == 2)) = mapL g L := by
    apply List.filter_eq_self.mpr
    intro a ha
    obtain ⟨b, hb1, rfl⟩ := List.mem_map.mp ha
    have := h9 b hb1
    have e1 : (b.1 == j) = false := by simp; omega
    have e2 : (rv g b.2).category = 1 := (rv_cat g b.2).trans this.2
    simp [e1, e2]
  have hfin : ∀ (ls' : Array Slot), lv_has ls' nL' ((j, .ref q) :: mapL g L) → W p l e R s m args below meth c H locs (c0 + n) (s0 + 6 * n) QQ (F0 m pc' ls' []) := fun ls' hl' => h10 H locs ls' hP hS ⟨hl'.1, hl'.2.1, fun q9 hq9 => hl'.2.2 q9 (List.mem_cons_of_mem _ hq9)⟩
  rcases h7 with ⟨d1, rfl⟩ | ⟨i, d1, rfl, rfl⟩
  · exact lv_astore hx hb d1 hl h8 (by rw [hfil]) hfin
  · exact lv_astore_n hx hb d1 rfl hl h8 (by rw [hfil]) hfin
set_option maxHeartbeats 1000000 in
theorem r_wVI {x : Ctx} {own : String} {cc : ByteArray} {nL n pc : Nat} {L : List (Nat × Value)} {S : List Value} {σ : Mem} {dx κx dy κ ix ml b : Nat} {y : MethodName} {yc : ByteArray} {ret : Option FieldType} {as : List Value} {K : Int32 → Mem → Prop} {X : String → Mem → Prop} (C : Cx x own cc nL) {K0 : Int32 → Mem → Prop} {hh : List (Nat × Nat × Nat × Nat)} (r : RtW x dx κx K0 hh) (pc' : Nat) (hct : CtI y yc ml ret dy κ (.ref b :: as) σ K X) (hd : decode cc pc = .ok (.invokevirtual ix, 3)) (hp : pc + 3 = pc')
    {ck N : Nat} {Cn : String} {T : u_T} (Kc : Cl ck Cn T N) (hk : kd b = .inr ck) (w3 : Cond.selects Cn y y ∈ TB) (w4 : Cond.instanceMethod y ∈ TB) (hyc : y.cls = Cn) (w1 : Cond.methodLink own ix y ∈ TB) (w2 : Cond.code y yc ml ret ∈ TB) (w5 : Cond.initialized y.cls ∈ TB) (hyd : y.cls ≠ "java/lang/invoke/MethodHandle" ∧ y.cls ≠ "java/lang/invoke/VarHandle" ∧ (parseMethodDescriptor y.desc).map (fun d => d.parameters.length) = some as.length)
    (hR : (rmd dy κ).frames + 1 ≤ (rmd dx κx).frames ∧ 8 + (ml + 11) + (rmd dy κ).locals ≤ (rmd dx κx).locals) (hst : (S.map fun v => v.category).sum ≤ 8) (hn : n + κ ≤ κx) (k : ∀ (r : Int32) (τ : Mem), K r τ → Ws x (n + κ) pc' L (.int r :: S) τ) (kx : ∀ (E : String) (τ : Mem), X E τ → Hd x own cc hh pc E nL (n + κ) L τ) : Ws x n pc L (as.reverse ++ .ref b :: S) σ := by
  obtain ⟨p, l, e, R, s, m, args, below, meth, c, g, QQ, c0, s0, nL'⟩ := x
  have CC := C
  have rr := r
  obtain ⟨hx, hb, hml, hown, hts, hKE, hlk, htr, rfl⟩ := C
  obtain ⟨rfl, hrt, rfl, rfl, rfl, htb⟩ := r
  subst hp
  intro H locs ls hP hS hl
  have hst' : ((S.map (rv g)).map fun v => v.category).sum ≤ 8 := by
    rw [List.map_map, show ((fun v : Value => v.category) ∘ rv g) = (fun v => v.category) from funext (rv_cat g)]; exact hst
  have hcs : (0 + n) + κ ≤ (rmd dx κx).cells ∧ (0 + 6 * n) + 6 * κ ≤ (rmd dx κx).slots := ⟨by show 0 + n + κ ≤ κx; omega, by show 0 + 6 * n + 6 * κ ≤ 6 * κx; omega⟩
  have hpre : ∀ U : State, U.heap = H → s.WarmedH U.vm → Pre g (.ref b :: as) σ ((.ref b :: as).map (rv g)).toArray U := fun U hU hW => ⟨rfl, by rw [hU]; exact hP, hKE.to hW (by rw [hU]; exact hS.1) (fun a h1 h2 => by rw [hU]; exact hS.2.1 a h1 h2)⟩
  refine vx_calli (vx_runV (b := gA g b) (As := as.map (rv g)) (rest := S.map (rv g)) ⟨hx, hb, hml, hown, hts⟩ (hct l g htr) ⟨(callB_of (Ts := TB) (ws := Cond.code y yc ml ret :: TB) (rm := rmd dy κ) as.length hts (tb_goodIn w2) rfl rfl rfl (hts _ w5) (hts _ w1) hyd hR), hts _ w4, hts _ w3⟩ ⟨Pre_blind g _ σ, va_recv hKE.1 hP Kc.1 (world_obj g σ hk Kc.2.2.2.1), hpre⟩ rfl (by simp only [List.length_map]) hl.1 (by simp only [List.map_append, List.map_reverse, List.map_cons] <;> rfl) (lv_room hst') hd hcs) hS (fun q _ h => h) (fun q h => h) (fun q _ h => h) (fun E ce q9 τ t H1 locs1 ht hvm _ hB hz1 hk1 hS1 hc1 hv1 hcl1 => ?_) (fun r τ t H1 locs1 ht hvm hp1 hB hz1 hk1 hS1 => ?_)
  · have h9 := (kx E τ hB.1).go CC rr H1 locs1 ls (S.map (rv g)) q9 ce (by rw [← ht]; exact hB.2) hS1 hl hc1 hv1 hcl1
    rw [show 0 + (n + κ) = 0 + n + κ by omega, show 0 + 6 * (n + κ) = 0 + 6 * n + 6 * κ by omega] at h9
    exact h9
  · have h9 := k r τ hp1 H1 locs1 ls (by rw [← ht]; exact hB) hS1 hl
    rw [show 0 + (n + κ) = 0 + n + κ by omega, show 0 + 6 * (n + κ) = 0 + 6 * n + 6 * κ by omega] at h9
    exact h9
set_option maxHeartbeats 1000000 in
theorem r_wVL {x : Ctx} {own : String} {cc : ByteArray} {nL n pc : Nat} {L : List (Nat × Value)} {S : List Value} {σ : Mem} {dx κx dy κ ix ml b : Nat} {y : MethodName} {yc : ByteArray} {ret : Option FieldType} {as : List Value} {K : Int64 → Mem → Prop} {X : String → Mem → Prop} (C : Cx x own cc nL) {K0 : Int32 → Mem → Prop} {hh : List (Nat × Nat × Nat × Nat)} (r : RtW x dx κx K0 hh) (pc' : Nat) (hct : CtL y yc ml ret dy κ (.ref b :: as) σ K X) (hd : decode cc pc = .ok (.invokevirtual ix, 3)) (hp : pc + 3 = pc')
    {ck N : Nat} {Cn : String} {T : u_T} (Kc : Cl ck Cn T N) (hk : kd b = .inr ck) (w3 : Cond.selects Cn y y ∈ TB) (w4 : Cond.instanceMethod y ∈ TB) (hyc : y.cls = Cn) (w1 : Cond.methodLink own ix y ∈ TB) (w2 : Cond.code y yc ml ret ∈ TB) (w5 : Cond.initialized y.cls ∈ TB) (hyd : y.cls ≠ "java/lang/invoke/MethodHandle" ∧ y.cls ≠ "java/lang/invoke/VarHandle" ∧ (parseMethodDescriptor y.desc).map (fun d => d.parameters.length) = some as.length)
    (hR : (rmd dy κ).frames + 1 ≤ (rmd dx κx).frames ∧ 8 + (ml + 11) + (rmd dy κ).locals ≤ (rmd dx κx).locals) (hst : (S.map fun v => v.category).sum ≤ 8) (hn : n + κ ≤ κx) (k : ∀ (r : Int64) (τ : Mem), K r τ → Ws x (n + κ) pc' L (.long r :: S) τ) (kx : ∀ (E : String) (τ : Mem), X E τ → Hd x own cc hh pc E nL (n + κ) L τ) : Ws x n pc L (as.reverse ++ .ref b :: S) σ := by
  obtain ⟨p, l, e, R, s, m, args, below, meth, c, g, QQ, c0, s0, nL'⟩ := x
  have CC := C
  have rr := r
  obtain ⟨hx, hb, hml, hown, hts, hKE, hlk, htr, rfl⟩ := C
  obtain ⟨rfl, hrt, rfl, rfl, rfl, htb⟩ := r
  subst hp
  intro H locs ls hP hS hl
  have hst' : ((S.map (rv g)).map fun v => v.category).sum ≤ 8 := by
    rw [List.map_map, show ((fun v : Value => v.category) ∘ rv g) = (fun v => v.category) from funext (rv_cat g)]; exact hst
  have hcs : (0 + n) + κ ≤ (rmd dx κx).cells ∧ (0 + 6 * n) + 6 * κ ≤ (rmd dx κx).slots := ⟨by show 0 + n + κ ≤ κx; omega, by show 0 + 6 * n + 6 * κ ≤ 6 * κx; omega⟩
  have hpre : ∀ U : State, U.heap = H → s.WarmedH U.vm → Pre g (.ref b :: as) σ ((.ref b :: as).map (rv g)).toArray U := fun U hU hW => ⟨rfl, by rw [hU]; exact hP, hKE.to hW (by rw [hU]; exact hS.1) (fun a h1 h2 => by rw [hU]; exact hS.2.1 a h1 h2)⟩
  refine vx_calll (vx_runV (b := gA g b) (As := as.map (rv g)) (rest := S.map (rv g)) ⟨hx, hb, hml, hown, hts⟩ (hct l g htr) ⟨(callB_of (Ts := TB) (ws := Cond.code y yc ml ret :: TB) (rm := rmd dy κ) as.length hts (tb_goodIn w2) rfl rfl rfl (hts _ w5) (hts _ w1) hyd hR), hts _ w4, hts _ w3⟩ ⟨Pre_blind g _ σ, va_recv hKE.1 hP Kc.1 (world_obj g σ hk Kc.2.2.2.1), hpre⟩ rfl (by simp only [List.length_map]) hl.1 (by simp only [List.map_append, List.map_reverse, List.map_cons] <;> rfl) (lv_room hst') hd hcs) hS (fun q _ h => h) (fun q h => h) (fun q _ h => h) (fun E ce q9 τ t H1 locs1 ht hvm _ hB hz1 hk1 hS1 hc1 hv1 hcl1 => ?_) (fun r τ t H1 locs1 ht hvm hp1 hB hz1 hk1 hS1 => ?_)
  · have h9 := (kx E τ hB.1).go CC rr H1 locs1 ls (S.map (rv g)) q9 ce (by rw [← ht]; exact hB.2) hS1 hl hc1 hv1 hcl1
    rw [show 0 + (n + κ) = 0 + n + κ by omega, show 0 + 6 * (n + κ) = 0 + 6 * n + 6 * κ by omega] at h9
    exact h9
  · have h9 := k r τ hp1 H1 locs1 ls (by rw [← ht]; exact hB) hS1 hl
    rw [show 0 + (n + κ) = 0 + n + κ by omega, show 0 + 6 * (n + κ) = 0 + 6 * n + 6 * κ by omega] at h9
    exact h9
set_option maxHeartbeats 1000000 in
theorem r_wVD {x : Ctx} {own : String} {cc : ByteArray} {nL n pc : Nat} {L : List (Nat × Value)} {S : List Value} {σ : Mem} {dx κx dy κ ix ml b : Nat} {y : MethodName} {yc : ByteArray} {ret : Option FieldType} {as : List Value} {K : UInt64 → Mem → Prop} {X : String → Mem → Prop} (C : Cx x own cc nL) {K0 : Int32 → Mem → Prop} {hh : List (Nat × Nat × Nat × Nat)} (r : RtW x dx κx K0 hh) (pc' : Nat) (hct : CtD y yc ml ret dy κ (.ref b :: as) σ K X) (hd : decode cc pc = .ok (.invokevirtual ix, 3)) (hp : pc + 3 = pc')
    {ck N : Nat} {Cn : String} {T : u_T} (Kc : Cl ck Cn T N) (hk : kd b = .inr ck) (w3 : Cond.selects Cn y y ∈ TB) (w4 : Cond.instanceMethod y ∈ TB) (hyc : y.cls = Cn) (w1 : Cond.methodLink own ix y ∈ TB) (w2 : Cond.code y yc ml ret ∈ TB) (w5 : Cond.initialized y.cls ∈ TB) (hyd : y.cls ≠ "java/lang/invoke/MethodHandle" ∧ y.cls ≠ "java/lang/invoke/VarHandle" ∧ (parseMethodDescriptor y.desc).map (fun d => d.parameters.length) = some as.length)
    (hR : (rmd dy κ).frames + 1 ≤ (rmd dx κx).frames ∧ 8 + (ml + 11) + (rmd dy κ).locals ≤ (rmd dx κx).locals) (hst : (S.map fun v => v.category).sum ≤ 8) (hn : n + κ ≤ κx) (k : ∀ (r : UInt64) (τ : Mem), K r τ → Ws x (n + κ) pc' L (.double r :: S) τ) (kx : ∀ (E : String) (τ : Mem), X E τ → Hd x own cc hh pc E nL (n + κ) L τ) : Ws x n pc L (as.reverse ++ .ref b :: S) σ := by
  obtain ⟨p, l, e, R, s, m, args, below, meth, c, g, QQ, c0, s0, nL'⟩ := x
  have CC := C
  have rr := r
  obtain ⟨hx, hb, hml, hown, hts, hKE, hlk, htr, rfl⟩ := C
  obtain ⟨rfl, hrt, rfl, rfl, rfl, htb⟩ := r
  subst hp
  intro H locs ls hP hS hl
  have hst' : ((S.map (rv g)).map fun v => v.category).sum ≤ 8 := by
    rw [List.map_map, show ((fun v : Value => v.category) ∘ rv g) = (fun v => v.category) from funext (rv_cat g)]; exact hst
  have hcs : (0 + n) + κ ≤ (rmd dx κx).cells ∧ (0 + 6 * n) + 6 * κ ≤ (rmd dx κx).slots := ⟨by show 0 + n + κ ≤ κx; omega, by show 0 + 6 * n + 6 * κ ≤ 6 * κx; omega⟩
  have hpre : ∀ U : State, U.heap = H → s.WarmedH U.vm → Pre g (.ref b :: as) σ ((.ref b :: as).map (rv g)).toArray U := fun U hU hW => ⟨rfl, by rw [hU]; exact hP, hKE.to hW (by rw [hU]; exact hS.1) (fun a h1 h2 => by rw [hU]; exact hS.2.1 a h1 h2)⟩
  refine vx_calld (vx_runV (b := gA g b) (As := as.map (rv g)) (rest := S.map (rv g)) ⟨hx, hb, hml, hown, hts⟩ (hct l g htr) ⟨(callB_of (Ts := TB) (ws := Cond.code y yc ml ret :: TB) (rm := rmd dy κ) as.length hts (tb_goodIn w2) rfl rfl rfl (hts _ w5) (hts _ w1) hyd hR), hts _ w4, hts _ w3⟩ ⟨Pre_blind g _ σ, va_recv hKE.1 hP Kc.1 (world_obj g σ hk Kc.2.2.2.1), hpre⟩ rfl (by simp only [List.length_map]) hl.1 (by simp only [List.map_append, List.map_reverse, List.map_cons] <;> rfl) (lv_room hst') hd hcs) hS (fun q _ h => h) (fun q h => h) (fun q _ h => h) (fun E ce q9 τ t H1 locs1 ht hvm _ hB hz1 hk1 hS1 hc1 hv1 hcl1 => ?_) (fun r τ t H1 locs1 ht hvm hp1 hB hz1 hk1 hS1 => ?_)
  · have h9 := (kx E τ hB.1).go CC rr H1 locs1 ls (S.map (rv g)) q9 ce (by rw [← ht]; exact hB.2) hS1 hl hc1 hv1 hcl1
    rw [show 0 + (n + κ) = 0 + n + κ by omega, show 0 + 6 * (n + κ) = 0 + 6 * n + 6 * κ by omega] at h9
    exact h9
  · have h9 := k r τ hp1 H1 locs1 ls (by rw [← ht]; exact hB) hS1 hl
    rw [show 0 + (n + κ) = 0 + n + κ by omega, show 0 + 6 * (n + κ) = 0 + 6 * n + 6 * κ by omega] at h9
    exact h9
set_option maxHeartbeats 1000000 in
theorem r_lVI {x : Ctx} {own : String} {cc : ByteArray} {nL n pc : Nat} {L : List (Nat × Value)} {S : List Value} {σ : Mem} {dy κ ix ml b : Nat} {y : MethodName} {yc : ByteArray} {ret : Option FieldType} {as : List Value} {K : Int32 → Mem → Prop} (C : Cx x own cc nL) (pc' : Nat) (hct : CtI y yc ml ret dy κ (.ref b :: as) σ K (fun _ _ => False)) (hd : decode cc pc = .ok (.invokevirtual ix, 3)) (hp : pc + 3 = pc')
    {ck N : Nat} {Cn : String} {T : u_T} (Kc : Cl ck Cn T N) (hk : kd b = .inr ck) (w3 : Cond.selects Cn y y ∈ TB) (w4 : Cond.instanceMethod y ∈ TB) (hyc : y.cls = Cn) (w1 : Cond.methodLink own ix y ∈ TB) (w2 : Cond.code y yc ml ret ∈ TB) (w5 : Cond.initialized y.cls ∈ TB) (hyd : y.cls ≠ "java/lang/invoke/MethodHandle" ∧ y.cls ≠ "java/lang/invoke/VarHandle" ∧ (parseMethodDescriptor y.desc).map (fun d => d.parameters.length) = some as.length)
    (hR : (rmd dy κ).frames + 1 ≤ (roomOf x).frames ∧ 8 + (ml + 11) + (rmd dy κ).locals ≤ (roomOf x).locals) (hst : (S.map fun v => v.category).sum ≤ 8) (hn : cOf x + (n + κ) ≤ (roomOf x).cells ∧ sOf x + 6 * (n + κ) ≤ (roomOf x).slots) (k : ∀ (r : Int32) (τ : Mem), K r τ → Ws x (n + κ) pc' L (.int r :: S) τ) : Ws x n pc L (as.reverse ++ .ref b :: S) σ := by
  obtain ⟨p, l, e, R, s, m, args, below, meth, c, g, QQ, c0, s0, nL'⟩ := x
  obtain ⟨hx, hb, hml, hown, hts, hKE, hlk, htr, rfl⟩ := C
  subst hp
  intro H locs ls hP hS hl
  have hst' : ((S.map (rv g)).map fun v => v.category).sum ≤ 8 := by
    rw [List.map_map, show ((fun v : Value => v.category) ∘ rv g) = (fun v => v.category) from funext (rv_cat g)]; exact hst
  have hn1 : c0 + (n + κ) ≤ R.cells := hn.1
  have hn2 : s0 + 6 * (n + κ) ≤ R.slots := hn.2
  have hcs : (c0 + n) + κ ≤ R.cells ∧ (s0 + 6 * n) + 6 * κ ≤ R.slots := ⟨by omega, by omega⟩
  have hpre : ∀ U : State, U.heap = H → s.WarmedH U.vm → Pre g (.ref b :: as) σ ((.ref b :: as).map (rv g)).toArray U := fun U hU hW => ⟨rfl, by rw [hU]; exact hP, hKE.to hW (by rw [hU]; exact hS.1) (fun a h1 h2 => by rw [hU]; exact hS.2.1 a h1 h2)⟩
  refine vx_calli (vx_runV (b := gA g b) (As := as.map (rv g)) (rest := S.map (rv g)) ⟨hx, hb, hml, hown, hts⟩ (hct l g htr) ⟨(callB_of (Ts := TB) (ws := Cond.code y yc ml ret :: TB) (rm := rmd dy κ) as.length hts (tb_goodIn w2) rfl rfl rfl (hts _ w5) (hts _ w1) hyd hR), hts _ w4, hts _ w3⟩ ⟨Pre_blind g _ σ, va_recv hKE.1 hP Kc.1 (world_obj g σ hk Kc.2.2.2.1), hpre⟩ rfl (by simp only [List.length_map]) hl.1 (by simp only [List.map_append, List.map_reverse, List.map_cons] <;> rfl) (lv_room hst') hd hcs) hS (fun q _ h => h) (fun q h => h) (fun q _ h => h) (fun E ce q9 τ t H1 locs1 ht hvm _ hB hz1 hk1 hS1 hc1 hv1 hcl1 => ?_) (fun r τ t H1 locs1 ht hvm hp1 hB hz1 hk1 hS1 => ?_)
  · exact hB.1.elim
  · have h9 := k r τ hp1 H1 locs1 ls (by rw [← ht]; exact hB) hS1 hl
    rw [show c0 + (n + κ) = c0 + n + κ by omega, show s0 + 6 * (n + κ) = s0 + 6 * n + 6 * κ by omega] at h9
    exact h9
set_option maxHeartbeats 1000000 in
theorem r_lVL {x : Ctx} {own : String} {cc : ByteArray} {nL n pc : Nat} {L : List (Nat × Value)} {S : List Value} {σ : Mem} {dy κ ix ml b : Nat} {y : MethodName} {yc : ByteArray} {ret : Option FieldType} {as : List Value} {K : Int64 → Mem → Prop} (C : Cx x own cc nL) (pc' : Nat) (hct : CtL y yc ml ret dy κ (.ref b :: as) σ K (fun _ _ => False)) (hd : decode cc pc = .ok (.invokevirtual ix, 3)) (hp : pc + 3 = pc')
    {ck N : Nat} {Cn : String} {T : u_T} (Kc : Cl ck Cn T N) (hk : kd b = .inr ck) (w3 : Cond.selects Cn y y ∈ TB) (w4 : Cond.instanceMethod y ∈ TB) (hyc : y.cls = Cn) (w1 : Cond.methodLink own ix y ∈ TB) (w2 : Cond.code y yc ml ret ∈ TB) (w5 : Cond.initialized y.cls ∈ TB) (hyd : y.cls ≠ "java/lang/invoke/MethodHandle" ∧ y.cls ≠ "java/lang/invoke/VarHandle" ∧ (parseMethodDescriptor y.desc).map (fun d => d.parameters.length) = some as.length)
    (hR : (rmd dy κ).frames + 1 ≤ (roomOf x).frames ∧ 8 + (ml + 11) + (rmd dy κ).locals ≤ (roomOf x).locals) (hst : (S.map fun v => v.category).sum ≤ 8) (hn : cOf x + (n + κ) ≤ (roomOf x).cells ∧ sOf x + 6 * (n + κ) ≤ (roomOf x).slots) (k : ∀ (r : Int64) (τ : Mem), K r τ → Ws x (n + κ) pc' L (.long r :: S) τ) : Ws x n pc L (as.reverse ++ .ref b :: S) σ := by
  obtain ⟨p, l, e, R, s, m, args, below, meth, c, g, QQ, c0, s0, nL'⟩ := x
  obtain ⟨hx, hb, hml, hown, hts, hKE, hlk, htr, rfl⟩ := C
  subst hp
  intro H locs ls hP hS hl
  have hst' : ((S.map (rv g)).map fun v => v.category).sum ≤ 8 := by
    rw [List.map_map, show ((fun v : Value => v.category) ∘ rv g) = (fun v => v.category) from funext (rv_cat g)]; exact hst
  have hn1 : c0 + (n + κ) ≤ R.cells := hn.1
  have hn2 : s0 + 6 * (n + κ) ≤ R.slots := hn.2
  have hcs : (c0 + n) + κ ≤ R.cells ∧ (s0 + 6 * n) + 6 * κ ≤ R.slots := ⟨by omega, by omega⟩
  have hpre : ∀ U : State, U.heap = H → s.WarmedH U.vm → Pre g (.ref b :: as) σ ((.ref b :: as).map (rv g)).toArray U := fun U hU hW => ⟨rfl, by rw [hU]; exact hP, hKE.to hW (by rw [hU]; exact hS.1) (fun a h1 h2 => by rw [hU]; exact hS.2.1 a h1 h2)⟩
  refine vx_calll (vx_runV (b := gA g b) (As := as.map (rv g)) (rest := S.map (rv g)) ⟨hx, hb, hml, hown, hts⟩ (hct l g htr) ⟨(callB_of (Ts := TB) (ws := Cond.code y yc ml ret :: TB) (rm := rmd dy κ) as.length hts (tb_goodIn w2) rfl rfl rfl (hts _ w5) (hts _ w1) hyd hR), hts _ w4, hts _ w3⟩ ⟨Pre_blind g _ σ, va_recv hKE.1 hP Kc.1 (world_obj g σ hk Kc.2.2.2.1), hpre⟩ rfl (by simp only [List.length_map]) hl.1 (by simp only [List.map_append, List.map_reverse, List.map_cons] <;> rfl) (lv_room hst') hd hcs) hS (fun q _ h => h) (fun q h => h) (fun q _ h => h) (fun E ce q9 τ t H1 locs1 ht hvm _ hB hz1 hk1 hS1 hc1 hv1 hcl1 => ?_) (fun r τ t H1 locs1 ht hvm hp1 hB hz1 hk1 hS1 => ?_)
  · exact hB.1.elim
  · have h9 := k r τ hp1 H1 locs1 ls (by rw [← ht]; exact hB) hS1 hl
    rw [show c0 + (n + κ) = c0 + n + κ by omega, show s0 + 6 * (n + κ) = s0 + 6 * n + 6 * κ by omega] at h9
    exact h9
set_option maxHeartbeats 1000000 in
theorem r_lVF {x : Ctx} {own : String} {cc : ByteArray} {nL n pc : Nat} {L : List (Nat × Value)} {S : List Value} {σ : Mem} {dy κ ix ml b : Nat} {y : MethodName} {yc : ByteArray} {ret : Option FieldType} {as : List Value} {K : UInt32 → Mem → Prop} (C : Cx x own cc nL) (pc' : Nat) (hct : CtF y yc ml ret dy κ (.ref b :: as) σ K (fun _ _ => False)) (hd : decode cc pc = .ok (.invokevirtual ix, 3)) (hp : pc + 3 = pc')
    {ck N : Nat} {Cn : String} {T : u_T} (Kc : Cl ck Cn T N) (hk : kd b = .inr ck) (w3 : Cond.selects Cn y y ∈ TB) (w4 : Cond.instanceMethod y ∈ TB) (hyc : y.cls = Cn) (w1 : Cond.methodLink own ix y ∈ TB) (w2 : Cond.code y yc ml ret ∈ TB) (w5 : Cond.initialized y.cls ∈ TB) (hyd : y.cls ≠ "java/lang/invoke/MethodHandle" ∧ y.cls ≠ "java/lang/invoke/VarHandle" ∧ (parseMethodDescriptor y.desc).map (fun d => d.parameters.length) = some as.length)
    (hR : (rmd dy κ).frames + 1 ≤ (roomOf x).frames ∧ 8 + (ml + 11) + (rmd dy κ).locals ≤ (roomOf x).locals) (hst : (S.map fun v => v.category).sum ≤ 8) (hn : cOf x + (n + κ) ≤ (roomOf x).cells ∧ sOf x + 6 * (n + κ) ≤ (roomOf x).slots) (k : ∀ (r : UInt32) (τ : Mem), K r τ → Ws x (n + κ) pc' L (.float r :: S) τ) : Ws x n pc L (as.reverse ++ .ref b :: S) σ := by
  obtain ⟨p, l, e, R, s, m, args, below, meth, c, g, QQ, c0, s0, nL'⟩ := x
  obtain ⟨hx, hb, hml, hown, hts, hKE, hlk, htr, rfl⟩ := C
  subst hp
  intro H locs ls hP hS hl
  have hst' : ((S.map (rv g)).map fun v => v.category).sum ≤ 8 := by
    rw [List.map_map, show ((fun v : Value => v.category) ∘ rv g) = (fun v => v.category) from funext (rv_cat g)]; exact hst
  have hn1 : c0 + (n + κ) ≤ R.cells := hn.1
  have hn2 : s0 + 6 * (n + κ) ≤ R.slots := hn.2
  have hcs : (c0 + n) + κ ≤ R.cells ∧ (s0 + 6 * n) + 6 * κ ≤ R.slots := ⟨by omega, by omega⟩
  have hpre : ∀ U : State, U.heap = H → s.WarmedH U.vm → Pre g (.ref b :: as) σ ((.ref b :: as).map (rv g)).toArray U := fun U hU hW => ⟨rfl, by rw [hU]; exact hP, hKE.to hW (by rw [hU]; exact hS.1) (fun a h1 h2 => by rw [hU]; exact hS.2.1 a h1 h2)⟩
  refine vx_callf (vx_runV (b := gA g b) (As := as.map (rv g)) (rest := S.map (rv g)) ⟨hx, hb, hml, hown, hts⟩ (hct l g htr) ⟨(callB_of (Ts := TB) (ws := Cond.code y yc ml ret :: TB) (rm := rmd dy κ) as.length hts (tb_goodIn w2) rfl rfl rfl (hts _ w5) (hts _ w1) hyd hR), hts _ w4, hts _ w3⟩ ⟨Pre_blind g _ σ, va_recv hKE.1 hP Kc.1 (world_obj g σ hk Kc.2.2.2.1), hpre⟩ rfl (by simp only [List.length_map]) hl.1 (by simp only [List.map_append, List.map_reverse, List.map_cons] <;> rfl) (lv_room hst') hd hcs) hS (fun q _ h => h) (fun q h => h) (fun q _ h => h) (fun E ce q9 τ t H1 locs1 ht hvm _ hB hz1 hk1 hS1 hc1 hv1 hcl1 => ?_) (fun r τ t H1 locs1 ht hvm hp1 hB hz1 hk1 hS1 => ?_)
  · exact hB.1.elim
  · have h9 := k r τ hp1 H1 locs1 ls (by rw [← ht]; exact hB) hS1 hl
    rw [show c0 + (n + κ) = c0 + n + κ by omega, show s0 + 6 * (n + κ) = s0 + 6 * n + 6 * κ by omega] at h9
    exact h9
set_option maxHeartbeats 1000000 in
theorem r_lVD {x : Ctx} {own : String} {cc : ByteArray} {nL n pc : Nat} {L : List (Nat × Value)} {S : List Value} {σ : Mem} {dy κ ix ml b : Nat} {y : MethodName} {yc : ByteArray} {ret : Option FieldType} {as : List Value} {K : UInt64 → Mem → Prop} (C : Cx x own cc nL) (pc' : Nat) (hct : CtD y yc ml ret dy κ (.ref b :: as) σ K (fun _ _ => False)) (hd : decode cc pc = .ok (.invokevirtual ix, 3)) (hp : pc + 3 = pc')
    {ck N : Nat} {Cn : String} {T : u_T} (Kc : Cl ck Cn T N) (hk : kd b = .inr ck) (w3 : Cond.selects Cn y y ∈ TB) (w4 : Cond.instanceMethod y ∈ TB) (hyc : y.cls = Cn) (w1 : Cond.methodLink own ix y ∈ TB) (w2 : Cond.code y yc ml ret ∈ TB) (w5 : Cond.initialized y.cls ∈ TB) (hyd : y.cls ≠ "java/lang/invoke/MethodHandle" ∧ y.cls ≠ "java/lang/invoke/VarHandle" ∧ (parseMethodDescriptor y.desc).map (fun d => d.parameters.length) = some as.length)
    (hR : (rmd dy κ).frames + 1 ≤ (roomOf x).frames ∧ 8 + (ml + 11) + (rmd dy κ).locals ≤ (roomOf x).locals) (hst : (S.map fun v => v.category).sum ≤ 8) (hn : cOf x + (n + κ) ≤ (roomOf x).cells ∧ sOf x + 6 * (n + κ) ≤ (roomOf x).slots) (k : ∀ (r : UInt64) (τ : Mem), K r τ → Ws x (n + κ) pc' L (.double r :: S) τ) : Ws x n pc L (as.reverse ++ .ref b :: S) σ := by
  obtain ⟨p, l, e, R, s, m, args, below, meth, c, g, QQ, c0, s0, nL'⟩ := x
  obtain ⟨hx, hb, hml, hown, hts, hKE, hlk, htr, rfl⟩ := C
  subst hp
  intro H locs ls hP hS hl
  have hst' : ((S.map (rv g)).map fun v => v.category).sum ≤ 8 := by
    rw [List.map_map, show ((fun v : Value => v.category) ∘ rv g) = (fun v => v.category) from funext (rv_cat g)]; exact hst
  have hn1 : c0 + (n + κ) ≤ R.cells := hn.1
  have hn2 : s0 + 6 * (n + κ) ≤ R.slots := hn.2
  have hcs : (c0 + n) + κ ≤ R.cells ∧ (s0 + 6 * n) + 6 * κ ≤ R.slots := ⟨by omega, by omega⟩
  have hpre : ∀ U : State, U.heap = H → s.WarmedH U.vm → Pre g (.ref b :: as) σ ((.ref b :: as).map (rv g)).toArray U := fun U hU hW => ⟨rfl, by rw [hU]; exact hP, hKE.to hW (by rw [hU]; exact hS.1) (fun a h1 h2 => by rw [hU]; exact hS.2.1 a h1 h2)⟩
  refine vx_calld (vx_runV (b := gA g b) (As := as.map (rv g)) (rest := S.map (rv g)) ⟨hx, hb, hml, hown, hts⟩ (hct l g htr) ⟨(callB_of (Ts := TB) (ws := Cond.code y yc ml ret :: TB) (rm := rmd dy κ) as.length hts (tb_goodIn w2) rfl rfl rfl (hts _ w5) (hts _ w1) hyd hR), hts _ w4, hts _ w3⟩ ⟨Pre_blind g _ σ, va_recv hKE.1 hP Kc.1 (world_obj g σ hk Kc.2.2.2.1), hpre⟩ rfl (by simp only [List.length_map]) hl.1 (by simp only [List.map_append, List.map_reverse, List.map_cons] <;> rfl) (lv_room hst') hd hcs) hS (fun q _ h => h) (fun q h => h) (fun q _ h => h) (fun E ce q9 τ t H1 locs1 ht hvm _ hB hz1 hk1 hS1 hc1 hv1 hcl1 => ?_) (fun r τ t H1 locs1 ht hvm hp1 hB hz1 hk1 hS1 => ?_)
  · exact hB.1.elim
  · have h9 := k r τ hp1 H1 locs1 ls (by rw [← ht]; exact hB) hS1 hl
    rw [show c0 + (n + κ) = c0 + n + κ by omega, show s0 + 6 * (n + κ) = s0 + 6 * n + 6 * κ by omega] at h9
    exact h9
set_option maxHeartbeats 1000000 in
theorem r_lVV {x : Ctx} {own : String} {cc : ByteArray} {nL n pc : Nat} {L : List (Nat × Value)} {S : List Value} {σ : Mem} {dy κ ix ml b : Nat} {y : MethodName} {yc : ByteArray} {ret : Option FieldType} {as : List Value} {K : Mem → Prop} (C : Cx x own cc nL) (pc' : Nat) (hct : CtV y yc ml ret dy κ (.ref b :: as) σ K (fun _ _ => False)) (hd : decode cc pc = .ok (.invokevirtual ix, 3)) (hp : pc + 3 = pc')
    {ck N : Nat} {Cn : String} {T : u_T} (Kc : Cl ck Cn T N) (hk : kd b = .inr ck) (w3 : Cond.selects Cn y y ∈ TB) (w4 : Cond.instanceMethod y ∈ TB) (hyc : y.cls = Cn) (w1 : Cond.methodLink own ix y ∈ TB) (w2 : Cond.code y yc ml ret ∈ TB) (w5 : Cond.initialized y.cls ∈ TB) (hyd : y.cls ≠ "java/lang/invoke/MethodHandle" ∧ y.cls ≠ "java/lang/invoke/VarHandle" ∧ (parseMethodDescriptor y.desc).map (fun d => d.parameters.length) = some as.length)
    (hR : (rmd dy κ).frames + 1 ≤ (roomOf x).frames ∧ 8 + (ml + 11) + (rmd dy κ).locals ≤ (roomOf x).locals) (hst : (S.map fun v => v.category).sum ≤ 8) (hn : cOf x + (n + κ) ≤ (roomOf x).cells ∧ sOf x + 6 * (n + κ) ≤ (roomOf x).slots) (k : ∀ τ : Mem, K τ → Ws x (n + κ) pc' L S τ) : Ws x n pc L (as.reverse ++ .ref b :: S) σ := by
  obtain ⟨p, l, e, R, s, m, args, below, meth, c, g, QQ, c0, s0, nL'⟩ := x
  obtain ⟨hx, hb, hml, hown, hts, hKE, hlk, htr, rfl⟩ := C
  subst hp
  intro H locs ls hP hS hl
  have hst' : ((S.map (rv g)).map fun v => v.category).sum ≤ 8 := by
    rw [List.map_map, show ((fun v : Value => v.category) ∘ rv g) = (fun v => v.category) from funext (rv_cat g)]; exact hst
  have hn1 : c0 + (n + κ) ≤ R.cells := hn.1
  have hn2 : s0 + 6 * (n + κ) ≤ R.slots := hn.2
  have hcs : (c0 + n) + κ ≤ R.cells ∧ (s0 + 6 * n) + 6 * κ ≤ R.slots := ⟨by omega, by omega⟩
  have hpre : ∀ U : State, U.heap = H → s.WarmedH U.vm → Pre g (.ref b :: as) σ ((.ref b :: as).map (rv g)).toArray U := fun U hU hW => ⟨rfl, by rw [hU]; exact hP, hKE.to hW (by rw [hU]; exact hS.1) (fun a h1 h2 => by rw [hU]; exact hS.2.1 a h1 h2)⟩
  refine vx_callv (vx_runV (b := gA g b) (As := as.map (rv g)) (rest := S.map (rv g)) ⟨hx, hb, hml, hown, hts⟩ (hct l g htr) ⟨(callB_of (Ts := TB) (ws := Cond.code y yc ml ret :: TB) (rm := rmd dy κ) as.length hts (tb_goodIn w2) rfl rfl rfl (hts _ w5) (hts _ w1) hyd hR), hts _ w4, hts _ w3⟩ ⟨Pre_blind g _ σ, va_recv hKE.1 hP Kc.1 (world_obj g σ hk Kc.2.2.2.1), hpre⟩ rfl (by simp only [List.length_map]) hl.1 (by simp only [List.map_append, List.map_reverse, List.map_cons] <;> rfl) (lv_room hst') hd hcs) hS (fun q _ h => h) (fun q h => h) (fun q _ h => h) (fun E ce q9 τ t H1 locs1 ht hvm _ hB hz1 hk1 hS1 hc1 hv1 hcl1 => ?_) (fun τ t H1 locs1 ht hvm hp1 hB hz1 hk1 hS1 => ?_)
  · exact hB.1.elim
  · have h9 := k τ hp1 H1 locs1 ls (by rw [← ht]; exact hB) hS1 hl
    rw [show c0 + (n + κ) = c0 + n + κ by omega, show s0 + 6 * (n + κ) = s0 + 6 * n + 6 * κ by omega] at h9
    exact h9
set_option maxHeartbeats 1000000 in
theorem r_lW {x : Ctx} {own : String} {cc : ByteArray} {nL n pc : Nat} {L : List (Nat × Value)} {S : List Value} {σ : Mem} {dy κ ix ml b : Nat} {y : MethodName} {yc : ByteArray} {hh : List (Nat × Nat × Nat × Nat)} {as : List Value} {K : Int32 → Mem → Prop} (C : Cx x own cc nL) (pc' : Nat) (hct : CtW y yc ml hh dy κ as σ K) (hd : decode cc pc = .ok (.invokestatic ix, 3)) (hp : pc + 3 = pc')
    (w4 : Cond.static y ∈ TB) (w1 : Cond.methodLink own ix y ∈ TB) (w2 : Cond.codeWith y yc ml (some .int) hh ∈ TB) (w5 : Cond.initialized y.cls ∈ TB) (hyd : y.cls ≠ "java/lang/invoke/MethodHandle" ∧ y.cls ≠ "java/lang/invoke/VarHandle" ∧ (parseMethodDescriptor y.desc).map (fun d => d.parameters.length) = some as.length)
    (hR : (rmd dy κ).frames + 1 ≤ (roomOf x).frames ∧ 8 + (ml + 11) + (rmd dy κ).locals ≤ (roomOf x).locals) (hst : (S.map fun v => v.category).sum ≤ 8) (hn : cOf x + (n + κ) ≤ (roomOf x).cells ∧ sOf x + 6 * (n + κ) ≤ (roomOf x).slots) (k : ∀ (r : Int32) (τ : Mem), K r τ → Ws x (n + κ) pc' L (.int r :: S) τ) : Ws x n pc L (as.reverse ++ S) σ := by
  obtain ⟨p, l, e, R, s, m, args, below, meth, c, g, QQ, c0, s0, nL'⟩ := x
  obtain ⟨hx, hb, hml, hown, hts, hKE, hlk, htr, rfl⟩ := C
  subst hp
  intro H locs ls hP hS hl
  have hst' : ((S.map (rv g)).map fun v => v.category).sum ≤ 8 := by
    rw [List.map_map, show ((fun v : Value => v.category) ∘ rv g) = (fun v => v.category) from funext (rv_cat g)]; exact hst
  have hn1 : c0 + (n + κ) ≤ R.cells := hn.1
  have hn2 : s0 + 6 * (n + κ) ≤ R.slots := hn.2
  have hcs : (c0 + n) + κ ≤ R.cells ∧ (s0 + 6 * n) + 6 * κ ≤ R.slots := ⟨by omega, by omega⟩
  have hpre : ∀ U : State, U.heap = H → s.WarmedH U.vm → Pre g as σ (as.map (rv g)).toArray U := fun U hU hW => ⟨rfl, by rw [hU]; exact hP, hKE.to hW (by rw [hU]; exact hS.1) (fun a h1 h2 => by rw [hU]; exact hS.2.1 a h1 h2)⟩
  refine va_calli (vx_runSW (As := as.map (rv g)) (rest := S.map (rv g)) ⟨hx, hb, hml, hown, hts⟩ (hct l g htr) (vx_cwSW (Ts := TB) (ws := Cond.codeWith y yc ml (some .int) hh :: TB) (rm := rmd dy κ) as.length hts (fun w hw => by
    unfold va_wsS at hw
    rcases List.mem_append.mp hw with hw | hw
    · simp only [List.mem_cons, List.not_mem_nil, or_false] at hw
      rcases hw with rfl | rfl | rfl <;> first | exact ⟨w1, good_of_word (tb_good _ w1)⟩ | exact ⟨w4, good_of_word (tb_good _ w4)⟩ | exact ⟨w5, good_of_word (tb_good _ w5)⟩
    · exact tb_goodInW w2 w hw) rfl rfl rfl hyd hR) ⟨Pre_blind g _ σ, hpre⟩ rfl (by simp only [List.length_map]) hl.1 (by simp only [List.map_append, List.map_reverse] <;> rfl) (lv_room hst') hd hcs) hS (fun q _ h => h) (fun q h => h) (fun r τ t H1 locs1 ht hvm hp1 hB hz1 hk1 hS1 => ?_)
  have h9 := k r τ hp1 H1 locs1 ls (by rw [← ht]; exact hB) hS1 hl
  rw [show c0 + (n + κ) = c0 + n + κ by omega, show s0 + 6 * (n + κ) = s0 + 6 * n + 6 * κ by omega] at h9
  exact h9
