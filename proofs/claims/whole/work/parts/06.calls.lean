/-! ===== contracts over the pool ===== -/
def rmd (d κ : Nat) : Room := { frames := d, cells := κ, slots := 6 * κ, locals := 50 * d + 60 }
def Pre (g : Gh) (as : List Value) (σ : Mem) : Array Value → State → Prop := va_Pc (as.map (rv g)) (fun U => PM g σ U.heap ∧ KE g U)
def BB (g : Gh) : Mem → State → Prop := fun σ t => PM g σ t.heap
def XX (g : Gh) (X : String → Mem → Prop) : String → State → State → Prop := vx_X (S := Mem) (fun _ => True) (fun E σ t => X E σ ∧ PM g σ t.heap) (AA g)
theorem Pre_blind (g : Gh) (as : List Value) (σ : Mem) : FrameBlind (Pre g as σ) := fun a U f mk h => ⟨h.1, h.2.1, h.2.2.calling f mk a⟩
theorem tb_goodIn {y : MethodName} {yc : ByteArray} {ml : Nat} {ret : Option FieldType} (h : Cond.code y yc ml ret ∈ TB) : GoodIn TB (Cond.code y yc ml ret :: TB) := fun w hw => by
  rcases List.mem_cons.mp hw with rfl | hw
  · exact ⟨h, good_of_word (tb_good _ h)⟩
  · exact ⟨hw, good_of_word (tb_good _ hw)⟩

def CtI (y : MethodName) (yc : ByteArray) (ml : Nat) (ret : Option FieldType) (d κ : Nat) (as : List Value) (σ : Mem) (K : Int32 → Mem → Prop) (X : String → Mem → Prop) : Prop :=
  ∀ (l : Launch) (g : Gh), l.stackTraces = false → vx_Met l y (Cond.code y yc ml ret :: TB) (rmd d κ) (Pre g as σ) (va_Qi K (BB g) (AA g)) (XX g X) κ (6 * κ) (AA g)
/-- the frame of a method that owes this -/
def RtI (x : Ctx) (d κ : Nat) (ret : Option FieldType) (K : Int32 → Mem → Prop) (X : String → Mem → Prop) : Prop := match x with
  | (p, l, e, R, s, m, args, below, meth, c, g, QQ, c0, s0, nL) => R = rmd d κ ∧ meth.sig.returnType = ret ∧ QQ = vx_MQ below (va_Qi K (BB g) (AA g)) (XX g X) args s κ (6 * κ) (AA g) ∧ c0 = 0 ∧ s0 = 0 ∧ (∀ z ∈ c.exceptionTable.toList, False)
def CtL (y : MethodName) (yc : ByteArray) (ml : Nat) (ret : Option FieldType) (d κ : Nat) (as : List Value) (σ : Mem) (K : Int64 → Mem → Prop) (X : String → Mem → Prop) : Prop :=
  ∀ (l : Launch) (g : Gh), l.stackTraces = false → vx_Met l y (Cond.code y yc ml ret :: TB) (rmd d κ) (Pre g as σ) (va_Ql K (BB g) (AA g)) (XX g X) κ (6 * κ) (AA g)
/-- the frame of a method that owes this -/
def RtL (x : Ctx) (d κ : Nat) (ret : Option FieldType) (K : Int64 → Mem → Prop) (X : String → Mem → Prop) : Prop := match x with
  | (p, l, e, R, s, m, args, below, meth, c, g, QQ, c0, s0, nL) => R = rmd d κ ∧ meth.sig.returnType = ret ∧ QQ = vx_MQ below (va_Ql K (BB g) (AA g)) (XX g X) args s κ (6 * κ) (AA g) ∧ c0 = 0 ∧ s0 = 0 ∧ (∀ z ∈ c.exceptionTable.toList, False)
def CtF (y : MethodName) (yc : ByteArray) (ml : Nat) (ret : Option FieldType) (d κ : Nat) (as : List Value) (σ : Mem) (K : UInt32 → Mem → Prop) (X : String → Mem → Prop) : Prop :=
  ∀ (l : Launch) (g : Gh), l.stackTraces = false → vx_Met l y (Cond.code y yc ml ret :: TB) (rmd d κ) (Pre g as σ) (va_Qf K (BB g) (AA g)) (XX g X) κ (6 * κ) (AA g)
/-- the frame of a method that owes this -/
def RtF (x : Ctx) (d κ : Nat) (ret : Option FieldType) (K : UInt32 → Mem → Prop) (X : String → Mem → Prop) : Prop := match x with
  | (p, l, e, R, s, m, args, below, meth, c, g, QQ, c0, s0, nL) => R = rmd d κ ∧ meth.sig.returnType = ret ∧ QQ = vx_MQ below (va_Qf K (BB g) (AA g)) (XX g X) args s κ (6 * κ) (AA g) ∧ c0 = 0 ∧ s0 = 0 ∧ (∀ z ∈ c.exceptionTable.toList, False)
def CtD (y : MethodName) (yc : ByteArray) (ml : Nat) (ret : Option FieldType) (d κ : Nat) (as : List Value) (σ : Mem) (K : UInt64 → Mem → Prop) (X : String → Mem → Prop) : Prop :=
  ∀ (l : Launch) (g : Gh), l.stackTraces = false → vx_Met l y (Cond.code y yc ml ret :: TB) (rmd d κ) (Pre g as σ) (va_Qd K (BB g) (AA g)) (XX g X) κ (6 * κ) (AA g)
/-- the frame of a method that owes this -/
def RtD (x : Ctx) (d κ : Nat) (ret : Option FieldType) (K : UInt64 → Mem → Prop) (X : String → Mem → Prop) : Prop := match x with
  | (p, l, e, R, s, m, args, below, meth, c, g, QQ, c0, s0, nL) => R = rmd d κ ∧ meth.sig.returnType = ret ∧ QQ = vx_MQ below (va_Qd K (BB g) (AA g)) (XX g X) args s κ (6 * κ) (AA g) ∧ c0 = 0 ∧ s0 = 0 ∧ (∀ z ∈ c.exceptionTable.toList, False)
def CtV (y : MethodName) (yc : ByteArray) (ml : Nat) (ret : Option FieldType) (d κ : Nat) (as : List Value) (σ : Mem) (K : Mem → Prop) (X : String → Mem → Prop) : Prop :=
  ∀ (l : Launch) (g : Gh), l.stackTraces = false → vx_Met l y (Cond.code y yc ml ret :: TB) (rmd d κ) (Pre g as σ) (va_Qv K (BB g) (AA g)) (XX g X) κ (6 * κ) (AA g)
/-- the frame of a method that owes this -/
def RtV (x : Ctx) (d κ : Nat) (ret : Option FieldType) (K : Mem → Prop) (X : String → Mem → Prop) : Prop := match x with
  | (p, l, e, R, s, m, args, below, meth, c, g, QQ, c0, s0, nL) => R = rmd d κ ∧ meth.sig.returnType = ret ∧ QQ = vx_MQ below (va_Qv K (BB g) (AA g)) (XX g X) args s κ (6 * κ) (AA g) ∧ c0 = 0 ∧ s0 = 0 ∧ (∀ z ∈ c.exceptionTable.toList, False)
/-- the frame of a method that may throw this to its caller -/
def Px (x : Ctx) (d κ : Nat) (X : String → Mem → Prop) : Prop := match x with
  | (p, l, e, R, s, m, args, below, meth, c, g, QQ, c0, s0, nL) => R = rmd d κ ∧ (∃ Qc : Array Value → State → Outcome → State → Prop, QQ = vx_MQ below Qc (XX g X) args s κ (6 * κ) (AA g)) ∧ c0 = 0 ∧ s0 = 0 ∧ (∀ z ∈ c.exceptionTable.toList, False)
theorem RtI.px {x : Ctx} {d κ : Nat} {ret : Option FieldType} {K : Int32 → Mem → Prop} {X : String → Mem → Prop} (h : RtI x d κ ret K X) : Px x d κ X := by
  obtain ⟨p, l, e, R, s, m, args, below, meth, c, g, QQ, c0, s0, nL⟩ := x
  obtain ⟨h1, h2, h3, h4, h5, h6⟩ := h
  exact ⟨h1, ⟨_, h3⟩, h4, h5, h6⟩
theorem RtL.px {x : Ctx} {d κ : Nat} {ret : Option FieldType} {K : Int64 → Mem → Prop} {X : String → Mem → Prop} (h : RtL x d κ ret K X) : Px x d κ X := by
  obtain ⟨p, l, e, R, s, m, args, below, meth, c, g, QQ, c0, s0, nL⟩ := x
  obtain ⟨h1, h2, h3, h4, h5, h6⟩ := h
  exact ⟨h1, ⟨_, h3⟩, h4, h5, h6⟩
theorem RtF.px {x : Ctx} {d κ : Nat} {ret : Option FieldType} {K : UInt32 → Mem → Prop} {X : String → Mem → Prop} (h : RtF x d κ ret K X) : Px x d κ X := by
  obtain ⟨p, l, e, R, s, m, args, below, meth, c, g, QQ, c0, s0, nL⟩ := x
  obtain ⟨h1, h2, h3, h4, h5, h6⟩ := h
  exact ⟨h1, ⟨_, h3⟩, h4, h5, h6⟩
theorem RtD.px {x : Ctx} {d κ : Nat} {ret : Option FieldType} {K : UInt64 → Mem → Prop} {X : String → Mem → Prop} (h : RtD x d κ ret K X) : Px x d κ X := by
  obtain ⟨p, l, e, R, s, m, args, below, meth, c, g, QQ, c0, s0, nL⟩ := x
  obtain ⟨h1, h2, h3, h4, h5, h6⟩ := h
  exact ⟨h1, ⟨_, h3⟩, h4, h5, h6⟩
theorem RtV.px {x : Ctx} {d κ : Nat} {ret : Option FieldType} {K : Mem → Prop} {X : String → Mem → Prop} (h : RtV x d κ ret K X) : Px x d κ X := by
  obtain ⟨p, l, e, R, s, m, args, below, meth, c, g, QQ, c0, s0, nL⟩ := x
  obtain ⟨h1, h2, h3, h4, h5, h6⟩ := h
  exact ⟨h1, ⟨_, h3⟩, h4, h5, h6⟩
theorem lv_args_map (g : Gh) : ∀ (as : List Value) (i : Nat), lv_args i (as.map (rv g)) = mapL g (lv_args i as)
  | [], _ => rfl
  | v :: vs, i => by
    simp only [List.map_cons, lv_args, mapL, rv_cat]
    exact congrArg _ (lv_args_map g vs _)
theorem lg_sl_map (g : Gh) (as : List Value) : (lg_sl (as.map (rv g))).length = (lg_sl as).length := by
  induction as with
  | nil => rfl
  | cons v vs ih =>
    simp only [lg_sl, List.map_cons, List.flatMap_cons, List.length_append, rv_cat] at ih ⊢
    rw [ih]
    split <;> rfl
/-- as vx_ofW; the class may be one whose other methods are run by natives -/
theorem vx_ofWF {l : Launch} {y : MethodName} {ws ws' : List Cond} {rm : Room} {Pc : Array Value → State → Prop} {Qc : Array Value → State → Outcome → State → Prop} {XC : String → State → State → Prop} {mc ms : Nat} {free : Addr → Prop} {cc : ByteArray} {maxL : Nat} {ret : Option FieldType}
    (hy : plainFor y = true) (hw : ws = Cond.code y cc maxL ret :: ws')
    (body : ∀ p e s m args below meth c s₁, BodyLoose p l y (headSpec ws rm) cc maxL ret e s m args below meth c s₁ → c.maxLocals = maxL → (∀ x ∈ c.exceptionTable.toList, False) → Pc args s →
      W p l e (headSpec ws rm).room s m args below meth c s.heap [] 0 0 (vx_MQ below Qc XC args s mc ms free) (entryFrame m args maxL)) : vx_Met l y ws rm Pc Qc XC mc ms free := by
  refine MetFree.of_bodySF (code := cc) (maxLocals := maxL) (ret := ret) hy ?_ ?_
  · intro args s m h hn
    obtain ⟨meth, c, h1, h2, h3, h4, h5, h6, -, -⟩ := Cond.code_spec hn (atoms_spec (ws := ws) h _ (by rw [hw]; exact List.mem_cons_self))
    exact ⟨meth, c, h1, h2, h3, h4, h5, h6⟩
  · intro p e s m args below meth c s₁ B hml hP _
    have hh0 : s₁.heap = s.heap := by rw [B.state]; rfl
    have ht : ∀ x ∈ c.exceptionTable.toList, False := by
      obtain ⟨meth9, c9, h1, h2, -, -, -, -, h7, -⟩ := Cond.code_spec B.named (atoms_spec (ws := ws) B.pre _ (by rw [hw]; exact List.mem_cons_self))
      cases Option.some.inj (h1.symm.trans B.method)
      cases Option.some.inj (h2.symm.trans (Stand.of_body B).code)
      intro x hx
      rw [Array.isEmpty_iff.mp h7] at hx
      cases hx
    obtain ⟨t, a1, o, b1, b2, b3⟩ := body p e s m args below meth c s₁ B hml ht hP s₁ hh0 (Stand.of_body B)
    exact ⟨t, o, a1, b1, b2, b3⟩
set_option maxHeartbeats 1000000 in
/-- a contract out of the walk of its body -/
theorem ctI_of {y : MethodName} {yc : ByteArray} {ml : Nat} {ret : Option FieldType} {d κ : Nat} {as : List Value} {σ : Mem} {K : Int32 → Mem → Prop} {X : String → Mem → Prop} (hy : plainFor y = true) (hl : (lg_sl as).length ≤ ml)
    (body : ∀ x : Ctx, Cx x y.cls yc ml → RtI x d κ ret K X → Ws x 0 0 (lv_args 0 as) [] σ) : CtI y yc ml ret d κ as σ K X := by
  intro l g htr
  refine vx_ofWF (cc := yc) (maxL := ml) (ret := ret) hy rfl ?_
  intro p e s m args below meth c s₁ B hml ht hv
  obtain ⟨rfl, hP, hKE⟩ := hv
  have hx := B.exec
  have hb := B.bytes
  have hr := B.returns
  have hts0 := atoms_spec (ws := Cond.code y yc ml ret :: TB) B.pre
  have hown : s.vm.findClass y.cls = some m.cls := findClass_of_methodNamed B.named
  have hlocks := B.notSynchronized
  have hle := lv_entry (as.map (rv g)) (n := ml) (by rw [lg_sl_map]; exact hl)
  rw [lg_entry_eq]
  rw [lv_args_map] at hle
  exact body (p, l, e, rmd d κ, s, m, (as.map (rv g)).toArray, below, meth, c, g, vx_MQ below (va_Qi K (BB g) (AA g)) (XX g X) (as.map (rv g)).toArray s κ (6 * κ) (AA g), 0, 0, ml) ⟨hx, hb, hml, hown, fun w hw => hts0 w (List.mem_cons_of_mem _ hw), hKE, hlocks, htr, rfl⟩ ⟨rfl, hr, rfl, rfl, rfl, ht⟩ s.heap [] _ hP va_S.rf hle
set_option maxHeartbeats 1000000 in
/-- a contract out of the walk of its body -/
theorem ctL_of {y : MethodName} {yc : ByteArray} {ml : Nat} {ret : Option FieldType} {d κ : Nat} {as : List Value} {σ : Mem} {K : Int64 → Mem → Prop} {X : String → Mem → Prop} (hy : plainFor y = true) (hl : (lg_sl as).length ≤ ml)
    (body : ∀ x : Ctx, Cx x y.cls yc ml → RtL x d κ ret K X → Ws x 0 0 (lv_args 0 as) [] σ) : CtL y yc ml ret d κ as σ K X := by
  intro l g htr
  refine vx_ofWF (cc := yc) (maxL := ml) (ret := ret) hy rfl ?_
  intro p e s m args below meth c s₁ B hml ht hv
  obtain ⟨rfl, hP, hKE⟩ := hv
  have hx := B.exec
  have hb := B.bytes
  have hr := B.returns
  have hts0 := atoms_spec (ws := Cond.code y yc ml ret :: TB) B.pre
  have hown : s.vm.findClass y.cls = some m.cls := findClass_of_methodNamed B.named
  have hlocks := B.notSynchronized
  have hle := lv_entry (as.map (rv g)) (n := ml) (by rw [lg_sl_map]; exact hl)
  rw [lg_entry_eq]
  rw [lv_args_map] at hle
  exact body (p, l, e, rmd d κ, s, m, (as.map (rv g)).toArray, below, meth, c, g, vx_MQ below (va_Ql K (BB g) (AA g)) (XX g X) (as.map (rv g)).toArray s κ (6 * κ) (AA g), 0, 0, ml) ⟨hx, hb, hml, hown, fun w hw => hts0 w (List.mem_cons_of_mem _ hw), hKE, hlocks, htr, rfl⟩ ⟨rfl, hr, rfl, rfl, rfl, ht⟩ s.heap [] _ hP va_S.rf hle
set_option maxHeartbeats 1000000 in
/-- a contract out of the walk of its body -/
theorem ctF_of {y : MethodName} {yc : ByteArray} {ml : Nat} {ret : Option FieldType} {d κ : Nat} {as : List Value} {σ : Mem} {K : UInt32 → Mem → Prop} {X : String → Mem → Prop} (hy : plainFor y = true) (hl : (lg_sl as).length ≤ ml)
    (body : ∀ x : Ctx, Cx x y.cls yc ml → RtF x d κ ret K X → Ws x 0 0 (lv_args 0 as) [] σ) : CtF y yc ml ret d κ as σ K X := by
  intro l g htr
  refine vx_ofWF (cc := yc) (maxL := ml) (ret := ret) hy rfl ?_
  intro p e s m args below meth c s₁ B hml ht hv
  obtain ⟨rfl, hP, hKE⟩ := hv
  have hx := B.exec
  have hb := B.bytes
  have hr := B.returns
  have hts0 := atoms_spec (ws := Cond.code y yc ml ret :: TB) B.pre
  have hown : s.vm.findClass y.cls = some m.cls := findClass_of_methodNamed B.named
  have hlocks := B.notSynchronized
  have hle := lv_entry (as.map (rv g)) (n := ml) (by rw [lg_sl_map]; exact hl)
  rw [lg_entry_eq]
  rw [lv_args_map] at hle
  exact body (p, l, e, rmd d κ, s, m, (as.map (rv g)).toArray, below, meth, c, g, vx_MQ below (va_Qf K (BB g) (AA g)) (XX g X) (as.map (rv g)).toArray s κ (6 * κ) (AA g), 0, 0, ml) ⟨hx, hb, hml, hown, fun w hw => hts0 w (List.mem_cons_of_mem _ hw), hKE, hlocks, htr, rfl⟩ ⟨rfl, hr, rfl, rfl, rfl, ht⟩ s.heap [] _ hP va_S.rf hle
set_option maxHeartbeats 1000000 in
/-- a contract out of the walk of its body -/
theorem ctD_of {y : MethodName} {yc : ByteArray} {ml : Nat} {ret : Option FieldType} {d κ : Nat} {as : List Value} {σ : Mem} {K : UInt64 → Mem → Prop} {X : String → Mem → Prop} (hy : plainFor y = true) (hl : (lg_sl as).length ≤ ml)
    (body : ∀ x : Ctx, Cx x y.cls yc ml → RtD x d κ ret K X → Ws x 0 0 (lv_args 0 as) [] σ) : CtD y yc ml ret d κ as σ K X := by
  intro l g htr
  refine vx_ofWF (cc := yc) (maxL := ml) (ret := ret) hy rfl ?_
  intro p e s m args below meth c s₁ B hml ht hv
  obtain ⟨rfl, hP, hKE⟩ := hv
  have hx := B.exec
  have hb := B.bytes
  have hr := B.returns
  have hts0 := atoms_spec (ws := Cond.code y yc ml ret :: TB) B.pre
  have hown : s.vm.findClass y.cls = some m.cls := findClass_of_methodNamed B.named
  have hlocks := B.notSynchronized
  have hle := lv_entry (as.map (rv g)) (n := ml) (by rw [lg_sl_map]; exact hl)
  rw [lg_entry_eq]
  rw [lv_args_map] at hle
  exact body (p, l, e, rmd d κ, s, m, (as.map (rv g)).toArray, below, meth, c, g, vx_MQ below (va_Qd K (BB g) (AA g)) (XX g X) (as.map (rv g)).toArray s κ (6 * κ) (AA g), 0, 0, ml) ⟨hx, hb, hml, hown, fun w hw => hts0 w (List.mem_cons_of_mem _ hw), hKE, hlocks, htr, rfl⟩ ⟨rfl, hr, rfl, rfl, rfl, ht⟩ s.heap [] _ hP va_S.rf hle
set_option maxHeartbeats 1000000 in
/-- a contract out of the walk of its body -/
theorem ctV_of {y : MethodName} {yc : ByteArray} {ml : Nat} {ret : Option FieldType} {d κ : Nat} {as : List Value} {σ : Mem} {K : Mem → Prop} {X : String → Mem → Prop} (hy : plainFor y = true) (hl : (lg_sl as).length ≤ ml)
    (body : ∀ x : Ctx, Cx x y.cls yc ml → RtV x d κ ret K X → Ws x 0 0 (lv_args 0 as) [] σ) : CtV y yc ml ret d κ as σ K X := by
  intro l g htr
  refine vx_ofWF (cc := yc) (maxL := ml) (ret := ret) hy rfl ?_
  intro p e s m args below meth c s₁ B hml ht hv
  obtain ⟨rfl, hP, hKE⟩ := hv
  have hx := B.exec
  have hb := B.bytes
  have hr := B.returns
  have hts0 := atoms_spec (ws := Cond.code y yc ml ret :: TB) B.pre
  have hown : s.vm.findClass y.cls = some m.cls := findClass_of_methodNamed B.named
  have hlocks := B.notSynchronized
  have hle := lv_entry (as.map (rv g)) (n := ml) (by rw [lg_sl_map]; exact hl)
  rw [lg_entry_eq]
  rw [lv_args_map] at hle
  exact body (p, l, e, rmd d κ, s, m, (as.map (rv g)).toArray, below, meth, c, g, vx_MQ below (va_Qv K (BB g) (AA g)) (XX g X) (as.map (rv g)).toArray s κ (6 * κ) (AA g), 0, 0, ml) ⟨hx, hb, hml, hown, fun w hw => hts0 w (List.mem_cons_of_mem _ hw), hKE, hlocks, htr, rfl⟩ ⟨rfl, hr, rfl, rfl, rfl, ht⟩ s.heap [] _ hP va_S.rf hle
theorem r_iret {x : Ctx} {own : String} {cc : ByteArray} {nL n pc : Nat} {L : List (Nat × Value)} {S : List Value} {σ : Mem} {d κ : Nat} {ty : FieldType} {v : Int32} {K : Int32 → Mem → Prop} {X : String → Mem → Prop} (C : Cx x own cc nL) (r : RtI x d κ (some ty) K X) (dc : decode cc pc = .ok (.ireturn, 1)) (hn : n ≤ κ) (hnw : narrow ty (.int v) = .int v) (h : K v σ) : Ws x n pc L [.int v] σ := by
  obtain ⟨p, l, e, R, s, m, args, below, meth, c, g, QQ, c0, s0, nL'⟩ := x
  obtain ⟨hx, hb, hml, hown, hts, hKE, hlk, htr, rfl⟩ := C
  obtain ⟨rfl, hr, rfl, rfl, rfl, htb⟩ := r
  intro H locs ls hP hS hl
  refine W.widen (k := κ) (n := 6 * κ) (by omega) (by omega) (vx_ret (W.zret hx hb hr hnw (fun t ht hW => ⟨⟨v, σ, rfl, h, by rw [← ht] at hP; exact hP⟩, hS.F ht⟩) (fun q hq => hS.2.2 q hq) dc hlk))
theorem r_lret {x : Ctx} {own : String} {cc : ByteArray} {nL n pc : Nat} {L : List (Nat × Value)} {S : List Value} {σ : Mem} {d κ : Nat}  {v : Int64} {K : Int64 → Mem → Prop} {X : String → Mem → Prop} (C : Cx x own cc nL) (r : RtL x d κ (some .long) K X) (dc : decode cc pc = .ok (.lreturn, 1)) (hn : n ≤ κ) (h : K v σ) : Ws x n pc L [.long v] σ := by
  obtain ⟨p, l, e, R, s, m, args, below, meth, c, g, QQ, c0, s0, nL'⟩ := x
  obtain ⟨hx, hb, hml, hown, hts, hKE, hlk, htr, rfl⟩ := C
  obtain ⟨rfl, hr, rfl, rfl, rfl, htb⟩ := r
  intro H locs ls hP hS hl
  refine W.widen (k := κ) (n := 6 * κ) (by omega) (by omega) (vx_ret (W.lret hx hb hr (fun t ht hW => ⟨⟨v, σ, rfl, h, by rw [← ht] at hP; exact hP⟩, hS.F ht⟩) (fun q hq => hS.2.2 q hq) dc hlk))
theorem r_fret {x : Ctx} {own : String} {cc : ByteArray} {nL n pc : Nat} {L : List (Nat × Value)} {S : List Value} {σ : Mem} {d κ : Nat}  {v : UInt32} {K : UInt32 → Mem → Prop} {X : String → Mem → Prop} (C : Cx x own cc nL) (r : RtF x d κ (some .float) K X) (dc : decode cc pc = .ok (.freturn, 1)) (hn : n ≤ κ) (h : K v σ) : Ws x n pc L [.float v] σ := by
  obtain ⟨p, l, e, R, s, m, args, below, meth, c, g, QQ, c0, s0, nL'⟩ := x
  obtain ⟨hx, hb, hml, hown, hts, hKE, hlk, htr, rfl⟩ := C
  obtain ⟨rfl, hr, rfl, rfl, rfl, htb⟩ := r
  intro H locs ls hP hS hl
  refine W.widen (k := κ) (n := 6 * κ) (by omega) (by omega) (vx_ret (W.fret hx hb hr (fun t ht hW => ⟨⟨v, σ, rfl, h, by rw [← ht] at hP; exact hP⟩, hS.F ht⟩) (fun q hq => hS.2.2 q hq) dc hlk))
theorem r_dret {x : Ctx} {own : String} {cc : ByteArray} {nL n pc : Nat} {L : List (Nat × Value)} {S : List Value} {σ : Mem} {d κ : Nat}  {v : UInt64} {K : UInt64 → Mem → Prop} {X : String → Mem → Prop} (C : Cx x own cc nL) (r : RtD x d κ (some .double) K X) (dc : decode cc pc = .ok (.dreturn, 1)) (hn : n ≤ κ) (h : K v σ) : Ws x n pc L [.double v] σ := by
  obtain ⟨p, l, e, R, s, m, args, below, meth, c, g, QQ, c0, s0, nL'⟩ := x
  obtain ⟨hx, hb, hml, hown, hts, hKE, hlk, htr, rfl⟩ := C
  obtain ⟨rfl, hr, rfl, rfl, rfl, htb⟩ := r
  intro H locs ls hP hS hl
  refine W.widen (k := κ) (n := 6 * κ) (by omega) (by omega) (vx_ret (W.dret hx hb hr (fun t ht hW => ⟨⟨v, σ, rfl, h, by rw [← ht] at hP; exact hP⟩, hS.F ht⟩) (fun q hq => hS.2.2 q hq) dc hlk))
theorem r_vret {x : Ctx} {own : String} {cc : ByteArray} {nL n pc : Nat} {L : List (Nat × Value)} {S : List Value} {σ : Mem} {d κ : Nat} {K : Mem → Prop} {X : String → Mem → Prop} (C : Cx x own cc nL) (r : RtV x d κ none K X) (dc : decode cc pc = .ok (.return_, 1)) (hn : n ≤ κ) (h : K σ) : Ws x n pc L [] σ := by
  obtain ⟨p, l, e, R, s, m, args, below, meth, c, g, QQ, c0, s0, nL'⟩ := x
  obtain ⟨hx, hb, hml, hown, hts, hKE, hlk, htr, rfl⟩ := C
  obtain ⟨rfl, hr, rfl, rfl, rfl, htb⟩ := r
  intro H locs ls hP hS hl
  refine W.widen (k := κ) (n := 6 * κ) (by omega) (by omega) (vx_ret (W.vret hx hb hr (fun t ht hW => ⟨⟨σ, rfl, h, by rw [← ht] at hP; exact hP⟩, hS.F ht⟩) (fun q hq => hS.2.2 q hq) dc hlk))
set_option maxHeartbeats 1000000 in
theorem r_cVI {x : Ctx} {own : String} {cc : ByteArray} {nL n pc : Nat} {L : List (Nat × Value)} {S : List Value} {σ : Mem} {dx κx dy κ ix ml b : Nat} {y : MethodName} {yc : ByteArray} {ret : Option FieldType} {as : List Value} {K : Int32 → Mem → Prop} {X : String → Mem → Prop} (C : Cx x own cc nL) (r : Px x dx κx X) (pc' : Nat) (hct : CtI y yc ml ret dy κ (.ref b :: as) σ K X) (hd : decode cc pc = .ok (.invokevirtual ix, 3)) (hp : pc + 3 = pc')
    {ck N : Nat} {Cn : String} {T : u_T} (Kc : Cl ck Cn T N) (hk : kd b = .inr ck) (w3 : Cond.selects Cn y y ∈ TB) (w4 : Cond.instanceMethod y ∈ TB) (hyc : y.cls = Cn) (w1 : Cond.methodLink own ix y ∈ TB) (w2 : Cond.code y yc ml ret ∈ TB) (w5 : Cond.initialized y.cls ∈ TB) (hyd : y.cls ≠ "java/lang/invoke/MethodHandle" ∧ y.cls ≠ "java/lang/invoke/VarHandle" ∧ (parseMethodDescriptor y.desc).map (fun d => d.parameters.length) = some as.length)
    (hR : (rmd dy κ).frames + 1 ≤ (rmd dx κx).frames ∧ 8 + (ml + 11) + (rmd dy κ).locals ≤ (rmd dx κx).locals) (hst : (S.map fun v => v.category).sum ≤ 8) (hn : n + κ ≤ κx) (k : ∀ (r : Int32) (τ : Mem), K r τ → Ws x (n + κ) pc' L (.int r :: S) τ) : Ws x n pc L (as.reverse ++ .ref b :: S) σ := by
  obtain ⟨p, l, e, R, s, m, args, below, meth, c, g, QQ, c0, s0, nL'⟩ := x
  obtain ⟨hx, hb, hml, hown, hts, hKE, hlk, htr, rfl⟩ := C
  obtain ⟨rfl, ⟨Qc, rfl⟩, rfl, rfl, htb⟩ := r
  subst hp
  intro H locs ls hP hS hl
  have hst' : ((S.map (rv g)).map fun v => v.category).sum ≤ 8 := by
    rw [List.map_map, show ((fun v : Value => v.category) ∘ rv g) = (fun v => v.category) from funext (rv_cat g)]; exact hst
  have hcs : (0 + n) + κ ≤ (rmd dx κx).cells ∧ (0 + 6 * n) + 6 * κ ≤ (rmd dx κx).slots := ⟨by show 0 + n + κ ≤ κx; omega, by show 0 + 6 * n + 6 * κ ≤ 6 * κx; omega⟩
  have hpre : ∀ U : State, U.heap = H → s.WarmedH U.vm → Pre g (.ref b :: as) σ ((.ref b :: as).map (rv g)).toArray U := fun U hU hW => ⟨rfl, by rw [hU]; exact hP, hKE.to hW (by rw [hU]; exact hS.1) (fun a h1 h2 => by rw [hU]; exact hS.2.1 a h1 h2)⟩
  refine vx_calli (vx_runV (b := gA g b) (As := as.map (rv g)) (rest := S.map (rv g)) ⟨hx, hb, hml, hown, hts⟩ (hct l g htr) ⟨(callB_of (Ts := TB) (ws := Cond.code y yc ml ret :: TB) (rm := rmd dy κ) as.length hts (tb_goodIn w2) rfl rfl rfl (hts _ w5) (hts _ w1) hyd hR), hts _ w4, hts _ w3⟩ ⟨Pre_blind g _ σ, va_recv hKE.1 hP Kc.1 (world_obj g σ hk Kc.2.2.2.1), hpre⟩ rfl (by simp only [List.length_map]) hl.1 (by simp only [List.map_append, List.map_reverse, List.map_cons] <;> rfl) (lv_room hst') hd hcs) hS (fun q _ h => h) (fun q h => h) (fun q _ h => h) (fun E ce q9 τ t H1 locs1 ht hvm _ hB hz1 hk1 hS1 hc1 hv1 hcl1 => ?_) (fun r τ t H1 locs1 ht hvm hp1 hB hz1 hk1 hS1 => ?_)
  · refine vx_widen (k := κx) (n := 6 * κx) (by omega) (by omega) (vx_out (fun z hz => (htb z hz).elim) hlk hc1 hv1 hcl1 (fun t' ht' hv' => ⟨τ, trivial, ⟨hB.1, by rw [ht', ← ht]; exact hB.2⟩, hS1.F ht'⟩) (fun z hz => hS1.2.2 z hz) (Nat.le_refl _) (Nat.le_refl _))
  · have h9 := k r τ hp1 H1 locs1 ls (by rw [← ht]; exact hB) hS1 hl
    rw [show 0 + (n + κ) = 0 + n + κ by omega, show 0 + 6 * (n + κ) = 0 + 6 * n + 6 * κ by omega] at h9
    exact h9
set_option maxHeartbeats 1000000 in
theorem r_cVL {x : Ctx} {own : String} {cc : ByteArray} {nL n pc : Nat} {L : List (Nat × Value)} {S : List Value} {σ : Mem} {dx κx dy κ ix ml b : Nat} {y : MethodName} {yc : ByteArray} {ret : Option FieldType} {as : List Value} {K : Int64 → Mem → Prop} {X : String → Mem → Prop} (C : Cx x own cc nL) (r : Px x dx κx X) (pc' : Nat) (hct : CtL y yc ml ret dy κ (.ref b :: as) σ K X) (hd : decode cc pc = .ok (.invokevirtual ix, 3)) (hp : pc + 3 = pc')
    {ck N : Nat} {Cn : String} {T : u_T} (Kc : Cl ck Cn T N) (hk : kd b = .inr ck) (w3 : Cond.selects Cn y y ∈ TB) (w4 : Cond.instanceMethod y ∈ TB) (hyc : y.cls = Cn) (w1 : Cond.methodLink own ix y ∈ TB) (w2 : Cond.code y yc ml ret ∈ TB) (w5 : Cond.initialized y.cls ∈ TB) (hyd : y.cls ≠ "java/lang/invoke/MethodHandle" ∧ y.cls ≠ "java/lang/invoke/VarHandle" ∧ (parseMethodDescriptor y.desc).map (fun d => d.parameters.length) = some as.length)
    (hR : (rmd dy κ).frames + 1 ≤ (rmd dx κx).frames ∧ 8 + (ml + 11) + (rmd dy κ).locals ≤ (rmd dx κx).locals) (hst : (S.map fun v => v.category).sum ≤ 8) (hn : n + κ ≤ κx) (k : ∀ (r : Int64) (τ : Mem), K r τ → Ws x (n + κ) pc' L (.long r :: S) τ) : Ws x n pc L (as.reverse ++ .ref b :: S) σ := by
  obtain ⟨p, l, e, R, s, m, args, below, meth, c, g, QQ, c0, s0, nL'⟩ := x
  obtain ⟨hx, hb, hml, hown, hts, hKE, hlk, htr, rfl⟩ := C
  obtain ⟨rfl, ⟨Qc, rfl⟩, rfl, rfl, htb⟩ := r
  subst hp
  intro H locs ls hP hS hl
  have hst' : ((S.map (rv g)).map fun v => v.category).sum ≤ 8 := by
    rw [List.map_map, show ((fun v : Value => v.category) ∘ rv g) = (fun v => v.category) from funext (rv_cat g)]; exact hst
  have hcs : (0 + n) + κ ≤ (rmd dx κx).cells ∧ (0 + 6 * n) + 6 * κ ≤ (rmd dx κx).slots := ⟨by show 0 + n + κ ≤ κx; omega, by show 0 + 6 * n + 6 * κ ≤ 6 * κx; omega⟩
  have hpre : ∀ U : State, U.heap = H → s.WarmedH U.vm → Pre g (.ref b :: as) σ ((.ref b :: as).map (rv g)).toArray U := fun U hU hW => ⟨rfl, by rw [hU]; exact hP, hKE.to hW (by rw [hU]; exact hS.1) (fun a h1 h2 => by rw [hU]; exact hS.2.1 a h1 h2)⟩
  refine vx_calll (vx_runV (b := gA g b) (As := as.map (rv g)) (rest := S.map (rv g)) ⟨hx, hb, hml, hown, hts⟩ (hct l g htr) ⟨(callB_of (Ts := TB) (ws := Cond.code y yc ml ret :: TB) (rm := rmd dy κ) as.length hts (tb_goodIn w2) rfl rfl rfl (hts _ w5) (hts _ w1) hyd hR), hts _ w4, hts _ w3⟩ ⟨Pre_blind g _ σ, va_recv hKE.1 hP Kc.1 (world_obj g σ hk Kc.2.2.2.1), hpre⟩ rfl (by simp only [List.length_map]) hl.1 (by simp only [List.map_append, List.map_reverse, List.map_cons] <;> rfl) (lv_room hst') hd hcs) hS (fun q _ h => h) (fun q h => h) (fun q _ h => h) (fun E ce q9 τ t H1 locs1 ht hvm _ hB hz1 hk1 hS1 hc1 hv1 hcl1 => ?_) (fun r τ t H1 locs1 ht hvm hp1 hB hz1 hk1 hS1 => ?_)
  · refine vx_widen (k := κx) (n := 6 * κx) (by omega) (by omega) (vx_out (fun z hz => (htb z hz).elim) hlk hc1 hv1 hcl1 (fun t' ht' hv' => ⟨τ, trivial, ⟨hB.1, by rw [ht', ← ht]; exact hB.2⟩, hS1.F ht'⟩) (fun z hz => hS1.2.2 z hz) (Nat.le_refl _) (Nat.le_refl _))
  · have h9 := k r τ hp1 H1 locs1 ls (by rw [← ht]; exact hB) hS1 hl
    rw [show 0 + (n + κ) = 0 + n + κ by omega, show 0 + 6 * (n + κ) = 0 + 6 * n + 6 * κ by omega] at h9
    exact h9
set_option maxHeartbeats 1000000 in
theorem r_cVF {x : Ctx} {own : String} {cc : ByteArray} {nL n pc : Nat} {L : List (Nat × Value)} {S : List Value} {σ : Mem} {dx κx dy κ ix ml b : Nat} {y : MethodName} {yc : ByteArray} {ret : Option FieldType} {as : List Value} {K : UInt32 → Mem → Prop} {X : String → Mem → Prop} (C : Cx x own cc nL) (r : Px x dx κx X) (pc' : Nat) (hct : CtF y yc ml ret dy κ (.ref b :: as) σ K X) (hd : decode cc pc = .ok (.invokevirtual ix, 3)) (hp : pc + 3 = pc')
    {ck N : Nat} {Cn : String} {T : u_T} (Kc : Cl ck Cn T N) (hk : kd b = .inr ck) (w3 : Cond.selects Cn y y ∈ TB) (w4 : Cond.instanceMethod y ∈ TB) (hyc : y.cls = Cn) (w1 : Cond.methodLink own ix y ∈ TB) (w2 : Cond.code y yc ml ret ∈ TB) (w5 : Cond.initialized y.cls ∈ TB) (hyd : y.cls ≠ "java/lang/invoke/MethodHandle" ∧ y.cls ≠ "java/lang/invoke/VarHandle" ∧ (parseMethodDescriptor y.desc).map (fun d => d.parameters.length) = some as.length)
    (hR : (rmd dy κ).frames + 1 ≤ (rmd dx κx).frames ∧ 8 + (ml + 11) + (rmd dy κ).locals ≤ (rmd dx κx).locals) (hst : (S.map fun v => v.category).sum ≤ 8) (hn : n + κ ≤ κx) (k : ∀ (r : UInt32) (τ : Mem), K r τ → Ws x (n + κ) pc' L (.float r :: S) τ) : Ws x n pc L (as.reverse ++ .ref b :: S) σ := by
  obtain ⟨p, l, e, R, s, m, args, below, meth, c, g, QQ, c0, s0, nL'⟩ := x
  obtain ⟨hx, hb, hml, hown, hts, hKE, hlk, htr, rfl⟩ := C
  obtain ⟨rfl, ⟨Qc, rfl⟩, rfl, rfl, htb⟩ := r
  subst hp
  intro H locs ls hP hS hl
  have hst' : ((S.map (rv g)).map fun v => v.category).sum ≤ 8 := by
    rw [List.map_map, show ((fun v : Value => v.category) ∘ rv g) = (fun v => v.category) from funext (rv_cat g)]; exact hst
  have hcs : (0 + n) + κ ≤ (rmd dx κx).cells ∧ (0 + 6 * n) + 6 * κ ≤ (rmd dx κx).slots := ⟨by show 0 + n + κ ≤ κx; omega, by show 0 + 6 * n + 6 * κ ≤ 6 * κx; omega⟩
  have hpre : ∀ U : State, U.heap = H → s.WarmedH U.vm → Pre g (.ref b :: as) σ ((.ref b :: as).map (rv g)).toArray U := fun U hU hW => ⟨rfl, by rw [hU]; exact hP, hKE.to hW (by rw [hU]; exact hS.1) (fun a h1 h2 => by rw [hU]; exact hS.2.1 a h1 h2)⟩
  refine vx_callf (vx_runV (b := gA g b) (As := as.map (rv g)) (rest := S.map (rv g)) ⟨hx, hb, hml, hown, hts⟩ (hct l g htr) ⟨(callB_of (Ts := TB) (ws := Cond.code y yc ml ret :: TB) (rm := rmd dy κ) as.length hts (tb_goodIn w2) rfl rfl rfl (hts _ w5) (hts _ w1) hyd hR), hts _ w4, hts _ w3⟩ ⟨Pre_blind g _ σ, va_recv hKE.1 hP Kc.1 (world_obj g σ hk Kc.2.2.2.1), hpre⟩ rfl (by simp only [List.length_map]) hl.1 (by simp only [List.map_append, List.map_reverse, List.map_cons] <;> rfl) (lv_room hst') hd hcs) hS (fun q _ h => h) (fun q h => h) (fun q _ h => h) (fun E ce q9 τ t H1 locs1 ht hvm _ hB hz1 hk1 hS1 hc1 hv1 hcl1 => ?_) (fun r τ t H1 locs1 ht hvm hp1 hB hz1 hk1 hS1 => ?_)
  · refine vx_widen (k := κx) (n := 6 * κx) (by omega) (by omega) (vx_out (fun z hz => (htb z hz).elim) hlk hc1 hv1 hcl1 (fun t' ht' hv' => ⟨τ, trivial, ⟨hB.1, by rw [ht', ← ht]; exact hB.2⟩, hS1.F ht'⟩) (fun z hz => hS1.2.2 z hz) (Nat.le_refl _) (Nat.le_refl _))
  · have h9 := k r τ hp1 H1 locs1 ls (by rw [← ht]; exact hB) hS1 hl
    rw [show 0 + (n + κ) = 0 + n + κ by omega, show 0 + 6 * (n + κ) = 0 + 6 * n + 6 * κ by omega] at h9
    exact h9
set_option maxHeartbeats 1000000 in
theorem r_cVD {x : Ctx} {own : String} {cc : ByteArray} {nL n pc : Nat} {L : List (Nat × Value)} {S : List Value} {σ : Mem} {dx κx dy κ ix ml b : Nat} {y : MethodName} {yc : ByteArray} {ret : Option FieldType} {as : List Value} {K : UInt64 → Mem → Prop} {X : String → Mem → Prop} (C : Cx x own cc nL) (r : Px x dx κx X) (pc' : Nat) (hct : CtD y yc ml ret dy κ (.ref b :: as) σ K X) (hd : decode cc pc = .ok (.invokevirtual ix, 3)) (hp : pc + 3 = pc')
    {ck N : Nat} {Cn : String} {T : u_T} (Kc : Cl ck Cn T N) (hk : kd b = .inr ck) (w3 : Cond.selects Cn y y ∈ TB) (w4 : Cond.instanceMethod y ∈ TB) (hyc : y.cls = Cn) (w1 : Cond.methodLink own ix y ∈ TB) (w2 : Cond.code y yc ml ret ∈ TB) (w5 : Cond.initialized y.cls ∈ TB) (hyd : y.cls ≠ "java/lang/invoke/MethodHandle" ∧ y.cls ≠ "java/lang/invoke/VarHandle" ∧ (parseMethodDescriptor y.desc).map (fun d => d.parameters.length) = some as.length)
    (hR : (rmd dy κ).frames + 1 ≤ (rmd dx κx).frames ∧ 8 + (ml + 11) + (rmd dy κ).locals ≤ (rmd dx κx).locals) (hst : (S.map fun v => v.category).sum ≤ 8) (hn : n + κ ≤ κx) (k : ∀ (r : UInt64) (τ : Mem), K r τ → Ws x (n + κ) pc' L (.double r :: S) τ) : Ws x n pc L (as.reverse ++ .ref b :: S) σ := by
  obtain ⟨p, l, e, R, s, m, args, below, meth, c, g, QQ, c0, s0, nL'⟩ := x
  obtain ⟨hx, hb, hml, hown, hts, hKE, hlk, htr, rfl⟩ := C
  obtain ⟨rfl, ⟨Qc, rfl⟩, rfl, rfl, htb⟩ := r
  subst hp
  intro H locs ls hP hS hl
  have hst' : ((S.map (rv g)).map fun v => v.category).sum ≤ 8 := by
    rw [List.map_map, show ((fun v : Value => v.category) ∘ rv g) = (fun v => v.category) from funext (rv_cat g)]; exact hst
  have hcs : (0 + n) + κ ≤ (rmd dx κx).cells ∧ (0 + 6 * n) + 6 * κ ≤ (rmd dx κx).slots := ⟨by show 0 + n + κ ≤ κx; omega, by show 0 + 6 * n + 6 * κ ≤ 6 * κx; omega⟩
  have hpre : ∀ U : State, U.heap = H → s.WarmedH U.vm → Pre g (.ref b :: as) σ ((.ref b :: as).map (rv g)).toArray U := fun U hU hW => ⟨rfl, by rw [hU]; exact hP, hKE.to hW (by rw [hU]; exact hS.1) (fun a h1 h2 => by rw [hU]; exact hS.2.1 a h1 h2)⟩
  refine vx_calld (vx_runV (b := gA g b) (As := as.map (rv g)) (rest := S.map (rv g)) ⟨hx, hb, hml, hown, hts⟩ (hct l g htr) ⟨(callB_of (Ts := TB) (ws := Cond.code y yc ml ret :: TB) (rm := rmd dy κ) as.length hts (tb_goodIn w2) rfl rfl rfl (hts _ w5) (hts _ w1) hyd hR), hts _ w4, hts _ w3⟩ ⟨Pre_blind g _ σ, va_recv hKE.1 hP Kc.1 (world_obj g σ hk Kc.2.2.2.1), hpre⟩ rfl (by simp only [List.length_map]) hl.1 (by simp only [List.map_append, List.map_reverse, List.map_cons] <;> rfl) (lv_room hst') hd hcs) hS (fun q _ h => h) (fun q h => h) (fun q _ h => h) (fun E ce q9 τ t H1 locs1 ht hvm _ hB hz1 hk1 hS1 hc1 hv1 hcl1 => ?_) (fun r τ t H1 locs1 ht hvm hp1 hB hz1 hk1 hS1 => ?_)
  · refine vx_widen (k := κx) (n := 6 * κx) (by omega) (by omega) (vx_out (fun z hz => (htb z hz).elim) hlk hc1 hv1 hcl1 (fun t' ht' hv' => ⟨τ, trivial, ⟨hB.1, by rw [ht', ← ht]; exact hB.2⟩, hS1.F ht'⟩) (fun z hz => hS1.2.2 z hz) (Nat.le_refl _) (Nat.le_refl _))
  · have h9 := k r τ hp1 H1 locs1 ls (by rw [← ht]; exact hB) hS1 hl
    rw [show 0 + (n + κ) = 0 + n + κ by omega, show 0 + 6 * (n + κ) = 0 + 6 * n + 6 * κ by omega] at h9
    exact h9
set_option maxHeartbeats 1000000 in
theorem r_cVV {x : Ctx} {own : String} {cc : ByteArray} {nL n pc : Nat} {L : List (Nat × Value)} {S : List Value} {σ : Mem} {dx κx dy κ ix ml b : Nat} {y : MethodName} {yc : ByteArray} {ret : Option FieldType} {as : List Value} {K : Mem → Prop} {X : String → Mem → Prop} (C : Cx x own cc nL) (r : Px x dx κx X) (pc' : Nat) (hct : CtV y yc ml ret dy κ (.ref b :: as) σ K X) (hd : decode cc pc = .ok (.invokevirtual ix, 3)) (hp : pc + 3 = pc')
    {ck N : Nat} {Cn : String} {T : u_T} (Kc : Cl ck Cn T N) (hk : kd b = .inr ck) (w3 : Cond.selects Cn y y ∈ TB) (w4 : Cond.instanceMethod y ∈ TB) (hyc : y.cls = Cn) (w1 : Cond.methodLink own ix y ∈ TB) (w2 : Cond.code y yc ml ret ∈ TB) (w5 : Cond.initialized y.cls ∈ TB) (hyd : y.cls ≠ "java/lang/invoke/MethodHandle" ∧ y.cls ≠ "java/lang/invoke/VarHandle" ∧ (parseMethodDescriptor y.desc).map (fun d => d.parameters.length) = some as.length)
    (hR : (rmd dy κ).frames + 1 ≤ (rmd dx κx).frames ∧ 8 + (ml + 11) + (rmd dy κ).locals ≤ (rmd dx κx).locals) (hst : (S.map fun v => v.category).sum ≤ 8) (hn : n + κ ≤ κx) (k : ∀ τ : Mem, K τ → Ws x (n + κ) pc' L S τ) : Ws x n pc L (as.reverse ++ .ref b :: S) σ := by
  obtain ⟨p, l, e, R, s, m, args, below, meth, c, g, QQ, c0, s0, nL'⟩ := x
  obtain ⟨hx, hb, hml, hown, hts, hKE, hlk, htr, rfl⟩ := C
  obtain ⟨rfl, ⟨Qc, rfl⟩, rfl, rfl, htb⟩ := r
  subst hp
  intro H locs ls hP hS hl
  have hst' : ((S.map (rv g)).map fun v => v.category).sum ≤ 8 := by
    rw [List.map_map, show ((fun v : Value => v.category) ∘ rv g) = (fun v => v.category) from funext (rv_cat g)]; exact hst
  have hcs : (0 + n) + κ ≤ (rmd dx κx).cells ∧ (0 + 6 * n) + 6 * κ ≤ (rmd dx κx).slots := ⟨by show 0 + n + κ ≤ κx; omega, by show 0 + 6 * n + 6 * κ ≤ 6 * κx; omega⟩
  have hpre : ∀ U : State, U.heap = H → s.WarmedH U.vm → Pre g (.ref b :: as) σ ((.ref b :: as).map (rv g)).toArray U := fun U hU hW => ⟨rfl, by rw [hU]; exact hP, hKE.to hW (by rw [hU]; exact hS.1) (fun a h1 h2 => by rw [hU]; exact hS.2.1 a h1 h2)⟩
  refine vx_callv (vx_runV (b := gA g b) (As := as.map (rv g)) (rest := S.map (rv g)) ⟨hx, hb, hml, hown, hts⟩ (hct l g htr) ⟨(callB_of (Ts := TB) (ws := Cond.code y yc ml ret :: TB) (rm := rmd dy κ) as.length hts (tb_goodIn w2) rfl rfl rfl (hts _ w5) (hts _ w1) hyd hR), hts _ w4, hts _ w3⟩ ⟨Pre_blind g _ σ, va_recv hKE.1 hP Kc.1 (world_obj g σ hk Kc.2.2.2.1), hpre⟩ rfl (by simp only [List.length_map]) hl.1 (by simp only [List.map_append, List.map_reverse, List.map_cons] <;> rfl) (lv_room hst') hd hcs) hS (fun q _ h => h) (fun q h => h) (fun q _ h => h) (fun E ce q9 τ t H1 locs1 ht hvm _ hB hz1 hk1 hS1 hc1 hv1 hcl1 => ?_) (fun τ t H1 locs1 ht hvm hp1 hB hz1 hk1 hS1 => ?_)
  · refine vx_widen (k := κx) (n := 6 * κx) (by omega) (by omega) (vx_out (fun z hz => (htb z hz).elim) hlk hc1 hv1 hcl1 (fun t' ht' hv' => ⟨τ, trivial, ⟨hB.1, by rw [ht', ← ht]; exact hB.2⟩, hS1.F ht'⟩) (fun z hz => hS1.2.2 z hz) (Nat.le_refl _) (Nat.le_refl _))
  · have h9 := k τ hp1 H1 locs1 ls (by rw [← ht]; exact hB) hS1 hl
    rw [show 0 + (n + κ) = 0 + n + κ by omega, show 0 + 6 * (n + κ) = 0 + 6 * n + 6 * κ by omega] at h9
    exact h9
set_option maxHeartbeats 1000000 in
theorem r_cSI {x : Ctx} {own : String} {cc : ByteArray} {nL n pc : Nat} {L : List (Nat × Value)} {S : List Value} {σ : Mem} {dx κx dy κ ix ml b : Nat} {y : MethodName} {yc : ByteArray} {ret : Option FieldType} {as : List Value} {K : Int32 → Mem → Prop} {X : String → Mem → Prop} (C : Cx x own cc nL) (r : Px x dx κx X) (pc' : Nat) (hct : CtI y yc ml ret dy κ as σ K X) (hd : decode cc pc = .ok (.invokestatic ix, 3)) (hp : pc + 3 = pc')
    (w4 : Cond.static y ∈ TB) (w1 : Cond.methodLink own ix y ∈ TB) (w2 : Cond.code y yc ml ret ∈ TB) (w5 : Cond.initialized y.cls ∈ TB) (hyd : y.cls ≠ "java/lang/invoke/MethodHandle" ∧ y.cls ≠ "java/lang/invoke/VarHandle" ∧ (parseMethodDescriptor y.desc).map (fun d => d.parameters.length) = some as.length)
    (hR : (rmd dy κ).frames + 1 ≤ (rmd dx κx).frames ∧ 8 + (ml + 11) + (rmd dy κ).locals ≤ (rmd dx κx).locals) (hst : (S.map fun v => v.category).sum ≤ 8) (hn : n + κ ≤ κx) (k : ∀ (r : Int32) (τ : Mem), K r τ → Ws x (n + κ) pc' L (.int r :: S) τ) : Ws x n pc L (as.reverse ++ S) σ := by
  obtain ⟨p, l, e, R, s, m, args, below, meth, c, g, QQ, c0, s0, nL'⟩ := x
  obtain ⟨hx, hb, hml, hown, hts, hKE, hlk, htr, rfl⟩ := C
  obtain ⟨rfl, ⟨Qc, rfl⟩, rfl, rfl, htb⟩ := r
  subst hp
  intro H locs ls hP hS hl
  have hst' : ((S.map (rv g)).map fun v => v.category).sum ≤ 8 := by
    rw [List.map_map, show ((fun v : Value => v.category) ∘ rv g) = (fun v => v.category) from funext (rv_cat g)]; exact hst
  have hcs : (0 + n) + κ ≤ (rmd dx κx).cells ∧ (0 + 6 * n) + 6 * κ ≤ (rmd dx κx).slots := ⟨by show 0 + n + κ ≤ κx; omega, by show 0 + 6 * n + 6 * κ ≤ 6 * κx; omega⟩
  have hpre : ∀ U : State, U.heap = H → s.WarmedH U.vm → Pre g as σ (as.map (rv g)).toArray U := fun U hU hW => ⟨rfl, by rw [hU]; exact hP, hKE.to hW (by rw [hU]; exact hS.1) (fun a h1 h2 => by rw [hU]; exact hS.2.1 a h1 h2)⟩
  refine vx_calli (vx_runS (As := as.map (rv g)) (rest := S.map (rv g)) ⟨hx, hb, hml, hown, hts⟩ (hct l g htr) ⟨(callB_of (Ts := TB) (ws := Cond.code y yc ml ret :: TB) (rm := rmd dy κ) as.length hts (tb_goodIn w2) rfl rfl rfl (hts _ w5) (hts _ w1) hyd hR), hts _ w4⟩ ⟨Pre_blind g _ σ, hpre⟩ rfl (by simp only [List.length_map]) hl.1 (by simp only [List.map_append, List.map_reverse, List.map_cons] <;> rfl) (lv_room hst') hd hcs) hS (fun q _ h => h) (fun q h => h) (fun q _ h => h) (fun E ce q9 τ t H1 locs1 ht hvm _ hB hz1 hk1 hS1 hc1 hv1 hcl1 => ?_) (fun r τ t H1 locs1 ht hvm hp1 hB hz1 hk1 hS1 => ?_)
  · refine vx_widen (k := κx) (n := 6 * κx) (by omega) (by omega) (vx_out (fun z hz => (htb z hz).elim) hlk hc1 hv1 hcl1 (fun t' ht' hv' => ⟨τ, trivial, ⟨hB.1, by rw [ht', ← ht]; exact hB.2⟩, hS1.F ht'⟩) (fun z hz => hS1.2.2 z hz) (Nat.le_refl _) (Nat.le_refl _))
  · have h9 := k r τ hp1 H1 locs1 ls (by rw [← ht]; exact hB) hS1 hl
    rw [show 0 + (n + κ) = 0 + n + κ by omega, show 0 + 6 * (n + κ) = 0 + 6 * n + 6 * κ by omega] at h9
    exact h9
set_option maxHeartbeats 1000000 in
theorem r_cSL {x : Ctx} {own : String} {cc : ByteArray} {nL n pc : Nat} {L : List (Nat × Value)} {S : List Value} {σ : Mem} {dx κx dy κ ix ml b : Nat} {y : MethodName} {yc : ByteArray} {ret : Option FieldType} {as : List Value} {K : Int64 → Mem → Prop} {X : String → Mem → Prop} (C : Cx x own cc nL) (r : Px x dx κx X) (pc' : Nat) (hct : CtL y yc ml ret dy κ as σ K X) (hd : decode cc pc = .ok (.invokestatic ix, 3)) (hp : pc + 3 = pc')
    (w4 : Cond.static y ∈ TB) (w1 : Cond.methodLink own ix y ∈ TB) (w2 : Cond.code y yc ml ret ∈ TB) (w5 : Cond.initialized y.cls ∈ TB) (hyd : y.cls ≠ "java/lang/invoke/MethodHandle" ∧ y.cls ≠ "java/lang/invoke/VarHandle" ∧ (parseMethodDescriptor y.desc).map (fun d => d.parameters.length) = some as.length)
    (hR : (rmd dy κ).frames + 1 ≤ (rmd dx κx).frames ∧ 8 + (ml + 11) + (rmd dy κ).locals ≤ (rmd dx κx).locals) (hst : (S.map fun v => v.category).sum ≤ 8) (hn : n + κ ≤ κx) (k : ∀ (r : Int64) (τ : Mem), K r τ → Ws x (n + κ) pc' L (.long r :: S) τ) : Ws x n pc L (as.reverse ++ S) σ := by
  obtain ⟨p, l, e, R, s, m, args, below, meth, c, g, QQ, c0, s0, nL'⟩ := x
  obtain ⟨hx, hb, hml, hown, hts, hKE, hlk, htr, rfl⟩ := C
  obtain ⟨rfl, ⟨Qc, rfl⟩, rfl, rfl, htb⟩ := r
  subst hp
  intro H locs ls hP hS hl
  have hst' : ((S.map (rv g)).map fun v => v.category).sum ≤ 8 := by
    rw [List.map_map, show ((fun v : Value => v.category) ∘ rv g) = (fun v => v.category) from funext (rv_cat g)]; exact hst
  have hcs : (0 + n) + κ ≤ (rmd dx κx).cells ∧ (0 + 6 * n) + 6 * κ ≤ (rmd dx κx).slots := ⟨by show 0 + n + κ ≤ κx; omega, by show 0 + 6 * n + 6 * κ ≤ 6 * κx; omega⟩
  have hpre : ∀ U : State, U.heap = H → s.WarmedH U.vm → Pre g as σ (as.map (rv g)).toArray U := fun U hU hW => ⟨rfl, by rw [hU]; exact hP, hKE.to hW (by rw [hU]; exact hS.1) (fun a h1 h2 => by rw [hU]; exact hS.2.1 a h1 h2)⟩
  refine vx_calll (vx_runS (As := as.map (rv g)) (rest := S.map (rv g)) ⟨hx, hb, hml, hown, hts⟩ (hct l g htr) ⟨(callB_of (Ts := TB) (ws := Cond.code y yc ml ret :: TB) (rm := rmd dy κ) as.length hts (tb_goodIn w2) rfl rfl rfl (hts _ w5) (hts _ w1) hyd hR), hts _ w4⟩ ⟨Pre_blind g _ σ, hpre⟩ rfl (by simp only [List.length_map]) hl.1 (by simp only [List.map_append, List.map_reverse, List.map_cons] <;> rfl) (lv_room hst') hd hcs) hS (fun q _ h => h) (fun q h => h) (fun q _ h => h) (fun E ce q9 τ t H1 locs1 ht hvm _ hB hz1 hk1 hS1 hc1 hv1 hcl1 => ?_) (fun r τ t H1 locs1 ht hvm hp1 hB hz1 hk1 hS1 => ?_)
  · refine vx_widen (k := κx) (n := 6 * κx) (by omega) (by omega) (vx_out (fun z hz => (htb z hz).elim) hlk hc1 hv1 hcl1 (fun t' ht' hv' => ⟨τ, trivial, ⟨hB.1, by rw [ht', ← ht]; exact hB.2⟩, hS1.F ht'⟩) (fun z hz => hS1.2.2 z hz) (Nat.le_refl _) (Nat.le_refl _))
  · have h9 := k r τ hp1 H1 locs1 ls (by rw [← ht]; exact hB) hS1 hl
    rw [show 0 + (n + κ) = 0 + n + κ by omega, show 0 + 6 * (n + κ) = 0 + 6 * n + 6 * κ by omega] at h9
    exact h9
set_option maxHeartbeats 1000000 in
theorem r_cSF {x : Ctx} {own : String} {cc : ByteArray} {nL n pc : Nat} {L : List (Nat × Value)} {S : List Value} {σ : Mem} {dx κx dy κ ix ml b : Nat} {y : MethodName} {yc : ByteArray} {ret : Option FieldType} {as : List Value} {K : UInt32 → Mem → Prop} {X : String → Mem → Prop} (C : Cx x own cc nL) (r : Px x dx κx X) (pc' : Nat) (hct : CtF y yc ml ret dy κ as σ K X) (hd : decode cc pc = .ok (.invokestatic ix, 3)) (hp : pc + 3 = pc')
    (w4 : Cond.static y ∈ TB) (w1 : Cond.methodLink own ix y ∈ TB) (w2 : Cond.code y yc ml ret ∈ TB) (w5 : Cond.initialized y.cls ∈ TB) (hyd : y.cls ≠ "java/lang/invoke/MethodHandle" ∧ y.cls ≠ "java/lang/invoke/VarHandle" ∧ (parseMethodDescriptor y.desc).map (fun d => d.parameters.length) = some as.length)
    (hR : (rmd dy κ).frames + 1 ≤ (rmd dx κx).frames ∧ 8 + (ml + 11) + (rmd dy κ).locals ≤ (rmd dx κx).locals) (hst : (S.map fun v => v.category).sum ≤ 8) (hn : n + κ ≤ κx) (k : ∀ (r : UInt32) (τ : Mem), K r τ → Ws x (n + κ) pc' L (.float r :: S) τ) : Ws x n pc L (as.reverse ++ S) σ := by
  obtain ⟨p, l, e, R, s, m, args, below, meth, c, g, QQ, c0, s0, nL'⟩ := x
  obtain ⟨hx, hb, hml, hown, hts, hKE, hlk, htr, rfl⟩ := C
  obtain ⟨rfl, ⟨Qc, rfl⟩, rfl, rfl, htb⟩ := r
  subst hp
  intro H locs ls hP hS hl
  have hst' : ((S.map (rv g)).map fun v => v.category).sum ≤ 8 := by
    rw [List.map_map, show ((fun v : Value => v.category) ∘ rv g) = (fun v => v.category) from funext (rv_cat g)]; exact hst
  have hcs : (0 + n) + κ ≤ (rmd dx κx).cells ∧ (0 + 6 * n) + 6 * κ ≤ (rmd dx κx).slots := ⟨by show 0 + n + κ ≤ κx; omega, by show 0 + 6 * n + 6 * κ ≤ 6 * κx; omega⟩
  have hpre : ∀ U : State, U.heap = H → s.WarmedH U.vm → Pre g as σ (as.map (rv g)).toArray U := fun U hU hW => ⟨rfl, by rw [hU]; exact hP, hKE.to hW (by rw [hU]; exact hS.1) (fun a h1 h2 => by rw [hU]; exact hS.2.1 a h1 h2)⟩
  refine vx_callf (vx_runS (As := as.map (rv g)) (rest := S.map (rv g)) ⟨hx, hb, hml, hown, hts⟩ (hct l g htr) ⟨(callB_of (Ts := TB) (ws := Cond.code y yc ml ret :: TB) (rm := rmd dy κ) as.length hts (tb_goodIn w2) rfl rfl rfl (hts _ w5) (hts _ w1) hyd hR), hts _ w4⟩ ⟨Pre_blind g _ σ, hpre⟩ rfl (by simp only [List.length_map]) hl.1 (by simp only [List.map_append, List.map_reverse, List.map_cons] <;> rfl) (lv_room hst') hd hcs) hS (fun q _ h => h) (fun q h => h) (fun q _ h => h) (fun E ce q9 τ t H1 locs1 ht hvm _ hB hz1 hk1 hS1 hc1 hv1 hcl1 => ?_) (fun r τ t H1 locs1 ht hvm hp1 hB hz1 hk1 hS1 => ?_)
  · refine vx_widen (k := κx) (n := 6 * κx) (by omega) (by omega) (vx_out (fun z hz => (htb z hz).elim) hlk hc1 hv1 hcl1 (fun t' ht' hv' => ⟨τ, trivial, ⟨hB.1, by rw [ht', ← ht]; exact hB.2⟩, hS1.F ht'⟩) (fun z hz => hS1.2.2 z hz) (Nat.le_refl _) (Nat.le_refl _))
  · have h9 := k r τ hp1 H1 locs1 ls (by rw [← ht]; exact hB) hS1 hl
    rw [show 0 + (n + κ) = 0 + n + κ by omega, show 0 + 6 * (n + κ) = 0 + 6 * n + 6 * κ by omega] at h9
    exact h9
set_option maxHeartbeats 1000000 in
theorem r_cSD {x : Ctx} {own : String} {cc : ByteArray} {nL n pc : Nat} {L : List (Nat × Value)} {S : List Value} {σ : Mem} {dx κx dy κ ix ml b : Nat} {y : MethodName} {yc : ByteArray} {ret : Option FieldType} {as : List Value} {K : UInt64 → Mem → Prop} {X : String → Mem → Prop} (C : Cx x own cc nL) (r : Px x dx κx X) (pc' : Nat) (hct : CtD y yc ml ret dy κ as σ K X) (hd : decode cc pc = .ok (.invokestatic ix, 3)) (hp : pc + 3 = pc')
    (w4 : Cond.static y ∈ TB) (w1 : Cond.methodLink own ix y ∈ TB) (w2 : Cond.code y yc ml ret ∈ TB) (w5 : Cond.initialized y.cls ∈ TB) (hyd : y.cls ≠ "java/lang/invoke/MethodHandle" ∧ y.cls ≠ "java/lang/invoke/VarHandle" ∧ (parseMethodDescriptor y.desc).map (fun d => d.parameters.length) = some as.length)
    (hR : (rmd dy κ).frames + 1 ≤ (rmd dx κx).frames ∧ 8 + (ml + 11) + (rmd dy κ).locals ≤ (rmd dx κx).locals) (hst : (S.map fun v => v.category).sum ≤ 8) (hn : n + κ ≤ κx) (k : ∀ (r : UInt64) (τ : Mem), K r τ → Ws x (n + κ) pc' L (.double r :: S) τ) : Ws x n pc L (as.reverse ++ S) σ := by
  obtain ⟨p, l, e, R, s, m, args, below, meth, c, g, QQ, c0, s0, nL'⟩ := x
  obtain ⟨hx, hb, hml, hown, hts, hKE, hlk, htr, rfl⟩ := C
  obtain ⟨rfl, ⟨Qc, rfl⟩, rfl, rfl, htb⟩ := r
  subst hp
  intro H locs ls hP hS hl
  have hst' : ((S.map (rv g)).map fun v => v.category).sum ≤ 8 := by
    rw [List.map_map, show ((fun v : Value => v.category) ∘ rv g) = (fun v => v.category) from funext (rv_cat g)]; exact hst
  have hcs : (0 + n) + κ ≤ (rmd dx κx).cells ∧ (0 + 6 * n) + 6 * κ ≤ (rmd dx κx).slots := ⟨by show 0 + n + κ ≤ κx; omega, by show 0 + 6 * n + 6 * κ ≤ 6 * κx; omega⟩
  have hpre : ∀ U : State, U.heap = H → s.WarmedH U.vm → Pre g as σ (as.map (rv g)).toArray U := fun U hU hW => ⟨rfl, by rw [hU]; exact hP, hKE.to hW (by rw [hU]; exact hS.1) (fun a h1 h2 => by rw [hU]; exact hS.2.1 a h1 h2)⟩
  refine vx_calld (vx_runS (As := as.map (rv g)) (rest := S.map (rv g)) ⟨hx, hb, hml, hown, hts⟩ (hct l g htr) ⟨(callB_of (Ts := TB) (ws := Cond.code y yc ml ret :: TB) (rm := rmd dy κ) as.length hts (tb_goodIn w2) rfl rfl rfl (hts _ w5) (hts _ w1) hyd hR), hts _ w4⟩ ⟨Pre_blind g _ σ, hpre⟩ rfl (by simp only [List.length_map]) hl.1 (by simp only [List.map_append, List.map_reverse, List.map_cons] <;> rfl) (lv_room hst') hd hcs) hS (fun q _ h => h) (fun q h => h) (fun q _ h => h) (fun E ce q9 τ t H1 locs1 ht hvm _ hB hz1 hk1 hS1 hc1 hv1 hcl1 => ?_) (fun r τ t H1 locs1 ht hvm hp1 hB hz1 hk1 hS1 => ?_)
  · refine vx_widen (k := κx) (n := 6 * κx) (by omega) (by omega) (vx_out (fun z hz => (htb z hz).elim) hlk hc1 hv1 hcl1 (fun t' ht' hv' => ⟨τ, trivial, ⟨hB.1, by rw [ht', ← ht]; exact hB.2⟩, hS1.F ht'⟩) (fun z hz => hS1.2.2 z hz) (Nat.le_refl _) (Nat.le_refl _))
  · have h9 := k r τ hp1 H1 locs1 ls (by rw [← ht]; exact hB) hS1 hl
    rw [show 0 + (n + κ) = 0 + n + κ by omega, show 0 + 6 * (n + κ) = 0 + 6 * n + 6 * κ by omega] at h9
    exact h9
set_option maxHeartbeats 1000000 in
theorem r_cSV {x : Ctx} {own : String} {cc : ByteArray} {nL n pc : Nat} {L : List (Nat × Value)} {S : List Value} {σ : Mem} {dx κx dy κ ix ml b : Nat} {y : MethodName} {yc : ByteArray} {ret : Option FieldType} {as : List Value} {K : Mem → Prop} {X : String → Mem → Prop} (C : Cx x own cc nL) (r : Px x dx κx X) (pc' : Nat) (hct : CtV y yc ml ret dy κ as σ K X) (hd : decode cc pc = .ok (.invokestatic ix, 3)) (hp : pc + 3 = pc')
    (w4 : Cond.static y ∈ TB) (w1 : Cond.methodLink own ix y ∈ TB) (w2 : Cond.code y yc ml ret ∈ TB) (w5 : Cond.initialized y.cls ∈ TB) (hyd : y.cls ≠ "java/lang/invoke/MethodHandle" ∧ y.cls ≠ "java/lang/invoke/VarHandle" ∧ (parseMethodDescriptor y.desc).map (fun d => d.parameters.length) = some as.length)
    (hR : (rmd dy κ).frames + 1 ≤ (rmd dx κx).frames ∧ 8 + (ml + 11) + (rmd dy κ).locals ≤ (rmd dx κx).locals) (hst : (S.map fun v => v.category).sum ≤ 8) (hn : n + κ ≤ κx) (k : ∀ τ : Mem, K τ → Ws x (n + κ) pc' L S τ) : Ws x n pc L (as.reverse ++ S) σ := by
  obtain ⟨p, l, e, R, s, m, args, below, meth, c, g, QQ, c0, s0, nL'⟩ := x
  obtain ⟨hx, hb, hml, hown, hts, hKE, hlk, htr, rfl⟩ := C
  obtain ⟨rfl, ⟨Qc, rfl⟩, rfl, rfl, htb⟩ := r
  subst hp
  intro H locs ls hP hS hl
  have hst' : ((S.map (rv g)).map fun v => v.category).sum ≤ 8 := by
    rw [List.map_map, show ((fun v : Value => v.category) ∘ rv g) = (fun v => v.category) from funext (rv_cat g)]; exact hst
  have hcs : (0 + n) + κ ≤ (rmd dx κx).cells ∧ (0 + 6 * n) + 6 * κ ≤ (rmd dx κx).slots := ⟨by show 0 + n + κ ≤ κx; omega, by show 0 + 6 * n + 6 * κ ≤ 6 * κx; omega⟩
  have hpre : ∀ U : State, U.heap = H → s.WarmedH U.vm → Pre g as σ (as.map (rv g)).toArray U := fun U hU hW => ⟨rfl, by rw [hU]; exact hP, hKE.to hW (by rw [hU]; exact hS.1) (fun a h1 h2 => by rw [hU]; exact hS.2.1 a h1 h2)⟩
  refine vx_callv (vx_runS (As := as.map (rv g)) (rest := S.map (rv g)) ⟨hx, hb, hml, hown, hts⟩ (hct l g htr) ⟨(callB_of (Ts := TB) (ws := Cond.code y yc ml ret :: TB) (rm := rmd dy κ) as.length hts (tb_goodIn w2) rfl rfl rfl (hts _ w5) (hts _ w1) hyd hR), hts _ w4⟩ ⟨Pre_blind g _ σ, hpre⟩ rfl (by simp only [List.length_map]) hl.1 (by simp only [List.map_append, List.map_reverse, List.map_cons] <;> rfl) (lv_room hst') hd hcs) hS (fun q _ h => h) (fun q h => h) (fun q _ h => h) (fun E ce q9 τ t H1 locs1 ht hvm _ hB hz1 hk1 hS1 hc1 hv1 hcl1 => ?_) (fun τ t H1 locs1 ht hvm hp1 hB hz1 hk1 hS1 => ?_)
  · refine vx_widen (k := κx) (n := 6 * κx) (by omega) (by omega) (vx_out (fun z hz => (htb z hz).elim) hlk hc1 hv1 hcl1 (fun t' ht' hv' => ⟨τ, trivial, ⟨hB.1, by rw [ht', ← ht]; exact hB.2⟩, hS1.F ht'⟩) (fun z hz => hS1.2.2 z hz) (Nat.le_refl _) (Nat.le_refl _))
  · have h9 := k τ hp1 H1 locs1 ls (by rw [← ht]; exact hB) hS1 hl
    rw [show 0 + (n + κ) = 0 + n + κ by omega, show 0 + 6 * (n + κ) = 0 + 6 * n + 6 * κ by omega] at h9
    exact h9
set_option maxHeartbeats 1000000 in
theorem r_cNI {x : Ctx} {own : String} {cc : ByteArray} {nL n pc : Nat} {L : List (Nat × Value)} {S : List Value} {σ : Mem} {dx κx dy κ ix ml b : Nat} {y : MethodName} {yc : ByteArray} {ret : Option FieldType} {as : List Value} {K : Int32 → Mem → Prop} {X : String → Mem → Prop} (C : Cx x own cc nL) (r : Px x dx κx X) (pc' : Nat) (hct : CtI y yc ml ret dy κ as σ K X) (hd : decode cc pc = .ok (.invokestatic ix, 3)) (hp : pc + 3 = pc')
    {host : String} (w4 : Cond.static y ∈ TB) (w1 : Cond.methodLinkNest own ix y host ∈ NB) (w2 : Cond.code y yc ml ret ∈ TB) (w5 : Cond.initialized y.cls ∈ TB) (hyd : y.cls ≠ "java/lang/invoke/MethodHandle" ∧ y.cls ≠ "java/lang/invoke/VarHandle" ∧ (parseMethodDescriptor y.desc).map (fun d => d.parameters.length) = some as.length)
    (hR : (rmd dy κ).frames + 1 ≤ (rmd dx κx).frames ∧ 8 + (ml + 11) + (rmd dy κ).locals ≤ (rmd dx κx).locals) (hst : (S.map fun v => v.category).sum ≤ 8) (hn : n + κ ≤ κx) (k : ∀ (r : Int32) (τ : Mem), K r τ → Ws x (n + κ) pc' L (.int r :: S) τ) : Ws x n pc L (as.reverse ++ S) σ := by
  obtain ⟨p, l, e, R, s, m, args, below, meth, c, g, QQ, c0, s0, nL'⟩ := x
  obtain ⟨hx, hb, hml, hown, hts, hKE, hlk, htr, rfl⟩ := C
  obtain ⟨rfl, ⟨Qc, rfl⟩, rfl, rfl, htb⟩ := r
  subst hp
  intro H locs ls hP hS hl
  have hst' : ((S.map (rv g)).map fun v => v.category).sum ≤ 8 := by
    rw [List.map_map, show ((fun v : Value => v.category) ∘ rv g) = (fun v => v.category) from funext (rv_cat g)]; exact hst
  have hcs : (0 + n) + κ ≤ (rmd dx κx).cells ∧ (0 + 6 * n) + 6 * κ ≤ (rmd dx κx).slots := ⟨by show 0 + n + κ ≤ κx; omega, by show 0 + 6 * n + 6 * κ ≤ 6 * κx; omega⟩
  have hpre : ∀ U : State, U.heap = H → s.WarmedH U.vm → Pre g as σ (as.map (rv g)).toArray U := fun U hU hW => ⟨rfl, by rw [hU]; exact hP, hKE.to hW (by rw [hU]; exact hS.1) (fun a h1 h2 => by rw [hU]; exact hS.2.1 a h1 h2)⟩
  refine vx_calli (vx_runSN (As := as.map (rv g)) (rest := S.map (rv g)) ⟨hx, hb, hml, hown, hts⟩ (hct l g htr) ⟨(va_cnB (Ts := TB) (ws := Cond.code y yc ml ret :: TB) (rm := rmd dy κ) as.length hts (tb_goodIn w2) rfl rfl rfl (hKE.2.2.2.2.2.2.2.2.2.1 _ w1) (hts _ w5) hyd hR), hts _ w4, trivial⟩ ⟨Pre_blind g _ σ, hpre⟩ rfl (by simp only [List.length_map]) hl.1 (by simp only [List.map_append, List.map_reverse, List.map_cons] <;> rfl) (lv_room hst') hd hcs) hS (fun q _ h => h) (fun q h => h) (fun q _ h => h) (fun E ce q9 τ t H1 locs1 ht hvm _ hB hz1 hk1 hS1 hc1 hv1 hcl1 => ?_) (fun r τ t H1 locs1 ht hvm hp1 hB hz1 hk1 hS1 => ?_)
  · refine vx_widen (k := κx) (n := 6 * κx) (by omega) (by omega) (vx_out (fun z hz => (htb z hz).elim) hlk hc1 hv1 hcl1 (fun t' ht' hv' => ⟨τ, trivial, ⟨hB.1, by rw [ht', ← ht]; exact hB.2⟩, hS1.F ht'⟩) (fun z hz => hS1.2.2 z hz) (Nat.le_refl _) (Nat.le_refl _))
  · have h9 := k r τ hp1 H1 locs1 ls (by rw [← ht]; exact hB) hS1 hl
    rw [show 0 + (n + κ) = 0 + n + κ by omega, show 0 + 6 * (n + κ) = 0 + 6 * n + 6 * κ by omega] at h9
    exact h9
set_option maxHeartbeats 1000000 in
theorem r_throw {x : Ctx} {own : String} {cc : ByteArray} {nL n pc : Nat} {L : List (Nat × Value)} {S : List Value} {σ : Mem} {dx κx ik is ic : Nat} {cls text : String} {names : List String} {X : String → Mem → Prop} (C : Cx x "HeatNetwork" cc nL) (r : Px x dx κx X)
    (d0 : decode cc pc = .ok (.new ik, 3)) (d3 : decode cc (pc + 3) = .ok (.dup, 1)) (d4 : decode cc (pc + 4) = .ok (.ldc is, 2)) (d6 : decode cc (pc + 6) = .ok (.invokespecial ic, 3)) (d9 : decode cc (pc + 9) = .ok (.athrow, 1))
    (hcls : Bundle.fit cls = true) (hnames : ∀ n ∈ names, Bundle.fit n = true) (wk : Cond.classLink "HeatNetwork" ik cls ∈ TB) (wini : Cond.initialized cls ∈ TB) (hstr : (is, text) ∈ strs)
    (hat1 : ∀ w ∈ (vx_atS "HeatNetwork" ic cls names).filter goodWord, w ∈ TB) (hat2 : ∀ w ∈ (vx_atS "HeatNetwork" ic cls names).filter (fun w => !goodWord w), w ∈ NB)
    (hgood : ∀ w ∈ Cond.classLink "HeatNetwork" ik cls :: Cond.initialized cls :: vx_atS "HeatNetwork" ic cls names, vx_ot w = true)
    (hfr : names.length + 3 < dx) (hlo : (S.map fun v => v.category).sum + (13 * (names.length + 1) + 43) ≤ 50 * dx + 60) (hn : n + 1 ≤ κx) (h : X cls σ) : Ws x n pc L S σ := by
  obtain ⟨p, l, e, R, s, m, args, below, meth, c, g, QQ, c0, s0, nL'⟩ := x
  obtain ⟨hx, hb, hml, hown, hts, hKE, hlk, htr, rfl⟩ := C
  obtain ⟨rfl, ⟨Qc, rfl⟩, rfl, rfl, htb⟩ := r
  intro H locs ls hP hS hl
  have hst' : ((S.map (rv g)).map fun v => v.category).sum = (S.map fun v => v.category).sum := by
    rw [List.map_map, show ((fun v : Value => v.category) ∘ rv g) = (fun v => v.category) from funext (rv_cat g)]
  obtain ⟨sa, hsa⟩ := hKE.2.2.2.2.2.2.2.2.1 _ hstr
  refine vx_throwS hx hb htr hown hcls hnames (hts _ wk) (hts _ wini) hsa (vx_hat (fun w hw => hts w (hat1 w hw)) hat2 (fun w hw => nb_use (List.mem_filter.mp hw).2 (hKE.2.2.2.2.2.2.2.2.2.1 w hw))) hgood hKE.2.2.2.2.2.2.1 hKE.2.2.2.2.2.2.2.1 hS (hl.1.trans hml.symm) d0 d3 d4 d6 d9 (fun z hz => (htb z hz).elim) hfr (by rw [hst']; exact hlo) (by show 0 + n + 1 ≤ κx; omega) (by show 0 + 6 * n + 6 ≤ 6 * κx; omega) hlk ?_ (fun z hz => hS.2.2 z hz) (by omega) (by omega)
  intro t hal hz hq
  refine ⟨σ, trivial, ⟨h, ?_⟩, ?_⟩
  · exact va_P.kept hP (fun k q hk => hq q.1 ((hP k q hk).lt))
  · exact ⟨Nat.le_trans hS.1 hz, fun q h1 h2 => (hq q (Nat.lt_of_lt_of_le h1 hS.1)).trans (hS.2.1 q h1 h2)⟩
set_option maxHeartbeats 1000000 in
theorem r_throwW {x : Ctx} {own : String} {cc : ByteArray} {nL n pc : Nat} {L : List (Nat × Value)} {S : List Value} {σ : Mem} {dx κx ik is ic : Nat} {cls text : String} {names : List String} {X : String → Mem → Prop} (C : Cx x "HeatNetwork" cc nL) (r : Px x dx κx X)
    (d0 : decode cc pc = .ok (.new ik, 3)) (d3 : decode cc (pc + 3) = .ok (.dup, 1)) (d4 : decode cc (pc + 4) = .ok (.ldc_w is, 3)) (d6 : decode cc (pc + 7) = .ok (.invokespecial ic, 3)) (d9 : decode cc (pc + 10) = .ok (.athrow, 1))
    (hcls : Bundle.fit cls = true) (hnames : ∀ n ∈ names, Bundle.fit n = true) (wk : Cond.classLink "HeatNetwork" ik cls ∈ TB) (wini : Cond.initialized cls ∈ TB) (hstr : (is, text) ∈ strs)
    (hat1 : ∀ w ∈ (vx_atS "HeatNetwork" ic cls names).filter goodWord, w ∈ TB) (hat2 : ∀ w ∈ (vx_atS "HeatNetwork" ic cls names).filter (fun w => !goodWord w), w ∈ NB)
    (hgood : ∀ w ∈ Cond.classLink "HeatNetwork" ik cls :: Cond.initialized cls :: vx_atS "HeatNetwork" ic cls names, vx_ot w = true)
    (hfr : names.length + 3 < dx) (hlo : (S.map fun v => v.category).sum + (13 * (names.length + 1) + 43) ≤ 50 * dx + 60) (hn : n + 1 ≤ κx) (h : X cls σ) : Ws x n pc L S σ := by
  obtain ⟨p, l, e, R, s, m, args, below, meth, c, g, QQ, c0, s0, nL'⟩ := x
  obtain ⟨hx, hb, hml, hown, hts, hKE, hlk, htr, rfl⟩ := C
  obtain ⟨rfl, ⟨Qc, rfl⟩, rfl, rfl, htb⟩ := r
  intro H locs ls hP hS hl
  have hst' : ((S.map (rv g)).map fun v => v.category).sum = (S.map fun v => v.category).sum := by
    rw [List.map_map, show ((fun v : Value => v.category) ∘ rv g) = (fun v => v.category) from funext (rv_cat g)]
  obtain ⟨sa, hsa⟩ := hKE.2.2.2.2.2.2.2.2.1 _ hstr
  refine vx_throwSW hx hb htr hown hcls hnames (hts _ wk) (hts _ wini) hsa (vx_hat (fun w hw => hts w (hat1 w hw)) hat2 (fun w hw => nb_use (List.mem_filter.mp hw).2 (hKE.2.2.2.2.2.2.2.2.2.1 w hw))) hgood hKE.2.2.2.2.2.2.1 hKE.2.2.2.2.2.2.2.1 hS (hl.1.trans hml.symm) d0 d3 d4 d6 d9 (fun z hz => (htb z hz).elim) hfr (by rw [hst']; exact hlo) (by show 0 + n + 1 ≤ κx; omega) (by show 0 + 6 * n + 6 ≤ 6 * κx; omega) hlk ?_ (fun z hz => hS.2.2 z hz) (by omega) (by omega)
  intro t hal hz hq
  refine ⟨σ, trivial, ⟨h, ?_⟩, ?_⟩
  · exact va_P.kept hP (fun k q hk => hq q.1 ((hP k q hk).lt))
  · exact ⟨Nat.le_trans hS.1 hz, fun q h1 h2 => (hq q (Nat.lt_of_lt_of_le h1 hS.1)).trans (hS.2.1 q h1 h2)⟩
theorem r_cpyI {x : Ctx} {own : String} {cc : ByteArray} {nL n pc : Nat} {L : List (Nat × Value)} {S : List Value} {σ : Mem} {a b N M ix : Nat} {sp dp k : Int32} (C : Cx x own cc nL) (hfr : ∀ p l e R s m args below meth c g QQ c0 s0 nL, x = (p, l, e, R, s, m, args, below, meth, c, g, QQ, c0, s0, nL) → 1 ≤ R.frames ∧ 60 ≤ R.locals) (pc' : Nat) (d : decode cc pc = .ok (.invokestatic ix, 3)) (hp : pc + 3 = pc') (w1 : Cond.methodLink own ix arraycopyName ∈ TB) (w2 : Cond.native arraycopyName ∈ TB) (w3 : Cond.static arraycopyName ∈ TB) (w4 : Cond.initialized "java/lang/System" ∈ TB) (hk : kd a = .inl (.int, N)) (hk' : kd b = .inl (.int, M))
    (h1 : ¬ sp < 0) (h2 : ¬ dp < 0) (h3 : ¬ k < 0) (h4 : sp.toNatClampNeg + k.toNatClampNeg ≤ N) (h5 : dp.toNatClampNeg + k.toNatClampNeg ≤ M) (hst : (S.map fun v => v.category).sum ≤ 8) (kk : Ws x n pc' L S (ci σ a b sp.toNatClampNeg dp.toNatClampNeg k.toNatClampNeg)) : Ws x n pc L (.int k :: .int dp :: .ref b :: .int sp :: .ref a :: S) σ := by
  obtain ⟨p, l, e, R, s, m, args, below, meth, c, g, QQ, c0, s0, nL'⟩ := x
  obtain ⟨hx, hb, hml, hown, hts, hKE, hlk, htr, rfl⟩ := C
  subst hp
  obtain ⟨hf1, hf2⟩ := hfr _ _ _ _ _ _ _ _ _ _ _ _ _ _ _ rfl
  intro H locs ls hP hS hl
  have hst' : ((S.map (rv g)).map fun v => v.category).sum ≤ 8 := by
    rw [List.map_map, show ((fun v : Value => v.category) ∘ rv g) = (fun v => v.category) from funext (rv_cat g)]; exact hst
  refine va_copyi (ty := .int) hx hb (hml.trans hl.1.symm) hown (hts _ w1) (hts _ w2) (hts _ w3) (hts _ w4) hKE.1 hP (world_D hKE σ) hS a b 0 0 (world_arr g σ hk) (world_arr g σ hk') rfl rfl rfl h1 h2 h3 h4 h5 (fun i _ => rfl) hf1 ?_ d (fun H1 locs1 hP1 _ hS1 => ?_)
  · have : nativeFrameWords "java/lang/System" "arraycopy" 5 + 11 ≤ 40 := by decide
    omega
  · rw [world_ci g σ hk'] at hP1
    exact kk H1 locs1 ls hP1 hS1 hl
theorem r_cpyL {x : Ctx} {own : String} {cc : ByteArray} {nL n pc : Nat} {L : List (Nat × Value)} {S : List Value} {σ : Mem} {a b N M ix : Nat} {sp dp k : Int32} (C : Cx x own cc nL) (hfr : ∀ p l e R s m args below meth c g QQ c0 s0 nL, x = (p, l, e, R, s, m, args, below, meth, c, g, QQ, c0, s0, nL) → 1 ≤ R.frames ∧ 60 ≤ R.locals) (pc' : Nat) (d : decode cc pc = .ok (.invokestatic ix, 3)) (hp : pc + 3 = pc') (w1 : Cond.methodLink own ix arraycopyName ∈ TB) (w2 : Cond.native arraycopyName ∈ TB) (w3 : Cond.static arraycopyName ∈ TB) (w4 : Cond.initialized "java/lang/System" ∈ TB) (hk : kd a = .inl (.long, N)) (hk' : kd b = .inl (.long, M))
    (h1 : ¬ sp < 0) (h2 : ¬ dp < 0) (h3 : ¬ k < 0) (h4 : sp.toNatClampNeg + k.toNatClampNeg ≤ N) (h5 : dp.toNatClampNeg + k.toNatClampNeg ≤ M) (hst : (S.map fun v => v.category).sum ≤ 8) (kk : Ws x n pc' L S (cl σ a b sp.toNatClampNeg dp.toNatClampNeg k.toNatClampNeg)) : Ws x n pc L (.int k :: .int dp :: .ref b :: .int sp :: .ref a :: S) σ := by
  obtain ⟨p, l, e, R, s, m, args, below, meth, c, g, QQ, c0, s0, nL'⟩ := x
  obtain ⟨hx, hb, hml, hown, hts, hKE, hlk, htr, rfl⟩ := C
  subst hp
  obtain ⟨hf1, hf2⟩ := hfr _ _ _ _ _ _ _ _ _ _ _ _ _ _ _ rfl
  intro H locs ls hP hS hl
  have hst' : ((S.map (rv g)).map fun v => v.category).sum ≤ 8 := by
    rw [List.map_map, show ((fun v : Value => v.category) ∘ rv g) = (fun v => v.category) from funext (rv_cat g)]; exact hst
  refine va_copyl (ty := .long) hx hb (hml.trans hl.1.symm) hown (hts _ w1) (hts _ w2) (hts _ w3) (hts _ w4) hKE.1 hP (world_D hKE σ) hS a b 1 1 (world_arr g σ hk) (world_arr g σ hk') rfl rfl rfl h1 h2 h3 h4 h5 (fun i _ => rfl) hf1 ?_ d (fun H1 locs1 hP1 _ hS1 => ?_)
  · have : nativeFrameWords "java/lang/System" "arraycopy" 5 + 11 ≤ 40 := by decide
    omega
  · rw [world_cl g σ hk'] at hP1
    exact kk H1 locs1 ls hP1 hS1 hl
