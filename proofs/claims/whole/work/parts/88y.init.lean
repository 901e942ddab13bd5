/-! ===== the pool while it is made: cells below N0 stand, F says which of them are not done yet ===== -/
abbrev Op : Type := Nat → Option (List Value ⊕ (Nat → Option Nat))
def clsK (i : Nat) : Nat := match kd i with
  | .inr c => c
  | .inl _ => 0
def eK (g : Gh) (σ : Mem) (F : Op) (i : Nat) : va_E := match F i with
  | none => ent g σ i
  | some (.inl fs) => .inr (clsK i, fs.map (rv g))
  | some (.inr f) => .inl (gC g tNet, 9, .inr (.inr (.inr (.inr (fun j => (f j).map (gA g))))))
def wK (g : Gh) (σ : Mem) (N0 : Nat) (F : Op) : va_W := (List.range N0).map (fun i => (gA g i, eK g σ F i))
def PK (g : Gh) (σ : Mem) (N0 : Nat) (F : Op) (H : Heap) : Prop := va_P (gD g) vwCl (wK g σ N0 F) H ∧ H.size = gB g + N0
def opn (F : Op) (a : Nat) (v : Option (List Value ⊕ (Nat → Option Nat))) : Op := fun j => if j = a then v else F j
theorem opn_at {F : Op} {a : Nat} {v : Option (List Value ⊕ (Nat → Option Nat))} : opn F a v a = v := if_pos rfl
theorem opn_ne {F : Op} {a j : Nat} {v : Option (List Value ⊕ (Nat → Option Nat))} (h : j ≠ a) : opn F a v j = F j := if_neg h
theorem wK_len (g : Gh) (σ : Mem) (N0 : Nat) (F : Op) : (wK g σ N0 F).length = N0 := by simp [wK]
theorem wK_get (g : Gh) (σ : Mem) {N0 : Nat} (F : Op) {i : Nat} (h : i < N0) : (wK g σ N0 F)[i]? = some (gA g i, eK g σ F i) := by
  simp [wK, h]
theorem wK_set (g : Gh) {σ σ' : Mem} {N0 : Nat} {F F' : Op} {a : Nat} {e : va_E} (ha : a < N0) (h : ∀ j, j ≠ a → eK g σ' F' j = eK g σ F j) (he : eK g σ' F' a = e) : (wK g σ N0 F).set a (gA g a, e) = wK g σ' N0 F' := by
  apply List.ext_getElem?
  intro j
  rw [List.getElem?_set]
  by_cases hj : j < N0
  · rw [wK_get g σ' F' hj]
    by_cases hja : a = j
    · subst hja
      rw [if_pos rfl, wK_len, if_pos ha, he]
    · rw [if_neg hja, wK_get g σ F hj, h j (fun q => hja q.symm)]
  · rw [List.getElem?_eq_none (by rw [wK_len]; omega), List.getElem?_eq_none (by rw [wK_len]; omega), if_neg (by omega)]
theorem wK_same (g : Gh) {σ σ' : Mem} {N0 : Nat} {F F' : Op} (h : ∀ j, j < N0 → eK g σ' F' j = eK g σ F j) : wK g σ N0 F = wK g σ' N0 F' := by
  apply List.map_congr_left
  intro i hi
  rw [h i (List.mem_range.mp hi)]
theorem wK_push (g : Gh) {σ σ' : Mem} {N0 : Nat} {F F' : Op} {e : va_E} (h : ∀ j, j < N0 → eK g σ' F' j = eK g σ F j) (he : eK g σ' F' N0 = e) : wK g σ N0 F ++ [(gA g N0, e)] = wK g σ' (N0 + 1) F' := by
  rw [wK_same g h]
  show _ = (List.range (N0 + 1)).map _
  rw [List.range_succ, List.map_append]
  show _ = _ ++ [(gA g N0, eK g σ' F' N0)]
  rw [he]
  rfl
theorem eK_none {g : Gh} {σ : Mem} {F : Op} {i : Nat} (h : F i = none) : eK g σ F i = ent g σ i := by simp only [eK, h]
theorem eK_inl {g : Gh} {σ : Mem} {F : Op} {i : Nat} {fs : List Value} (h : F i = some (.inl fs)) : eK g σ F i = .inr (clsK i, fs.map (rv g)) := by simp only [eK, h]
theorem eK_inr {g : Gh} {σ : Mem} {F : Op} {i : Nat} {f : Nat → Option Nat} (h : F i = some (.inr f)) : eK g σ F i = .inl (gC g tNet, 9, .inr (.inr (.inr (.inr (fun j => (f j).map (gA g)))))) := by simp only [eK, h]
theorem eK_congr (g : Gh) {σ σ' : Mem} {F F' : Op} {i : Nat} (hF : F' i = F i) (h1 : σ.1 i = σ'.1 i) (h2 : σ.2.1 i = σ'.2.1 i) (h3 : σ.2.2 i = σ'.2.2 i) : eK g σ' F' i = eK g σ F i := by
  unfold eK
  rw [hF, ent_congr g h1 h2 h3]
theorem wK_D {g : Gh} {U : State} (h : KE g U) (σ : Mem) {N0 : Nat} (hN : N0 ≤ 235) (F : Op) : va_D (AA g) (wK g σ N0 F) := by
  obtain ⟨-, h2, h3, -⟩ := h
  refine ⟨fun i j p q hi hj e => ?_, fun k q hk => ?_⟩
  · have li : i < N0 := by rw [← wK_len g σ N0 F]; exact (List.getElem?_eq_some_iff.mp hi).1
    have lj : j < N0 := by rw [← wK_len g σ N0 F]; exact (List.getElem?_eq_some_iff.mp hj).1
    rw [wK_get g σ F li] at hi
    rw [wK_get g σ F lj] at hj
    cases hi; cases hj
    exact h2 i j (by omega) (by omega) e
  · have li : k < N0 := by rw [← wK_len g σ N0 F]; exact (List.getElem?_eq_some_iff.mp hk).1
    rw [wK_get g σ F li] at hk
    cases hk
    exact h3 k (by omega)
def FVs : List Int32 := [900, 100, 0, 10, 50000000, 100, 5]
/-- the array of first values, which nobody writes -/
def ZF (g : Gh) (U : State) (H : Heap) : Prop := ∃ (t : Nat) (cell : Cell), va_Z "HeatNetwork" "FIRST_VALUES" "[I" (.ref t) (AA g) U H ∧ H[t]? = some cell ∧ cell.cls = gC g .int ∧ (∀ k, cell.vm ≠ .statics k) ∧ cell.vm ≠ .unknown ∧ cell.slots = (arrV (gC g .int) 7 (fun j => .int (FVs.getD j 0))).slots ∧ ¬ AA g t
def WF : Cond := .fieldLinkNest "HeatNetwork$Network" 9 "HeatNetwork" "FIRST_VALUES" "[I" "HeatNetwork"
def KC (g : Gh) (U : State) : Prop := KE g U ∧ va_AO "HeatNetwork$Network" U ∧ va_Nw WF U ∧ ZF g U U.heap
theorem KC.to {g : Gh} {u U : State} (hW : u.WarmedH U.vm) (hz : u.heap.size ≤ U.heap.size) (hk : ∀ a : Nat, a < u.heap.size → ¬ AA g a → U.heap[a]? = u.heap[a]?) (h : KC g u) : KC g U := by
  obtain ⟨h1, h2, h6, t, cell, h3, h4, h5⟩ := h
  exact ⟨h1.to hW hz hk, h2.moved hW.alike, va_Nw.warmF hW h6, t, cell, (h3.moved hW.alike).kept hk, by rw [hk t (Array.getElem?_eq_some_iff.mp h4).1 h5.2.2.2.2]; exact h4, h5⟩
theorem KC.calling {g : Gh} {U : State} (f : JFrame) (mk : MethodId) (a : Array Value) (h : KC g U) : KC g (U.calling f mk a) := by
  obtain ⟨h1, h2, h6, t, cell, h3, h4⟩ := h
  have ha : U.vm.Alike (U.calling f mk a).vm := Vm.Alike.refl U.vm
  exact ⟨h1.calling f mk a, h2.moved ha, va_Nw.same (u := U) (U := U.calling f mk a) rfl rfl h6, t, cell, h3.moved ha, h4⟩
def Wk (x : Ctx) (cs sl pc : Nat) (L : List (Nat × Value)) (S : List Value) (σ : Mem) (N0 : Nat) (F : Op) : Prop := match x with
  | (p, l, e, R, s, m, args, below, meth, c, g, QQ, c0, s0, nL) => ∀ (H : Heap) (locs : List Loc) (ls : Array Slot), PK g σ N0 F H → va_S (AA g) s.heap H locs → lv_has ls nL (mapL g L) → W p l e R s m args below meth c H locs cs sl QQ (F0 m pc ls (S.map (rv g)))
/-- what a constructor's start gives -/
def Ck (x : Ctx) (own : String) (cc : ByteArray) (nL' : Nat) : Prop := match x with
  | (p, l, e, R, s, m, args, below, meth, c, g, QQ, c0, s0, nL) => p.tables.exec = Jvm.exec ∧ c.code = cc ∧ c.maxLocals = nL ∧ s.vm.findClass own = some m.cls ∧ (∀ w ∈ TB, w.before args s = true) ∧ KC g s ∧ meth.locks = false ∧ (∀ i : Nat, i < 235 → gA g i = gB g + i) ∧ nL = nL'
def roomOf (x : Ctx) : Room := x.2.2.2.1
def isInit (x : Ctx) : Prop := match x with
  | (p, l, e, R, s, m, args, below, meth, c, g, QQ, c0, s0, nL) => meth.name = "<init>"
theorem k_iconst {x : Ctx} {own : String} {cc : ByteArray} {nL cs sl pc N0 : Nat} {F : Op} {L : List (Nat × Value)} {S : List Value} {σ : Mem} (C : Ck x own cc nL) (pc' : Nat) {z : Int} {v : Int32} (d : decode cc pc = .ok (.iconst z, 1)) (hp : pc + 1 = pc') (hv : Int32.ofInt z = v) (kk : Wk x cs sl pc' L (.int v :: S) σ N0 F) : Wk x cs sl pc L (S) σ N0 F := by
  obtain ⟨p, l, e, R, s, m, args, below, meth, c, g, QQ, c0, s0, nL'⟩ := x
  obtain ⟨hx, hb, hml, hown, hts, hKE, hlk, htr, rfl⟩ := C
  subst hp
  intro H locs ls hP hS hl
  exact lv_iconst hx hb d hv (kk H locs ls hP hS hl)
theorem k_bipush {x : Ctx} {own : String} {cc : ByteArray} {nL cs sl pc N0 : Nat} {F : Op} {L : List (Nat × Value)} {S : List Value} {σ : Mem} (C : Ck x own cc nL) (pc' : Nat) {z : Int} {v : Int32} (d : decode cc pc = .ok (.bipush z, 2)) (hp : pc + 2 = pc') (hv : (Int8.ofInt z).toInt32 = v) (kk : Wk x cs sl pc' L (.int v :: S) σ N0 F) : Wk x cs sl pc L (S) σ N0 F := by
  obtain ⟨p, l, e, R, s, m, args, below, meth, c, g, QQ, c0, s0, nL'⟩ := x
  obtain ⟨hx, hb, hml, hown, hts, hKE, hlk, htr, rfl⟩ := C
  subst hp
  intro H locs ls hP hS hl
  exact lv_bipush hx hb d hv (kk H locs ls hP hS hl)
theorem k_sipush {x : Ctx} {own : String} {cc : ByteArray} {nL cs sl pc N0 : Nat} {F : Op} {L : List (Nat × Value)} {S : List Value} {σ : Mem} (C : Ck x own cc nL) (pc' : Nat) {z : Int} {v : Int32} (d : decode cc pc = .ok (.sipush z, 3)) (hp : pc + 3 = pc') (hv : (Int16.ofInt z).toInt32 = v) (kk : Wk x cs sl pc' L (.int v :: S) σ N0 F) : Wk x cs sl pc L (S) σ N0 F := by
  obtain ⟨p, l, e, R, s, m, args, below, meth, c, g, QQ, c0, s0, nL'⟩ := x
  obtain ⟨hx, hb, hml, hown, hts, hKE, hlk, htr, rfl⟩ := C
  subst hp
  intro H locs ls hP hS hl
  exact lv_sipush hx hb d hv (kk H locs ls hP hS hl)
theorem k_lconst {x : Ctx} {own : String} {cc : ByteArray} {nL cs sl pc N0 : Nat} {F : Op} {L : List (Nat × Value)} {S : List Value} {σ : Mem} (C : Ck x own cc nL) (pc' : Nat) {z : Fin 2} {v : Int64} (d : decode cc pc = .ok (.lconst z, 1)) (hp : pc + 1 = pc') (hv : Int64.ofNat (z : Nat) = v) (kk : Wk x cs sl pc' L (.long v :: S) σ N0 F) : Wk x cs sl pc L (S) σ N0 F := by
  obtain ⟨p, l, e, R, s, m, args, below, meth, c, g, QQ, c0, s0, nL'⟩ := x
  obtain ⟨hx, hb, hml, hown, hts, hKE, hlk, htr, rfl⟩ := C
  subst hp
  intro H locs ls hP hS hl
  exact lv_lconst hx hb d hv (kk H locs ls hP hS hl)
theorem k_ldc {x : Ctx} {own : String} {cc : ByteArray} {nL cs sl pc N0 : Nat} {F : Op} {L : List (Nat × Value)} {S : List Value} {σ : Mem} (C : Ck x own cc nL) (pc' : Nat) {ix : Nat} {v : Int32} (d : decode cc pc = .ok (.ldc ix, 2)) (hp : pc + 2 = pc') (hw : Cond.constant own ix v ∈ TB) (kk : Wk x cs sl pc' L (.int v :: S) σ N0 F) : Wk x cs sl pc L S σ N0 F := by
  obtain ⟨p, l, e, R, s, m, args, below, meth, c, g, QQ, c0, s0, nL'⟩ := x
  obtain ⟨hx, hb, hml, hown, hts, hKE, hlk, htr, rfl⟩ := C
  subst hp
  intro H locs ls hP hS hl
  exact lv_ldc hx hb hown (hts _ hw) d (kk H locs ls hP hS hl)
theorem k_dup {x : Ctx} {own : String} {cc : ByteArray} {nL cs sl pc N0 : Nat} {F : Op} {L : List (Nat × Value)} {S : List Value} {σ : Mem} (C : Ck x own cc nL) (pc' : Nat) {v : Value} (d : decode cc pc = .ok (.dup, 1)) (hp : pc + 1 = pc') (hv : v.category = 1) (kk : Wk x cs sl pc' L (v :: v :: S) σ N0 F) : Wk x cs sl pc L (v :: S) σ N0 F := by
  obtain ⟨p, l, e, R, s, m, args, below, meth, c, g, QQ, c0, s0, nL'⟩ := x
  obtain ⟨hx, hb, hml, hown, hts, hKE, hlk, htr, rfl⟩ := C
  subst hp
  intro H locs ls hP hS hl
  exact lv_dup hx hb d ((rv_cat g v).trans hv) (kk H locs ls hP hS hl)
theorem k_iload_n {x : Ctx} {own : String} {cc : ByteArray} {nL cs sl pc N0 : Nat} {F : Op} {L : List (Nat × Value)} {S : List Value} {σ : Mem} (C : Ck x own cc nL) (pc' : Nat) {i : Fin 4} {j : Nat} {v : Int32} (d : decode cc pc = .ok (.iload_n i, 1)) (hp : pc + 1 = pc') (hj : L[j]? = some ((i : Nat), .int v)) (kk : Wk x cs sl pc' L (.int v :: S) σ N0 F) : Wk x cs sl pc L S σ N0 F := by
  obtain ⟨p, l, e, R, s, m, args, below, meth, c, g, QQ, c0, s0, nL'⟩ := x
  obtain ⟨hx, hb, hml, hown, hts, hKE, hlk, htr, rfl⟩ := C
  subst hp
  intro H locs ls hP hS hl
  exact lv_iload_n hx hb d rfl (lk_has hl (List.mem_of_getElem? hj)) (kk H locs ls hP hS hl)
theorem k_aload_n {x : Ctx} {own : String} {cc : ByteArray} {nL cs sl pc N0 : Nat} {F : Op} {L : List (Nat × Value)} {S : List Value} {σ : Mem} (C : Ck x own cc nL) (pc' : Nat) {i : Fin 4} {j : Nat} {v : Nat} (d : decode cc pc = .ok (.aload_n i, 1)) (hp : pc + 1 = pc') (hj : L[j]? = some ((i : Nat), .ref v)) (kk : Wk x cs sl pc' L (.ref v :: S) σ N0 F) : Wk x cs sl pc L S σ N0 F := by
  obtain ⟨p, l, e, R, s, m, args, below, meth, c, g, QQ, c0, s0, nL'⟩ := x
  obtain ⟨hx, hb, hml, hown, hts, hKE, hlk, htr, rfl⟩ := C
  subst hp
  intro H locs ls hP hS hl
  exact lv_aload_n hx hb d rfl (lk_has hl (List.mem_of_getElem? hj)) (kk H locs ls hP hS hl)
theorem k_istore_n {x : Ctx} {own : String} {cc : ByteArray} {nL cs sl pc N0 : Nat} {F : Op} {L : List (Nat × Value)} {S : List Value} {σ : Mem} (C : Ck x own cc nL) (pc' : Nat) (L' : List (Nat × Value)) {i : Fin 4} {v : Int32} (d : decode cc pc = .ok (.istore_n i, 1)) (hp : pc + 1 = pc') (hi : (i : Nat) < nL) (hL : st1 L (i : Nat) (.int v) = L') (kk : Wk x cs sl pc' L' S σ N0 F) : Wk x cs sl pc L (.int v :: S) σ N0 F := by
  obtain ⟨p, l, e, R, s, m, args, below, meth, c, g, QQ, c0, s0, nL'⟩ := x
  obtain ⟨hx, hb, hml, hown, hts, hKE, hlk, htr, rfl⟩ := C
  subst hp
  intro H locs ls hP hS hl
  subst hL
  exact lv_istore_n hx hb d rfl hl hi (mapL_st1 g L _ (.int v)) (fun ls' hl' => kk H locs ls' hP hS hl')
theorem k_iinc {x : Ctx} {own : String} {cc : ByteArray} {nL cs sl pc N0 : Nat} {F : Op} {L : List (Nat × Value)} {S : List Value} {σ : Mem} (C : Ck x own cc nL) (pc' : Nat) (L' : List (Nat × Value)) {i j : Nat} {z : Int} {v w : Int32} (d : decode cc pc = .ok (.iinc i z, 3)) (hp : pc + 3 = pc') (hj : L[j]? = some (i, .int v)) (hw : v + Int32.ofInt z = w) (hi : i < nL) (hL : st1 L i (.int w) = L') (kk : Wk x cs sl pc' L' S σ N0 F) : Wk x cs sl pc L S σ N0 F := by
  obtain ⟨p, l, e, R, s, m, args, below, meth, c, g, QQ, c0, s0, nL'⟩ := x
  obtain ⟨hx, hb, hml, hown, hts, hKE, hlk, htr, rfl⟩ := C
  subst hp
  intro H locs ls hP hS hl
  subst hL
  exact lv_iinc hx hb d hl (k := j) (by simp only [mapL, List.getElem?_map, hj]; rfl) hw hi (mapL_st1 g L i (.int w)) (fun ls' hl' => kk H locs ls' hP hS hl')
theorem k_goto {x : Ctx} {own : String} {cc : ByteArray} {nL cs sl pc N0 : Nat} {F : Op} {L : List (Nat × Value)} {S : List Value} {σ : Mem} (C : Ck x own cc nL) (pc' : Nat) {off : Int} (d : decode cc pc = .ok (.goto off, 3)) (ht : (pc : Int) + off = (pc' : Int)) (kk : Wk x cs sl pc' L S σ N0 F) : Wk x cs sl pc L S σ N0 F := by
  obtain ⟨p, l, e, R, s, m, args, below, meth, c, g, QQ, c0, s0, nL'⟩ := x
  obtain ⟨hx, hb, hml, hown, hts, hKE, hlk, htr, rfl⟩ := C
  intro H locs ls hP hS hl
  exact lv_goto hx hb d ht (kk H locs ls hP hS hl)
theorem k_icmp_ge {x : Ctx} {own : String} {cc : ByteArray} {nL cs sl pc N0 : Nat} {F : Op} {L : List (Nat × Value)} {S : List Value} {σ : Mem} (C : Ck x own cc nL) (tgt pc' : Nat) {a b : Int32} {off : Int} (d : decode cc pc = .ok (.if_icmp .ge off, 3)) (ht : (pc : Int) + off = (tgt : Int)) (hp : pc + 3 = pc') (kt : b ≤ a → Wk x cs sl tgt L S σ N0 F) (kf : ¬ b ≤ a → Wk x cs sl pc' L S σ N0 F) : Wk x cs sl pc L (.int b :: .int a :: S) σ N0 F := by
  obtain ⟨p, l, e, R, s, m, args, below, meth, c, g, QQ, c0, s0, nL'⟩ := x
  obtain ⟨hx, hb, hml, hown, hts, hKE, hlk, htr, rfl⟩ := C
  subst hp
  intro H locs ls hP hS hl
  exact lv_icmp_ge hx hb d ht (fun h => kt h H locs ls hP hS hl) (fun h => kf h H locs ls hP hS hl)
theorem k_new {x : Ctx} {own : String} {cc : ByteArray} {nL cs sl pc N0 : Nat} {F : Op} {L : List (Nat × Value)} {S : List Value} {σ : Mem} {ck N ix : Nat} {Cn : String} {T : u_T} (C : Ck x own cc nL) (K : Cl ck Cn T N) (pc' : Nat) (d : decode cc pc = .ok (.new ix, 3)) (hp : pc + 3 = pc') (hk : kd N0 = .inr ck) (w1 : Cond.classLink own ix Cn ∈ TB) (w2 : Cond.instantiable Cn N ∈ TB) (w3 : Cond.initialized Cn ∈ TB) (hc : cs + 1 ≤ (roomOf x).cells) (hs : sl + N ≤ (roomOf x).slots) (fs : List Value) (hfs : ∀ j, j < N → defaultValue (tyC ck j) = vp_V fs j) (hfr : ∀ g, fs.map (rv g) = fs)
    (kk : Wk x (cs + 1) (sl + N) pc' L (.ref N0 :: S) σ (N0 + 1) (opn F N0 (some (.inl fs)))) : Wk x cs sl pc L S σ N0 F := by
  obtain ⟨p, l, e, R, s, m, args, below, meth, c, g, QQ, c0, s0, nL'⟩ := x
  obtain ⟨hx, hb, hml, hown, hts, hKE, hlk, had, rfl⟩ := C
  subst hp
  intro H locs ls hP hS hl
  obtain ⟨K1, K2, rfl, K4, K5, K6⟩ := K
  have hN : N0 < 235 := kd_lt hk (fun q => by cases q; omega)
  have hKn := hKE.1.1.1 ck _ K1
  refine W.newcK hx hb hown (hts _ w1) (hts _ w2) (hts _ w3) rfl d hc hs hKn.2.1 rfl fun H1 kC hkC e1 z1 o1 => ?_
  have hq : H.size = gA g N0 := by rw [hP.2, had N0 hN]
  have hkk : ∀ (k : Nat) (y : Nat × va_E), (wK g σ N0 F)[k]? = some y → H1[y.1]? = H[y.1]? := fun k y hy => o1 y.1 ((hP.1 k y hy).lt)
  have hP1 : va_P (gD g) vwCl (wK g σ N0 F ++ [(gA g N0, .inr (ck, fs))]) H1 := (hP.1.kept hkk).app (fun k y hy => by
    have hz : k < 1 := (List.getElem?_eq_some_iff.mp hy).1
    rw [show k = 0 by omega] at hy
    cases hy
    rw [hq] at e1
    exact ⟨_, K1, (u_born (tyC ck) hts K2 hKn hkC e1 K5).to hfs⟩)
  rw [wK_push g (σ' := σ) (F' := opn F N0 (some (.inl fs))) (fun j hj => eK_congr g (opn_ne (by omega)) rfl rfl rfl) (by rw [eK_inl opn_at, hfr, clsK, hk])] at hP1
  have h9 := kk H1 locs ls ⟨hP1, by rw [z1, hP.2]; omega⟩ ⟨Nat.le_trans hS.1 (by omega), fun q h1 h2 => (o1 q (Nat.lt_of_lt_of_le h1 hS.1)).trans (hS.2.1 q h1 h2), hS.2.2⟩ hl
  rw [show List.map (rv g) (.ref N0 :: S) = .ref H.size :: List.map (rv g) S by rw [hq]; rfl] at h9
  exact h9
/-- rows from N0 on are empty -/
def Zr (σ : Mem) (i : Nat) : Prop := σ.1 i = (fun _ => 0) ∧ σ.2.1 i = (fun _ => 0) ∧ σ.2.2 i = (fun _ => 0)
theorem zr_cell (g : Gh) {σ : Mem} {i : Nat} (h : Zr σ i) (cA : ClassId) (N : Nat) {ty : FieldType} (ht : ty = .int ∨ ty = .long ∨ ty = .boolean ∨ ty = .char ∨ ty = .double) : vp_cell cA (N, arr g σ i ty) = arrV cA N (fun _ => defaultValue ty) := by
  rcases ht with rfl | rfl | rfl | rfl | rfl
  · show arrV cA N (fun j => .int (σ.1 i j)) = _
    rw [h.1]; rfl
  · show arrV cA N (fun j => .long (σ.2.1 i j)) = _
    rw [h.2.1]; rfl
  · show arrV cA N (fun j => .int (σ.1 i j)) = _
    rw [h.1]; rfl
  · show arrV cA N (fun j => .int (σ.1 i j)) = _
    rw [h.1]; rfl
  · show arrV cA N (fun j => .double (σ.2.2 i j)) = _
    rw [h.2.2]; rfl
def tysN (t : ArrayType) : Nat := match t with
  | .int => 0
  | .long => 1
  | .boolean => 2
  | .char => 3
  | .double => 4
  | _ => 99
theorem k_newa {x : Ctx} {own : String} {cc : ByteArray} {nL cs sl pc N0 : Nat} {F : Op} {L : List (Nat × Value)} {S : List Value} {σ : Mem} {N : Nat} {n : Int32} {ty : FieldType} {at' : ArrayType} (C : Ck x own cc nL) (pc' : Nat) (d : decode cc pc = .ok (.newarray at', 2)) (hp : pc + 2 = pc') (hk : kd N0 = .inl (ty, N)) (hty : newarray.typeOf at' = ty) (ht : ∀ g, (tysG g)[tysN at']? = some (gC g ty, ty)) (w1 : Cond.arrayClass (newarray.typeOf at') ∈ TB) (hc : cs + 1 ≤ (roomOf x).cells) (hs : sl + N ≤ (roomOf x).slots) (hn : ¬ n < 0) (hN : n.toNatClampNeg = N) (hby : N * componentBytes ty ≤ 536870912) (hF : F N0 = none) (hZ : Zr σ N0) (h5 : newarray.typeOf at' = .int ∨ newarray.typeOf at' = .long ∨ newarray.typeOf at' = .boolean ∨ newarray.typeOf at' = .char ∨ newarray.typeOf at' = .double)
    (kk : Wk x (cs + 1) (sl + N) pc' L (.ref N0 :: S) σ (N0 + 1) F) : Wk x cs sl pc L (.int n :: S) σ N0 F := by
  obtain ⟨p, l, e, R, s, m, args, below, meth, c, g, QQ, c0, s0, nL'⟩ := x
  obtain ⟨hx, hb, hml, hown, hts, hKE, hlk, had, rfl⟩ := C
  subst hp
  subst hty
  intro H locs ls hP hS hl
  have hN5 : N0 < 235 := kd_lt hk (fun q => by cases q)
  refine va_newaK hx hb (hts _ w1) rfl d rfl hn hN hby hc hs rfl fun H1 cA e1 z1 o1 hAr hNm => ?_
  have hq : H.size = gA g N0 := by rw [hP.2, had N0 hN5]
  have hcA : cA = gC g (newarray.typeOf at') := by
    have h9 := (hKE.1.1.2 _ _ (ht g)).2
    have h8 : s.vm.findClass ("[" ++ (newarray.typeOf at').toString) = some (gC g (newarray.typeOf at')) := by
      cases at' <;> exact h9
    exact Option.some.inj (hNm.symm.trans h8)
  subst hcA
  have hkk : ∀ (k : Nat) (y : Nat × va_E), (wK g σ N0 F)[k]? = some y → H1[y.1]? = H[y.1]? := fun k y hy => o1 y.1 ((hP.1 k y hy).lt)
  have hP1 : va_P (gD g) vwCl (wK g σ N0 F ++ [(gA g N0, .inl (gC g (newarray.typeOf at'), N, arr g σ N0 (newarray.typeOf at')))]) H1 := (hP.1.kept hkk).app (fun k y hy => by
    have hz : k < 1 := (List.getElem?_eq_some_iff.mp hy).1
    rw [show k = 0 by omega] at hy
    cases hy
    rw [hq] at e1
    show H1[gA g N0]? = some (vp_cell _ _)
    rw [e1]
    exact congrArg some (zr_cell g hZ _ N h5).symm)
  rw [wK_push g (σ' := σ) (F' := F) (fun j hj => rfl) (by rw [eK_none hF, ent, hk])] at hP1
  have h9 := kk H1 locs ls ⟨hP1, by rw [z1, hP.2]; omega⟩ ⟨Nat.le_trans hS.1 (by omega), fun q h1 h2 => (o1 q (Nat.lt_of_lt_of_le h1 hS.1)).trans (hS.2.1 q h1 h2), hS.2.2⟩ hl
  rw [show List.map (rv g) (.ref N0 :: S) = .ref H.size :: List.map (rv g) S by rw [hq]; rfl] at h9
  exact h9

/-- the class of an array of references -/
theorem k_newq {x : Ctx} {own : String} {cc : ByteArray} {nL cs sl pc N0 ix : Nat} {F : Op} {L : List (Nat × Value)} {S : List Value} {σ : Mem} {n : Int32} (C : Ck x own cc nL) (pc' : Nat) (d : decode cc pc = .ok (.anewarray ix, 3)) (hp : pc + 3 = pc') (hk : kd N0 = .inl (tNet, 9)) (w1 : Cond.classLink own ix "HeatNetwork$Network" ∈ TB) (hc : cs + 1 ≤ (roomOf x).cells) (hs : sl + 9 ≤ (roomOf x).slots) (hn : ¬ n < 0) (hN : n.toNatClampNeg = 9)
    (kk : Wk x (cs + 1) (sl + 9) pc' L (.ref N0 :: S) σ (N0 + 1) (opn F N0 (some (.inr (fun _ => none))))) : Wk x cs sl pc L (.int n :: S) σ N0 F := by
  obtain ⟨p, l, e, R, s, m, args, below, meth, c, g, QQ, c0, s0, nL'⟩ := x
  obtain ⟨hx, hb, hml, hown, hts, hKE, hlk, had, rfl⟩ := C
  subst hp
  intro H locs ls hP hS hl
  have hN5 : N0 < 235 := kd_lt hk (fun q => by cases q)
  refine W.anew hx hb hown (hts _ w1) (va_AO.use hKE.2.1) rfl d rfl hn (by rw [hN]; decide) hc (by rw [hN]; exact hs) fun cA kA comp f1 f2 f3 f4 => ?_
  have hcA : cA = gC g tNet := by
    obtain ⟨-, kA9, comp9, -, -, -, h8⟩ := hKE.1.1.2 5 (gC g tNet, tNet) rfl
    exact Option.some.inj (f1.symm.trans h8)
  subst hcA
  generalize hH1 : H.push ({ cls := gC g tNet, slots := Array.replicate n.toNatClampNeg .null, vm := .none } : Cell) = H1
  have hq : H.size = gA g N0 := by rw [hP.2, had N0 hN5]
  have z1 : H1.size = H.size + 1 := by rw [← hH1, Array.size_push]
  have e1 : H1[H.size]? = some (arrV (gC g tNet) 9 (fun _ => .null)) := by rw [← hH1, Array.getElem?_push_size, ← arrV_new, hN]
  have o1 : ∀ q : Nat, q < H.size → H1[q]? = H[q]? := fun q hq => by rw [← hH1, Array.getElem?_push, if_neg (Nat.ne_of_lt hq)]
  have hkk : ∀ (k : Nat) (y : Nat × va_E), (wK g σ N0 F)[k]? = some y → H1[y.1]? = H[y.1]? := fun k y hy => o1 y.1 ((hP.1 k y hy).lt)
  have hP1 : va_P (gD g) vwCl (wK g σ N0 F ++ [(gA g N0, .inl (gC g tNet, 9, .inr (.inr (.inr (.inr (fun _ => none))))))]) H1 := (hP.1.kept hkk).app (fun k y hy => by
    have hz : k < 1 := (List.getElem?_eq_some_iff.mp hy).1
    rw [show k = 0 by omega] at hy
    cases hy
    rw [hq] at e1
    show H1[gA g N0]? = some (vp_cell _ _)
    rw [e1]
    rfl)
  rw [wK_push g (σ' := σ) (F' := opn F N0 (some (.inr (fun _ => none)))) (fun j hj => eK_congr g (opn_ne (by omega)) rfl rfl rfl) (by rw [eK_inr opn_at]; rfl)] at hP1
  have h9 := kk H1 locs ls ⟨hP1, by rw [z1, hP.2]; omega⟩ ⟨Nat.le_trans hS.1 (by omega), fun q h1 h2 => (o1 q (Nat.lt_of_lt_of_le h1 hS.1)).trans (hS.2.1 q h1 h2), hS.2.2⟩ hl
  rw [show List.map (rv g) (.ref N0 :: S) = .ref H.size :: List.map (rv g) S by rw [hq]; rfl] at h9
  rw [hN]
  exact h9
/-- a field of an object that is not done yet -/
theorem k_put {x : Ctx} {own : String} {cc : ByteArray} {nL cs sl pc N0 : Nat} {F : Op} {L : List (Nat × Value)} {S : List Value} {σ : Mem} {ck k N ix a : Nat} {Cn : String} {T : u_T} {v : Value} {fs : List Value} (C : Ck x own cc nL) (hin : isInit x) (K : Cl ck Cn T N) (pc' : Nat) (d : decode cc pc = .ok (.putfield ix, 3)) (hp : pc + 3 = pc') (hk : kd a = .inr ck) (ha : a < N0) (hN0 : N0 ≤ 235) (hF : F a = some (.inl fs)) (hlen : fs.length = N) (hkN : k < N) (hw : Cond.fieldLink own ix (T k).1 (T k).2.1 (T k).2.2.1 ∈ TB) (hdecl : (T k).1 = own) (hn : ∀ g, narrow (tyC ck k) (rv g v) = rv g v) (hf : ∀ g, fits (tyC ck k) (rv g v) = true)
    (kk : Wk x cs sl pc' L S σ N0 (opn F a (some (.inl (fs.set k v))))) : Wk x cs sl pc L (v :: .ref a :: S) σ N0 F := by
  obtain ⟨p, l, e, R, s, m, args, below, meth, c, g, QQ, c0, s0, nL'⟩ := x
  obtain ⟨hx, hb, hml, hown, hts, hKE, hlk, had, rfl⟩ := C
  subst hp
  intro H locs ls hP hS hl
  obtain ⟨K1, K2, rfl, K4, K5, K6⟩ := K
  have hwa : (wK g σ N0 F)[a]? = some (gA g a, .inr (ck, fs.map (rv g))) := by
    rw [wK_get g σ F ha, eK_inl hF, clsK, hk]
  have hset : ∀ H1 : Heap, va_P (gD g) vwCl ((wK g σ N0 F).set a (gA g a, .inr (ck, (fs.map (rv g)).set k (rv g v)))) H1 → H1.size = H.size → PK g σ N0 (opn F a (some (.inl (fs.set k v)))) H1 := fun H1 h hz => by
    rw [wK_set g (σ' := σ) (F' := opn F a (some (.inl (fs.set k v)))) ha (fun j hj => eK_congr g (opn_ne hj) rfl rfl rfl) (by rw [eK_inl opn_at, clsK, hk, List.map_set])] at h
    exact ⟨h, hz.trans hP.2⟩
  have hDK : va_D (AA g) (wK g σ N0 F) := wK_D hKE.1 σ hN0 F
  have hsl9 : k < (fs.map (rv g)).length := by rw [List.length_map, hlen]; exact hkN
  have hap := va_apart (own := own) hts K2 (tyC ck) K5 K6 hKE.1.1 K1
  obtain ⟨r, h1, cell, q1, q2, q3, q4⟩ := hP.1 a _ hwa
  have hr : r = (Cn, T, nfC ck) := Option.some.inj (h1.symm.trans K1)
  subst hr
  obtain ⟨hSl, hfc, kC, hkC, hkind⟩ := hKE.1.1.1 ck _ K1
  obtain ⟨cf, kf, fi, f, hi, hsl⟩ := hSl k hkN
  have hlay := hts _ (K2 _ (u_in_lay hkN))
  have hst := (u_facts hfc hkC (u_lays hts K2 hkN) hi).1
  unfold u_lay at hlay
  by_cases hfin : (T k).2.2.2 = true
  · rw [if_pos hfin] at hlay
    have hcf : m.cls = cf := by
      obtain ⟨_, _, c', _, _, _, -, -, hf', -, -, -, hown2, -⟩ := Cond.laysFinal_spec hlay
      have e1 : c' = cf := by have := hi.symm.trans hf'; simp at this; exact this.1.symm
      rw [hdecl] at hown2
      rw [← e1]; exact Option.some.inj (hown.symm.trans hown2)
    have h6 := u_fits hfc hkC hkind (Or.inr hlay) hi (K5 k hkN) (hn g) (hf g)
    refine W.putFinK hx hb hown (hts _ hw) hi hst hcf hin (by rw [q2]; exact h6) q1 q3 (by rw [hsl]; exact k2_hasslot (q4 k hkN)) rfl rfl d fun H' e1 e2 e3 => ?_
    rw [hsl] at e1 ⊢
    exact kk H' _ ls (hset H' (hP.1.set hDK hwa ⟨_, K1, t_OB.to (V := updV (vp_V (fs.map (rv g))) k (rv g v)) ⟨_, e1, q2, q3, t_set q4 hap hkN _⟩ (fun j _ => vp_updV_set hsl9 (rv g v) j)⟩ e3) e2) (hS.put e2 e3 (hDK.2 a _ hwa)) hl
  · rw [if_neg hfin] at hlay
    have h6 := u_store hfc hkC hkind hlay hi (K5 k hkN) (hn g) (hf g)
    refine W.putK hx hb (f := f) ⟨hown, hts _ hw, ⟨_, _, _, hi⟩, hst⟩ (by rw [q2]; exact h6) q1 q3 (by rw [hsl]; exact k2_hasslot (q4 k hkN)) rfl rfl d fun H' e1 e2 e3 => ?_
    rw [hsl] at e1 ⊢
    exact kk H' _ ls (hset H' (hP.1.set hDK hwa ⟨_, K1, t_OB.to (V := updV (vp_V (fs.map (rv g))) k (rv g v)) ⟨_, e1, q2, q3, t_set q4 hap hkN _⟩ (fun j _ => vp_updV_set hsl9 (rv g v) j)⟩ e3) e2) (hS.put e2 e3 (hDK.2 a _ hwa)) hl

theorem k_iast {x : Ctx} {own : String} {cc : ByteArray} {nL cs sl pc N0 : Nat} {F : Op} {L : List (Nat × Value)} {S : List Value} {σ : Mem} {a N : Nat} {i v : Int32} (C : Ck x own cc nL) (pc' : Nat) (d : decode cc pc = .ok (.iastore, 1)) (hp : pc + 1 = pc') (hk : kd a = .inl (.int, N)) (hF : F a = none) (ha : a < N0) (hN0 : N0 ≤ 235) (hin : vp_in i N) (kk : Wk x cs sl pc' L S (wi σ a i.toNatClampNeg v) N0 F) : Wk x cs sl pc L (.int v :: .int i :: .ref a :: S) σ N0 F := by
  obtain ⟨p, l, e, R, s, m, args, below, meth, c, g, QQ, c0, s0, nL'⟩ := x
  obtain ⟨hx, hb, hml, hown, hts, hKE, hlk, had, rfl⟩ := C
  subst hp
  intro H locs ls hP hS hl
  have hwa : (wK g σ N0 F)[a]? = some (gA g a, .inl (gC g .int, N, .inl (fun j => σ.1 a j))) := by
    rw [wK_get g σ F ha, eK_none hF, ent, hk]; rfl
  have hDK : va_D (AA g) (wK g σ N0 F) := wK_D hKE.1 σ hN0 F
  refine W.iast hx hb (hP.1 a _ hwa) ((hKE.1.1.2 0 _ rfl).1 N (fun j => .int (σ.1 a j))) (fun q => by cases q) (by show ¬ (i < 0 ∨ (arrV _ _ _).slots.size ≤ _); rw [arrV_size]; exact hin) rfl rfl d fun H1 e z oq => ?_
  have h1 : va_P (gD g) vwCl ((wK g σ N0 F).set a (gA g a, .inl (gC g .int, N, .inl (upd (fun j => σ.1 a j) i.toNatClampNeg v)))) H1 := hP.1.set hDK hwa (by
    show H1[gA g a]? = some (vp_cell _ _)
    rw [e]
    rw [vp_cell_i, vp_cell_i, arrV_store]
    congr 2
    funext q
    by_cases hq : q = i.toNatClampNeg
    · subst hq
      simp [updV, upd]
    · simp [updV, upd, hq]) oq
  rw [wK_set g (σ' := wi σ a i.toNatClampNeg v) (F' := F) ha (fun j hj => by unfold eK; rw [ent_wi g σ hj]) (by
    rw [eK_none hF, ent, hk]
    show Sum.inl (gC g .int, N, Sum.inl (fun j => (wi σ a i.toNatClampNeg v).1 a j)) = _
    have : (fun j => (wi σ a i.toNatClampNeg v).1 a j) = upd (fun j => σ.1 a j) i.toNatClampNeg v := by funext j; simp [wi, upd]
    rw [this])] at h1
  exact kk H1 _ ls ⟨h1, z.trans hP.2⟩ (hS.put z oq (hDK.2 a _ hwa)) hl
theorem k_aast {x : Ctx} {own : String} {cc : ByteArray} {nL cs sl pc N0 : Nat} {F : Op} {L : List (Nat × Value)} {S : List Value} {σ : Mem} {a v : Nat} {i : Int32} {f : Nat → Option Nat} (C : Ck x own cc nL) (pc' : Nat) (d : decode cc pc = .ok (.aastore, 1)) (hp : pc + 1 = pc') (hF : F a = some (.inr f)) (ha : a < N0) (hN0 : N0 ≤ 235) (hv : kd v = .inr 2) (hFv : F v = none) (hvN : v < N0) (hin : vp_in i 9) (kk : Wk x cs sl pc' L S σ N0 (opn F a (some (.inr (va_up f i.toNatClampNeg (some v)))))) : Wk x cs sl pc L (.ref v :: .int i :: .ref a :: S) σ N0 F := by
  obtain ⟨p, l, e, R, s, m, args, below, meth, c, g, QQ, c0, s0, nL'⟩ := x
  obtain ⟨hx, hb, hml, hown, hts, hKE, hlk, had, rfl⟩ := C
  subst hp
  intro H locs ls hP hS hl
  have hwa : (wK g σ N0 F)[a]? = some (gA g a, .inl (gC g tNet, 9, .inr (.inr (.inr (.inr (fun j => (f j).map (gA g))))))) := by
    rw [wK_get g σ F ha, eK_inr hF]
  have hwv : (wK g σ N0 F)[v]? = some (gA g v, .inr (2, (List.range (nfC 2)).map (fun k => fvl g σ v 2 k))) := by
    rw [wK_get g σ F hvN, eK_none hFv, ent, hv]
  have hDK : va_D (AA g) (wK g σ N0 F) := wK_D hKE.1 σ hN0 F
  have h0 : ¬ i < 0 := fun q => hin (Or.inl q)
  have hlt : i.toNatClampNeg < 9 := Nat.not_le.mp fun q => hin (Or.inr q)
  obtain ⟨r', hr', cellV, g1, g2, g3, -⟩ := hP.1 v _ hwv
  have hcls := (hKE.1.1.1 2 _ cl2.1).2
  obtain ⟨kA, comp, k1, k2, k3, -⟩ := (hKE.1.1.2 5 (gC g tNet, tNet) rfl).2
  have hcomp : comp = (gD g).1 2 := Option.some.inj (k3.symm.trans hcls.1)
  subst hcomp
  obtain ⟨kC, hkC, -⟩ := hcls.2
  refine W.aast hx hb (hP.1 a _ hwa) (fun q h => by cases h) (fun h => by cases h) k1 k2 rfl hkC ⟨h0, by show _ < (arrV _ _ _).slots.size; rw [arrV_size]; exact hlt⟩ g1 (fun q h => by rw [g3] at h; cases h) (by rw [g2]; exact hkC) (by rw [g2]; exact va_assign hcls) rfl rfl d fun H1 e z oq => ?_
  have h1 : va_P (gD g) vwCl ((wK g σ N0 F).set a (gA g a, .inl (gC g tNet, 9, .inr (.inr (.inr (.inr (fun j => (va_up f i.toNatClampNeg (some v) j).map (gA g)))))))) H1 := hP.1.set hDK hwa (by
    show H1[gA g a]? = some (vp_cell _ _)
    rw [e]
    rw [vp_cell_q, vp_cell_q, arrV_store]
    congr 2
    funext q
    by_cases hq : q = i.toNatClampNeg
    · subst hq
      simp [updV, va_up, va_rf]
    · simp [updV, va_up, hq]) oq
  rw [wK_set g (σ' := σ) (F' := opn F a (some (.inr (va_up f i.toNatClampNeg (some v))))) ha (fun j hj => eK_congr g (opn_ne hj) rfl rfl rfl) (by rw [eK_inr opn_at])] at h1
  exact kk H1 _ ls ⟨h1, z.trans hP.2⟩ (hS.put z oq (hDK.2 a _ hwa)) hl
theorem k_get {x : Ctx} {own : String} {cc : ByteArray} {nL cs sl pc N0 : Nat} {F : Op} {L : List (Nat × Value)} {S : List Value} {σ : Mem} {ck k N ix a : Nat} {Cn : String} {T : u_T} {v : Value} {fs : List Value} (C : Ck x own cc nL) (K : Cl ck Cn T N) (pc' : Nat) (d : decode cc pc = .ok (.getfield ix, 3)) (hp : pc + 3 = pc') (hk : kd a = .inr ck) (ha : a < N0) (hF : F a = some (.inl fs)) (hkN : k < N) (hw : Cond.fieldLink own ix (T k).1 (T k).2.1 (T k).2.2.1 ∈ TB) (hv : fs[k]? = some v) (kk : Wk x cs sl pc' L (v :: S) σ N0 F) : Wk x cs sl pc L (.ref a :: S) σ N0 F := by
  obtain ⟨p, l, e, R, s, m, args, below, meth, c, g, QQ, c0, s0, nL'⟩ := x
  obtain ⟨hx, hb, hml, hown, hts, hKE, hlk, had, rfl⟩ := C
  subst hp
  intro H locs ls hP hS hl
  obtain ⟨K1, K2, rfl, K4, K5, K6⟩ := K
  have hwa : (wK g σ N0 F)[a]? = some (gA g a, .inr (ck, fs.map (rv g))) := by
    rw [wK_get g σ F ha, eK_inl hF, clsK, hk]
  refine va_get hx hb hts K2 hown hKE.1.1 hP.1 a hwa K1 k hkN (hts _ hw) (fun _ h => h) (v := rv g v) ?_ d (kk H locs ls hP hS hl)
  rw [List.getElem?_map, hv]; rfl
theorem k_alen {x : Ctx} {own : String} {cc : ByteArray} {nL cs sl pc N0 : Nat} {F : Op} {L : List (Nat × Value)} {S : List Value} {σ : Mem} {a : Nat} {f : Nat → Option Nat} (C : Ck x own cc nL) (pc' : Nat) (d : decode cc pc = .ok (.arraylength, 1)) (hp : pc + 1 = pc') (ha : a < N0) (hF : F a = some (.inr f)) (kk : Wk x cs sl pc' L (.int 9 :: S) σ N0 F) : Wk x cs sl pc L (.ref a :: S) σ N0 F := by
  obtain ⟨p, l, e, R, s, m, args, below, meth, c, g, QQ, c0, s0, nL'⟩ := x
  obtain ⟨hx, hb, hml, hown, hts, hKE, hlk, had, rfl⟩ := C
  subst hp
  intro H locs ls hP hS hl
  have hwa : (wK g σ N0 F)[a]? = some (gA g a, .inl (gC g tNet, 9, .inr (.inr (.inr (.inr (fun j => (f j).map (gA g))))))) := by
    rw [wK_get g σ F ha, eK_inr hF]
  exact va_alen hx hb hKE.1.1 hP.1 a 5 hwa rfl rfl d (kk H locs ls hP hS hl)
theorem k_obj {x : Ctx} {own : String} {cc : ByteArray} {nL cs sl pc N0 ix a : Nat} {F : Op} {L : List (Nat × Value)} {S : List Value} {σ : Mem} (C : Ck x own cc nL) (pc' : Nat) (d : decode cc pc = .ok (.invokespecial ix, 3)) (hp : pc + 3 = pc') (w1 : Cond.methodLink own ix Lib.objectInit ∈ TB) (w2 : Cond.instanceMethod Lib.objectInit ∈ TB) (w3 : Cond.code Lib.objectInit ⟨#[0xb1]⟩ 1 none ∈ TB) (hfr : 1 ≤ (roomOf x).frames) (hlo : 20 ≤ (roomOf x).locals) (hst : (S.map fun v => v.category).sum ≤ 8) (kk : Wk x cs sl pc' L S σ N0 F) : Wk x cs sl pc L (.ref a :: S) σ N0 F := by
  obtain ⟨p, l, e, R, s, m, args, below, meth, c, g, QQ, c0, s0, nL'⟩ := x
  obtain ⟨hx, hb, hml, hown, hts, hKE, hlk, had, rfl⟩ := C
  subst hp
  intro H locs ls hP hS hl
  have hst' : ((S.map (rv g)).map fun v => v.category).sum ≤ 8 := by
    rw [List.map_map, show ((fun v : Value => v.category) ∘ rv g) = (fun v => v.category) from funext (rv_cat g)]; exact hst
  have hlo9 : 20 ≤ R.locals := hlo
  exact W.objInit hx hb hown (hts _ w1) (hts _ w2) (hts _ w3) rfl (by rw [hml]; exact hl.1) rfl d hfr (by show 2 * 0 + _ + 12 ≤ _; omega) (kk H locs ls hP hS hl)
def rmK (d rc rs : Nat) : Room := { frames := d, cells := rc, slots := rs, locals := 50 * d + 60 }
def RtK (x : Ctx) (rc rs : Nat) (σ : Mem) (N0 : Nat) (F : Op) : Prop := match x with
  | (p, l, e, R, s, m, args, below, meth, c, g, QQ, c0, s0, nL) => meth.sig.returnType = none ∧ QQ = MQ below (va_Qv (fun _ : Unit => True) (fun _ t => PK g σ N0 F t.heap) (AA g)) args s rc rs (AA g)
/-- a constructor's contract: the object at a, and what it makes -/
def CtK (y : MethodName) (yc : ByteArray) (ml d rc rs a : Nat) (σ : Mem) (N0 : Nat) (F : Op) (σ' : Mem) (N1 : Nat) (F' : Op) : Prop :=
  ∀ (l : Launch) (g : Gh), (∀ i : Nat, i < 235 → gA g i = gB g + i) → Met l y (Cond.code y yc ml none :: TB) (rmK d rc rs) (va_Pc [.ref (gA g a)] (fun U => PK g σ N0 F U.heap ∧ KC g U)) (va_Qv (fun _ : Unit => True) (fun _ t => PK g σ' N1 F' t.heap) (AA g)) rc rs (AA g)
theorem k_vret {x : Ctx} {own : String} {cc : ByteArray} {nL cs sl pc N0 rc rs : Nat} {F : Op} {L : List (Nat × Value)} {σ : Mem} (C : Ck x own cc nL) (dc : decode cc pc = .ok (.return_, 1)) (hr : RtK x rc rs σ N0 F) (h1 : cs ≤ rc) (h2 : sl ≤ rs) : Wk x cs sl pc L [] σ N0 F := by
  obtain ⟨p, l, e, R, s, m, args, below, meth, c, g, QQ, c0, s0, nL'⟩ := x
  obtain ⟨hx, hb, hml, hown, hts, hKE, hlk, had, rfl⟩ := C
  obtain ⟨hrt, rfl⟩ := hr
  intro H locs ls hP hS hl
  exact W.widen (k := rc) (n := rs) h1 h2 (W.vret hx hb hrt (fun t ht hW => ⟨⟨(), rfl, trivial, by rw [← ht] at hP; exact hP⟩, hS.F ht⟩) (fun q hq => hS.2.2 q hq) dc hlk)
theorem ctK_of {y : MethodName} {yc : ByteArray} {ml d rc rs a : Nat} {σ : Mem} {N0 : Nat} {F : Op} {σ' : Mem} {N1 : Nat} {F' : Op} (hy : plainName y.cls = true) (hn : y.name = "<init>") (hl : 1 ≤ ml) (body : ∀ x : Ctx, Ck x y.cls yc ml → isInit x → roomOf x = rmK d rc rs → RtK x rc rs σ' N1 F' → Wk x 0 0 0 [(0, .ref a)] [] σ N0 F) : CtK y yc ml d rc rs a σ N0 F σ' N1 F' := by
  intro l g had
  refine Met.ofW (cc := yc) (maxL := ml) (ret := none) hy rfl ?_
  intro p e s m args below meth c s₁ B hml hv
  obtain ⟨rfl, hP, hKC⟩ := hv
  have hx := B.exec
  have hb := B.bytes
  have hr := B.returns
  have hts0 := atoms_spec (ws := Cond.code y yc ml none :: TB) B.pre
  have hown : s.vm.findClass y.cls = some m.cls := findClass_of_methodNamed B.named
  have hlocks := B.notSynchronized
  have hin : meth.name = "<init>" := (name_of_methodNamed B.named B.method).1.trans hn
  have hle := lv_entry ([.ref (gA g a)]) (n := ml) (by exact hl)
  rw [lg_entry_eq]
  exact body (p, l, e, rmK d rc rs, s, m, #[.ref (gA g a)], below, meth, c, g, _, 0, 0, ml) ⟨hx, hb, hml, hown, fun w hw => hts0 w (List.mem_cons_of_mem _ hw), hKC, hlocks, had, rfl⟩ hin rfl ⟨hr, rfl⟩ s.heap [] _ hP va_S.rf hle
theorem k_call {x : Ctx} {own : String} {cc : ByteArray} {nL cs sl pc N0 ix a ml d rc rs N1 : Nat} {F F' : Op} {L : List (Nat × Value)} {S : List Value} {σ σ' : Mem} {y : MethodName} {yc : ByteArray} (C : Ck x own cc nL) (pc' : Nat) (hct : CtK y yc ml d rc rs a σ N0 F σ' N1 F') (dc : decode cc pc = .ok (.invokespecial ix, 3)) (hp : pc + 3 = pc') (hn : y.name = "<init>") (w1 : Cond.methodLink own ix y ∈ TB) (w2 : Cond.code y yc ml none ∈ TB) (w4 : Cond.instanceMethod y ∈ TB) (w5 : Cond.initialized y.cls ∈ TB) (hyd : y.cls ≠ "java/lang/invoke/MethodHandle" ∧ y.cls ≠ "java/lang/invoke/VarHandle" ∧ (parseMethodDescriptor y.desc).map (fun d => d.parameters.length) = some 0)
    (hR : (rmK d rc rs).frames + 1 ≤ (roomOf x).frames ∧ 8 + (ml + 11) + (rmK d rc rs).locals ≤ (roomOf x).locals) (hst : (S.map fun v => v.category).sum ≤ 8) (hc : cs + rc ≤ (roomOf x).cells) (hs : sl + rs ≤ (roomOf x).slots) (kk : Wk x (cs + rc) (sl + rs) pc' L S σ' N1 F') : Wk x cs sl pc L (.ref a :: S) σ N0 F := by
  obtain ⟨p, l, e, R, s, m, args, below, meth, c, g, QQ, c0, s0, nL'⟩ := x
  obtain ⟨hx, hb, hml, hown, hts, hKE, hlk, had, rfl⟩ := C
  subst hp
  intro H locs ls hP hS hl
  have hst' : ((S.map (rv g)).map fun v => v.category).sum ≤ 8 := by
    rw [List.map_map, show ((fun v : Value => v.category) ∘ rv g) = (fun v => v.category) from funext (rv_cat g)]; exact hst
  refine va_callv (va_runI (As := []) (rest := S.map (rv g)) ⟨hx, hb, hml, hown, hts⟩ (hct l g had) (cwI 0 hts (tb_goodIn w2) rfl rfl rfl (hts _ w5) (hts _ w1) (hts _ w4) hn hyd hR) ⟨fun a9 U f mk q => ⟨q.1, q.2.1, q.2.2.calling f mk a9⟩, fun U hU hW => ⟨rfl, by rw [hU]; exact hP, hKE.to hW (by rw [hU]; exact hS.1) (fun a h1 h2 => by rw [hU]; exact hS.2.1 a h1 h2)⟩⟩ rfl rfl hl.1 rfl (lv_room hst') dc ⟨hc, hs⟩) hS (fun q _ h => h) (fun q h => h) (fun u t H1 locs1 ht hvm _ hB hz1 hk1 hS1 => ?_)
  exact kk H1 locs1 ls (by rw [← ht]; exact hB) hS1 hl
theorem k_callN {x : Ctx} {own : String} {cc : ByteArray} {nL cs sl pc N0 ix a ml d rc rs N1 : Nat} {F F' : Op} {L : List (Nat × Value)} {S : List Value} {σ σ' : Mem} {y : MethodName} {host : String} {yc : ByteArray} (C : Ck x own cc nL) (pc' : Nat) (hct : CtK y yc ml d rc rs a σ N0 F σ' N1 F') (dc : decode cc pc = .ok (.invokespecial ix, 3)) (hp : pc + 3 = pc') (hn : y.name = "<init>") (w1 : Cond.methodLinkNest own ix y host ∈ NB) (w2 : Cond.code y yc ml none ∈ TB) (w4 : Cond.instanceMethod y ∈ TB) (w5 : Cond.initialized y.cls ∈ TB) (hyd : y.cls ≠ "java/lang/invoke/MethodHandle" ∧ y.cls ≠ "java/lang/invoke/VarHandle" ∧ (parseMethodDescriptor y.desc).map (fun d => d.parameters.length) = some 0)
    (hR : (rmK d rc rs).frames + 1 ≤ (roomOf x).frames ∧ 8 + (ml + 11) + (rmK d rc rs).locals ≤ (roomOf x).locals) (hst : (S.map fun v => v.category).sum ≤ 8) (hc : cs + rc ≤ (roomOf x).cells) (hs : sl + rs ≤ (roomOf x).slots) (kk : Wk x (cs + rc) (sl + rs) pc' L S σ' N1 F') : Wk x cs sl pc L (.ref a :: S) σ N0 F := by
  obtain ⟨p, l, e, R, s, m, args, below, meth, c, g, QQ, c0, s0, nL'⟩ := x
  obtain ⟨hx, hb, hml, hown, hts, hKE, hlk, had, rfl⟩ := C
  subst hp
  intro H locs ls hP hS hl
  have hst' : ((S.map (rv g)).map fun v => v.category).sum ≤ 8 := by
    rw [List.map_map, show ((fun v : Value => v.category) ∘ rv g) = (fun v => v.category) from funext (rv_cat g)]; exact hst
  refine va_callv (va_runIN (host := host) (As := []) (rest := S.map (rv g)) ⟨hx, hb, hml, hown, hts⟩ (hct l g had) ⟨va_cnB 0 hts (tb_goodIn w2) rfl rfl rfl (hKE.1.2.2.2.2.2.2.2.2.2.1 _ w1) (hts _ w5) hyd hR, hn, hts _ w4⟩ ⟨fun a9 U f mk q => ⟨q.1, q.2.1, q.2.2.calling f mk a9⟩, fun U hU hW => ⟨rfl, by rw [hU]; exact hP, hKE.to hW (by rw [hU]; exact hS.1) (fun a h1 h2 => by rw [hU]; exact hS.2.1 a h1 h2)⟩⟩ rfl rfl hl.1 rfl (lv_room hst') dc ⟨hc, hs⟩) hS (fun q _ h => h) (fun q h => h) (fun u t H1 locs1 ht hvm _ hB hz1 hk1 hS1 => ?_)
  exact kk H1 locs1 ls (by rw [← ht]; exact hB) hS1 hl
/-- an object is done -/
theorem k_done {x : Ctx} {own : String} {cc : ByteArray} {nL cs sl pc N0 a ck : Nat} {F : Op} {L : List (Nat × Value)} {S : List Value} {σ σ' : Mem} {fs : List Value} (C : Ck x own cc nL) (hk : kd a = .inr ck) (hF : F a = some (.inl fs)) (hσ : ∀ j, j ≠ a → σ.1 j = σ'.1 j ∧ σ.2.1 j = σ'.2.1 j ∧ σ.2.2 j = σ'.2.2 j) (h : ∀ g, fs.map (rv g) = (List.range (nfC ck)).map (fun k => fvl g σ' a ck k)) (kk : Wk x cs sl pc L S σ' N0 (opn F a none)) : Wk x cs sl pc L S σ N0 F := by
  obtain ⟨p, l, e, R, s, m, args, below, meth, c, g, QQ, c0, s0, nL'⟩ := x
  intro H locs ls hP hS hl
  refine kk H locs ls ⟨?_, hP.2⟩ hS hl
  have := hP.1
  rw [wK_same g (σ' := σ') (F' := opn F a none) (fun j hj => ?_)] at this
  · exact this
  · by_cases hj : j = a
    · subst hj
      rw [eK_none opn_at, eK_inl hF, ent, hk, clsK, hk]
      simp only [h g]
    · exact eK_congr g (opn_ne hj) (hσ j hj).1 (hσ j hj).2.1 (hσ j hj).2.2
def rowI (σ : Mem) (a : Nat) (f : Nat → Int32) : Mem := (fun c => if c = a then f else σ.1 c, σ.2)
def FV (j : Nat) : Int32 := FVs.getD j 0
/-- a copy of the first values -/
theorem k_first {x : Ctx} {nL cs sl N0 : Nat} {F : Op} {L : List (Nat × Value)} {S : List Value} {σ : Mem} (C : Ck x RX0 cX0_init nL) (hk : kd N0 = .inl (.int, 7)) (hF : F N0 = none) (hfr : 1 ≤ (roomOf x).frames) (hlo : 30 ≤ (roomOf x).locals) (hst : (S.map fun v => v.category).sum ≤ 8) (hc : cs + 1 ≤ (roomOf x).cells) (hs : sl + 7 ≤ (roomOf x).slots) (kk : Wk x (cs + 1) (sl + 7) 14 L (.ref N0 :: S) (rowI σ N0 FV) (N0 + 1) F) : Wk x cs sl 5 L S σ N0 F := by
  obtain ⟨p, l, e, R, s, m, args, below, meth, c, g, QQ, c0, s0, nL'⟩ := x
  obtain ⟨hx, hb, hml, hown, hts, hKE, hlk, had, rfl⟩ := C
  intro H locs ls hP hS hl
  obtain ⟨hKE1, hAO, hWF, t, cell, hZ, e1, e2, e3, e4, e5, e6⟩ := hKE
  have hN5 : N0 < 235 := kd_lt hk (fun q => by cases q)
  have hnm : s.vm.findClass "[I" = some (gC g .int) := va_nm_int (hKE1.1.2 0 _ rfl).2
  have hst' : ((S.map (rv g)).map fun v => v.category).sum ≤ 8 := by
    rw [List.map_map, show ((fun v : Value => v.category) ∘ rv g) = (fun v => v.category) from funext (rv_cat g)]; exact hst
  refine va_getsN (host := "HeatNetwork") hx hb hZ hS hown (va_Nw.use rfl hWF) (fun _ h => h) dX0_init_5 ?_
  obtain ⟨cc0, ct, f1, f2, f3⟩ := Cond.castable_spec (va_Nw.use (A := args) rfl (hKE1.2.2.2.2.2.2.2.2.2.1 (.castable "[I" "java/lang/Cloneable") (List.mem_filter.mpr ⟨List.mem_of_getElem? (i := 132) (by decide +kernel), by decide +kernel⟩)))
  cases hnm.symm.trans f1
  intro T hT X
  have hlt : t < s.heap.size := (Array.getElem?_eq_some_iff.mp e1).1
  have hcellT : T.heap[t]? = some cell := by rw [hT, hS.2.1 t hlt e6]; exact e1
  obtain ⟨-, kA, hkA, comp, hkind⟩ := State.isArrayOf_alike X.warmed.alike ((hKE1.1.2 0 _ rfl).1 0 (fun _ => .null))
  obtain ⟨-, kS, hkS, compS, hkindS⟩ := (hKE1.1.2 0 _ rfl).1 0 (fun _ => .null)
  have hsz : cell.slots.size = 7 := by rw [e5]; exact arrV_size _ _ _
  have hlo9 : 30 ≤ R.locals := hlo
  obtain ⟨vm', X', st⟩ := X.cloneArray (ad := "[I") (index := 13) hx hown (hts _ (tb_mem 127 (by decide +kernel) (by decide +kernel))) (hts _ (tb_mem 128 (by decide +kernel) (by decide +kernel))) (hts _ (tb_mem 129 (by decide +kernel) (by decide +kernel))) (hts _ (tb_mem 130 (by decide +kernel) (by decide +kernel))) (hts _ (tb_mem 131 (by decide +kernel) (by decide +kernel))) (a := t) (cell := cell) hcellT e3 e4 (by rw [e2]; exact hnm) f2 (by rw [e2]; exact f3)
    (fun i v hv => by
      rw [e2]
      have hk' : T.vm.classes[gC g .int]? = some kA := hkA
      have hfit : fits .int v = true := va_fit (cA := gC g .int) (n := 7) (F := fun j => .int (FVs.getD j 0)) (fun _ _ => rfl) i v (by rw [← e5]; exact hv)
      simpa [State.fitsSlot, State.slotType?, hk', hkind] using hfit)
    (g := F0 m 8 ls (.ref t :: S.map (rv g))) rfl (by rw [hml]; exact hl.1) rfl (by rw [hb]; exact dX0_init_8) hfr (by show 2 * 0 + _ + 14 ≤ _; omega) hc (by rw [hsz]; exact hs) (hloader := by rw [e2]; exact Vm.clonesLoader_of_array hkS hkindS)
  rw [hsz] at X'
  have hnew : ({ cls := cell.cls, slots := cell.slots } : Cell) = vp_cell (gC g .int) (7, .inl FV) := by
    rw [e2, e5]; rfl
  rw [hnew] at X' st
  generalize hH1 : H.push (vp_cell (gC g .int) (7, .inl FV)) = H1
  have hq : H.size = gA g N0 := by rw [hP.2, had N0 hN5]
  have z1 : H1.size = H.size + 1 := by rw [← hH1, Array.size_push]
  have e1' : H1[H.size]? = some (vp_cell (gC g .int) (7, .inl FV)) := by rw [← hH1, Array.getElem?_push_size]
  have o1 : ∀ q : Nat, q < H.size → H1[q]? = H[q]? := fun q hq => by rw [← hH1, Array.getElem?_push, if_neg (Nat.ne_of_lt hq)]
  have hkk : ∀ (k : Nat) (y : Nat × va_E), (wK g σ N0 F)[k]? = some y → H1[y.1]? = H[y.1]? := fun k y hy => o1 y.1 ((hP.1 k y hy).lt)
  have hP1 : va_P (gD g) vwCl (wK g σ N0 F ++ [(gA g N0, .inl (gC g .int, 7, .inl FV))]) H1 := (hP.1.kept hkk).app (fun k y hy => by
    have hz : k < 1 := (List.getElem?_eq_some_iff.mp hy).1
    rw [show k = 0 by omega] at hy
    cases hy
    rw [hq] at e1'
    exact e1')
  rw [wK_push g (σ := σ) (N0 := N0) (F := F) (σ' := rowI σ N0 FV) (F' := F) (fun j hj => eK_congr g rfl (by show σ.1 j = if j = N0 then FV else σ.1 j; rw [if_neg (by omega)]) rfl rfl) (by
    rw [eK_none hF, ent, hk]
    show Sum.inl (gC g .int, 7, Sum.inl (fun j => (if N0 = N0 then FV else σ.1 N0) j)) = _
    rw [if_pos rfl])] at hP1
  have hP2 : PK g (rowI σ N0 FV) (N0 + 1) F H1 := ⟨hP1, by rw [z1, hP.2]; omega⟩
  have h9 := va_castA (ls := ls) (rest := S.map (rv g)) (pc := 11) (index := 14) hx hb hown (hts (.classLink RX0 14 "[I") (tb_mem 133 (by decide +kernel) (by decide +kernel))) hP2.1 N0 (a := gA g N0) (cA := gC g .int) (x := (7, .inl FV)) (by
    rw [wK_get g _ F (by omega), eK_none hF, ent, hk]
    show some (gA g N0, Sum.inl (gC g .int, 7, Sum.inl (fun j => (if N0 = N0 then FV else σ.1 N0) j))) = _
    rw [if_pos rfl]) hnm dX0_init_11 (kk H1 locs ls hP2 ⟨Nat.le_trans hS.1 (by omega), fun q h1 h2 => (o1 q (Nat.lt_of_lt_of_le h1 hS.1)).trans (hS.2.1 q h1 h2), hS.2.2⟩ hl)
  obtain ⟨t2, b1, b2⟩ := h9 ((T.setVm vm').pushCell (vp_cell (gC g .int) (7, .inl FV))) (by rw [← hH1, ← hT]; rfl) X'
  refine ⟨t2, st t2 ?_, b2⟩
  rw [hT, hq]
  exact b1
theorem opn_opn {F : Op} {a : Nat} {u v : Option (List Value ⊕ (Nat → Option Nat))} : opn (opn F a u) a v = opn F a v := by
  funext j
  by_cases h : j = a
  · subst h; rw [opn_at, opn_at]
  · rw [opn_ne h, opn_ne h, opn_ne h]
theorem opn_self {F : Op} {a : Nat} {v : Option (List Value ⊕ (Nat → Option Nat))} (h : F a = v) : opn F a v = F := by
  funext j
  by_cases hj : j = a
  · subst hj; rw [opn_at, h]
  · rw [opn_ne hj]
/-- a field of the object that is made -/
theorem k_putO {x : Ctx} {own : String} {cc : ByteArray} {nL cs sl pc N0 : Nat} {F : Op} {L : List (Nat × Value)} {S : List Value} {σ : Mem} {ck k N ix a : Nat} {Cn : String} {T : u_T} {v : Value} {fs fs' : List Value} (C : Ck x own cc nL) (hin : isInit x) (K : Cl ck Cn T N) (pc' : Nat) (d : decode cc pc = .ok (.putfield ix, 3)) (hp : pc + 3 = pc') (hk : kd a = .inr ck) (ha : a < N0) (hN0 : N0 ≤ 235) (hlen : fs.length = N) (hkN : k < N) (hw : Cond.fieldLink own ix (T k).1 (T k).2.1 (T k).2.2.1 ∈ TB) (hdecl : (T k).1 = own) (hn : ∀ g, narrow (tyC ck k) (rv g v) = rv g v) (hf : ∀ g, fits (tyC ck k) (rv g v) = true) (hfs : fs.set k v = fs')
    (kk : Wk x cs sl pc' L S σ N0 (opn F a (some (.inl fs')))) : Wk x cs sl pc L (v :: .ref a :: S) σ N0 (opn F a (some (.inl fs))) := by
  refine k_put C hin K pc' d hp hk ha hN0 opn_at hlen hkN hw hdecl hn hf ?_
  rw [opn_opn, hfs]
  exact kk
theorem k_doneO {x : Ctx} {own : String} {cc : ByteArray} {nL cs sl pc N0 a ck : Nat} {F : Op} {L : List (Nat × Value)} {S : List Value} {σ σ' : Mem} {fs : List Value} (C : Ck x own cc nL) (hk : kd a = .inr ck) (hF : F a = none) (hσ : ∀ j, j ≠ a → σ.1 j = σ'.1 j ∧ σ.2.1 j = σ'.2.1 j ∧ σ.2.2 j = σ'.2.2 j) (h : ∀ g, fs.map (rv g) = (List.range (nfC ck)).map (fun k => fvl g σ' a ck k)) (kk : Wk x cs sl pc L S σ' N0 F) : Wk x cs sl pc L S σ N0 (opn F a (some (.inl fs))) := by
  refine k_done C hk opn_at hσ h ?_
  rw [opn_opn, opn_self hF]
  exact kk
/-- first values in the rows of l, all else empty -/
def SG (l : List Nat) : Mem := (fun c => if c ∈ l then FV else fun _ => 0, fun _ _ => 0, fun _ _ => 0)
theorem SG_row (l : List Nat) (b : Nat) : rowI (SG l) b FV = SG (b :: l) := by
  unfold rowI SG
  simp only [Prod.mk.injEq, and_true]
  funext c
  by_cases h : c = b
  · simp [h]
  · simp [h]
theorem SG_z {l : List Nat} {i : Nat} (h : i ∉ l) : Zr (SG l) i := ⟨by show (if i ∈ l then FV else fun _ => 0) = _; rw [if_neg h], rfl, rfl⟩
theorem opn_swap {F : Op} {a b : Nat} {u v : Option (List Value ⊕ (Nat → Option Nat))} (h : a ≠ b) : opn (opn F a u) b v = opn (opn F b v) a u := by
  funext j
  by_cases hj : j = a
  · subst hj; rw [opn_ne h, opn_at, opn_at]
  · rw [opn_ne (F := opn F b v) hj]
    by_cases hb : j = b
    · subst hb; rw [opn_at, opn_at]
    · rw [opn_ne hb, opn_ne hb, opn_ne hj]
/-- a field of the object that is made, while another cell is open -/
theorem k_putT {x : Ctx} {own : String} {cc : ByteArray} {nL cs sl pc N0 : Nat} {F : Op} {L : List (Nat × Value)} {S : List Value} {σ : Mem} {ck k N ix a b : Nat} {w : Option (List Value ⊕ (Nat → Option Nat))} {Cn : String} {T : u_T} {v : Value} {fs fs' : List Value} (C : Ck x own cc nL) (hin : isInit x) (K : Cl ck Cn T N) (pc' : Nat) (d : decode cc pc = .ok (.putfield ix, 3)) (hp : pc + 3 = pc') (hk : kd a = .inr ck) (hab : a ≠ b) (ha : a < N0) (hN0 : N0 ≤ 235) (hlen : fs.length = N) (hkN : k < N) (hw : Cond.fieldLink own ix (T k).1 (T k).2.1 (T k).2.2.1 ∈ TB) (hdecl : (T k).1 = own) (hn : ∀ g, narrow (tyC ck k) (rv g v) = rv g v) (hf : ∀ g, fits (tyC ck k) (rv g v) = true) (hfs : fs.set k v = fs')
    (kk : Wk x cs sl pc' L S σ N0 (opn (opn F a (some (.inl fs'))) b w)) : Wk x cs sl pc L (v :: .ref a :: S) σ N0 (opn (opn F a (some (.inl fs))) b w) := by
  rw [opn_swap hab] at kk ⊢
  exact k_putO C hin K pc' d hp hk ha hN0 hlen hkN hw hdecl hn hf hfs kk
def fE (n : Nat) : Nat → Option Nat := fun j => if j < n then some (83 + 14 * j) else none
theorem fE_up (n : Nat) : va_up (fE n) n (some (83 + 14 * n)) = fE (n + 1) := by
  funext j
  unfold va_up fE
  by_cases h : j = n
  · subst h; rw [if_pos rfl, if_pos (by omega)]
  · rw [if_neg h]
    by_cases h1 : j < n
    · rw [if_pos h1, if_pos (by omega)]
    · rw [if_neg h1, if_neg (by omega)]
theorem k_aastE {x : Ctx} {own : String} {cc : ByteArray} {nL cs sl pc N0 : Nat} {F : Op} {L : List (Nat × Value)} {S : List Value} {σ : Mem} {a v n n1 : Nat} {i : Int32} (C : Ck x own cc nL) (pc' : Nat) (d : decode cc pc = .ok (.aastore, 1)) (hp : pc + 1 = pc') (ha : a < N0) (hN0 : N0 ≤ 235) (hi : i.toNatClampNeg = n) (hve : v = 83 + 14 * n) (hn1 : n + 1 = n1) (hv : kd v = .inr 2) (hva : v ≠ a) (hFv : F v = none) (hvN : v < N0) (hin : vp_in i 9) (kk : Wk x cs sl pc' L S σ N0 (opn F a (some (.inr (fE n1))))) : Wk x cs sl pc L (.ref v :: .int i :: .ref a :: S) σ N0 (opn F a (some (.inr (fE n)))) := by
  refine k_aast (f := fE n) C pc' d hp opn_at ha hN0 hv ((opn_ne hva).trans hFv) hvN hin ?_
  subst hve
  rw [opn_opn, hi, fE_up, hn1]
  exact kk
theorem arrV_congr (cA : ClassId) (n : Nat) {f f' : Nat → Value} (h : ∀ j, j < n → f j = f' j) : arrV cA n f = arrV cA n f' := by
  have hs : (arrV cA n f).slots = (arrV cA n f').slots := by
    apply Array.ext (by rw [arrV_size, arrV_size])
    intro i h1 h2
    rw [arrV_size] at h1
    have e1 := arrV_read cA f h1
    have e2 := arrV_read cA f' h1
    rw [h i h1] at e1
    exact Option.some.inj ((Array.getElem?_eq_getElem _).symm.trans (e1.trans (e2.symm.trans (Array.getElem?_eq_getElem _))))
  have h1 : arrV cA n f = { cls := cA, slots := (arrV cA n f).slots } := rfl
  have h2 : arrV cA n f' = { cls := cA, slots := (arrV cA n f').slots } := rfl
  rw [h1, h2, hs]
theorem cellE (g : Gh) : vp_cell (gC g tNet) (9, .inr (.inr (.inr (.inr (fun j => (fE 9 j).map (gA g)))))) = vp_cell (gC g tNet) (9, .inr (.inr (.inr (.inr (fun j => some (gA g (83 + 14 * j))))))) := by
  rw [vp_cell_q, vp_cell_q]
  refine arrV_congr (gC g tNet) 9 (f := fun j => va_rf ((fE 9 j).map (gA g))) (f' := fun j => va_rf (some (gA g (83 + 14 * j)))) (fun j hj => ?_)
  have h : fE 9 j = some (83 + 14 * j) := if_pos hj
  show va_rf ((fE 9 j).map (gA g)) = va_rf (some (gA g (83 + 14 * j)))
  rw [h]
  rfl
/-- the row of the earlier networks is done -/
theorem k_doneE {x : Ctx} {own : String} {cc : ByteArray} {nL cs sl pc N0 : Nat} {F : Op} {L : List (Nat × Value)} {S : List Value} {σ : Mem} (C : Ck x own cc nL) (hF : F 43 = none) (hN : 43 < N0) (kk : Wk x cs sl pc L S σ N0 F) : Wk x cs sl pc L S σ N0 (opn F 43 (some (.inr (fE 9)))) := by
  obtain ⟨p, l, e, R, s, m, args, below, meth, c, g, QQ, c0, s0, nL'⟩ := x
  intro H locs ls hP hS hl
  refine kk H locs ls ⟨fun k q hq => ?_, hP.2⟩ hS hl
  have hkN : k < N0 := by rw [← wK_len g σ N0 F]; exact (List.getElem?_eq_some_iff.mp hq).1
  by_cases hk : k = 43
  · subst hk
    rw [wK_get g σ F hkN] at hq
    cases hq
    have h9 := hP.1 43 _ (wK_get g σ (opn F 43 (some (.inr (fE 9)))) hkN)
    rw [eK_inr opn_at] at h9
    rw [eK_none hF, ent, kd_43]
    have h8 : H[gA g 43]? = some (vp_cell (gC g tNet) (9, .inr (.inr (.inr (.inr (fun j => (fE 9 j).map (gA g))))))) := h9
    show H[gA g 43]? = some (vp_cell (gC g tNet) (9, .inr (.inr (.inr (.inr (fun j => some (gA g (83 + 14 * j))))))))
    rw [h8]
    exact congrArg some (cellE g)
  · have h9 := hP.1 k q
    rw [wK_get g σ _ hkN] at h9
    rw [wK_get g σ F hkN] at hq
    cases hq
    exact h9 (by rw [eK_congr g (F := F) (F' := opn F 43 (some (.inr (fE 9)))) (opn_ne hk) rfl rfl rfl])
