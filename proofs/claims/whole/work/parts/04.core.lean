/-! ===== the pool: all cells that a run makes, by their number; what they hold ===== -/
/-- ints (also booleans, characters), longs, doubles: cell, place -/
abbrev Mem : Type := (Nat → Nat → Int32) × (Nat → Nat → Int64) × (Nat → Nat → UInt64)
def wi (σ : Mem) (a k : Nat) (v : Int32) : Mem := (fun b j => if b = a then (if j = k then v else σ.1 b j) else σ.1 b j, σ.2)
def wl (σ : Mem) (a k : Nat) (v : Int64) : Mem := (σ.1, fun b j => if b = a then (if j = k then v else σ.2.1 b j) else σ.2.1 b j, σ.2.2)
def wd (σ : Mem) (a k : Nat) (v : UInt64) : Mem := (σ.1, σ.2.1, fun b j => if b = a then (if j = k then v else σ.2.2 b j) else σ.2.2 b j)
/-- a row of ints copied over another -/
def ci (σ : Mem) (a b sp dp n : Nat) : Mem := (fun c j => if c = b then va_cpy (σ.1 a) (σ.1 b) sp dp n j else σ.1 c j, σ.2)
def cl (σ : Mem) (a b sp dp n : Nat) : Mem := (σ.1, fun c j => if c = b then va_cpy (σ.2.1 a) (σ.2.1 b) sp dp n j else σ.2.1 c j, σ.2.2)
abbrev Kd : Type := (FieldType × Nat) ⊕ Nat
def kNet : List Kd := [.inr 2, .inl (.int, 7), .inl (.int, 10), .inl (.int, 10), .inl (.int, 10), .inl (.int, 10), .inl (.int, 10), .inl (.int, 10), .inl (.int, 10), .inl (.int, 10), .inl (.int, 10), .inl (.long, 10), .inl (.long, 10), .inl (.long, 10)]
def kShape : List Kd := [.inr 3, .inl (.int, 10), .inl (.int, 10), .inl (.int, 10), .inl (.int, 10), .inl (.int, 10), .inl (.int, 10), .inl (.int, 10), .inl (.boolean, 10)]
def kState : List Kd := [.inr 4, .inl (.int, 10), .inl (.int, 10), .inl (.int, 10), .inl (.int, 10), .inl (.int, 10), .inl (.int, 10), .inl (.int, 10), .inl (.long, 10), .inl (.long, 10), .inl (.long, 10), .inl (.long, 10), .inl (.long, 10)]
def kText : List Kd := [.inr 5, .inl (.char, 60), .inl (.char, 20), .inl (.int, 80)]
def kModel : List Kd := [.inr 7, .inl (.int, 108), .inl (.long, 34), .inl (.int, 864), .inl (.long, 272), .inl (.int, 108), .inl (.long, 34), .inl (.int, 108), .inl (.long, 34), .inl (.int, 60), .inl (.int, 10), .inl (.int, 10), .inl (.int, 10), .inl (.boolean, 10), .inl (.int, 10), .inl (.int, 10), .inl (.int, 10), .inl (.int, 10), .inl (.long, 10), .inl (.int, 10), .inl (.int, 10), .inl (.int, 10), .inl (.long, 10), .inl (.boolean, 10)]
abbrev tNet : FieldType := .object "HeatNetwork$Network"
def kAll : List Kd := [.inr 6] ++ (kNet ++ (kNet ++ (kNet ++ ([.inl (tNet, 9)] ++ (kShape ++ (kState ++ (kState ++ (kText ++ (kNet ++ (kNet ++ (kNet ++ (kNet ++ (kNet ++ (kNet ++ (kNet ++ (kNet ++ (kNet ++ (kModel ++ [.inl (.long, 1), .inl (.double, 1)]))))))))))))))))))
/-- what kind of cell a number is: an array of a type and a length, or an object of a class -/
def kd (i : Nat) : Kd := kAll.getD i (.inr 99)
def ofNet : List Nat := [1, 0, 2, 3, 4, 5, 6, 7, 8, 9, 10, 11, 12, 13, 0, 0, 0, 0]
def ofShape : List Nat := [1, 2, 0, 3, 4, 5, 6, 7, 0, 8]
def ofState : List Nat := [1, 2, 3, 4, 5, 6, 7, 8, 9, 10, 11, 12, 0, 0]
def ofText : List Nat := [1, 0, 0, 0, 2, 3]
def ofHeat : List Nat := [1, 15, 29, 43, 44, 53, 66, 79, 0, 0, 0, 0, 0, 0]
def ofModel : List Nat := [0, 1, 2, 3, 4, 0, 5, 6, 0, 7, 8, 9, 0, 0, 0, 0, 10, 11, 12, 13, 14, 15, 0, 16, 17, 18, 19, 20, 21, 22, 23, 0, 0]
/-- a field that refers: how far from its object the cell lies -/
def ofs (c k : Nat) : Nat := (match c with
  | 2 => ofNet
  | 3 => ofShape
  | 4 => ofState
  | 5 => ofText
  | 6 => ofHeat
  | _ => ofModel).getD k 0
def tyC (c : Nat) : Nat → FieldType := match c with
  | 2 => tyX0
  | 3 => tyX1
  | 4 => tyX2
  | 5 => tyX3
  | 6 => tyX4
  | _ => tyX5
def nfC (c : Nat) : Nat := match c with
  | 2 => 18
  | 3 => 10
  | 4 => 14
  | 5 => 6
  | 6 => 14
  | _ => 33
def kRef (t : FieldType) : Bool := match t with
  | .object _ => true
  | .array _ => true
  | _ => false
/-- the ghosts of a run: the numbers of classes and slots, of array classes, the addresses of the pool's cells, the first address that a run may write -/
abbrev Gh : Type := va_G × (FieldType → ClassId) × (Nat → Nat) × Nat
abbrev gD (g : Gh) : va_G := g.1
abbrev gC (g : Gh) : FieldType → ClassId := g.2.1
abbrev gA (g : Gh) : Nat → Nat := g.2.2.1
abbrev gB (g : Gh) : Nat := g.2.2.2
def AA (g : Gh) : Nat → Prop := fun q => gB g ≤ q
def rv (g : Gh) (v : Value) : Value := match v with
  | .ref i => .ref (gA g i)
  | v => v
def fvl (g : Gh) (σ : Mem) (i c k : Nat) : Value := match tyC c k with
  | .long => .long (σ.2.1 i k)
  | .object _ => .ref (gA g (i + ofs c k))
  | .array _ => .ref (gA g (i + ofs c k))
  | _ => .int (σ.1 i k)
def arr (g : Gh) (σ : Mem) (i : Nat) (ty : FieldType) : (Nat → Int32) ⊕ (Nat → Int64) ⊕ (Nat → UInt32) ⊕ (Nat → UInt64) ⊕ (Nat → Option Nat) := match ty with
  | .long => .inr (.inl (fun j => σ.2.1 i j))
  | .double => .inr (.inr (.inr (.inl (fun j => σ.2.2 i j))))
  | .object _ => .inr (.inr (.inr (.inr (fun j => some (gA g (83 + 14 * j))))))
  | _ => .inl (fun j => σ.1 i j)
def ent (g : Gh) (σ : Mem) (i : Nat) : va_E := match kd i with
  | .inl (ty, n) => .inl (gC g ty, n, arr g σ i ty)
  | .inr c => .inr (c, (List.range (nfC c)).map (fun k => fvl g σ i c k))
def world (g : Gh) (σ : Mem) : va_W := (List.range 235).map (fun i => (gA g i, ent g σ i))
def PM (g : Gh) (σ : Mem) (H : Heap) : Prop := va_P (gD g) vwCl (world g σ) H
def tysG (g : Gh) : List (ClassId × FieldType) := [(gC g .int, .int), (gC g .long, .long), (gC g .boolean, .boolean), (gC g .char, .char), (gC g .double, .double), (gC g tNet, tNet)]
def LV : List Int32 := [600, 0, -300, 0, 1, 0, 0]
def GV : List Int32 := [1200, 200, 300, 99, 999999999, 999, 99]
/-- the texts of the class's exceptions: constants of HeatNetwork -/
def strs : List (Nat × String) := [(76, "there is no such setting"), (83, "the value is out of range"), (378, "refused"), (381, "there is no such pipe"), (383, "there is no station at the node"), (392, "out of range"), (172, "the buffer is full"), (182, "the text has a fault"), (199, "nothing was refused"), (390, "there is no such node"), (388, "the node is not connected"), (278, "the part of the plant has no loop"), (286, "the loop has no such node"), (309, "there are no stations"), (348, "no heat is made"), (355, "no change is kept"), (357, "there is no snapshot")]
/-- words that a warming machine keeps, though they are none of the good ones -/
def nbWord (w : Cond) : Bool := match w with
  | .castable _ _ => true
  | .methodLinkNest _ _ _ _ => true
  | .declares _ => true
  | _ => false
def NB : List Cond := lw_tbl.filter nbWord
/-- classes that are not the other's -/
def NC : List (String × String) := [("java/lang/IllegalArgumentException", "java/lang/IndexOutOfBoundsException"), ("java/lang/IllegalArgumentException", "java/util/NoSuchElementException"), ("java/lang/UnsupportedOperationException", "java/lang/IllegalArgumentException"), ("java/lang/IllegalStateException", "java/lang/IllegalArgumentException")]
theorem nb_warm {w : Cond} (h : nbWord w = true) {s U : State} (hW : s.WarmedH U.vm) (hZ : va_Nw w s) : va_Nw w U := by
  cases w <;> first | exact va_Nw.warmC hW hZ | exact va_Nw.warmM hW hZ | exact va_Nw.warmD hW hZ | cases h
theorem nb_same {w : Cond} (h : nbWord w = true) {s U : State} (hv : s.vm = U.vm) (hZ : va_Nw w s) : va_Nw w U := by
  cases w <;> first | exact va_Nw.same rfl hv hZ | cases h
theorem nb_use {w : Cond} (h : nbWord w = true) {A : Array Value} {s : State} (hZ : va_Nw w s) : w.before A s = true := by
  cases w <;> first | exact va_Nw.use rfl hZ | cases h
/-- what the machine's tables and the cells that nobody writes say at a method's start -/
def KE (g : Gh) (U : State) : Prop :=
  va_K (gD g) vwCl (tysG g) U ∧ (∀ i j : Nat, i < 235 → j < 235 → gA g i = gA g j → i = j) ∧ (∀ i : Nat, i < 235 → gB g ≤ gA g i) ∧ gB g ≤ U.heap.size ∧
  (va_Z "HeatNetwork" "LEAST_VALUES" "[I" (.ref (gA g 1001)) (AA g) U U.heap ∧ va_T .int (gA g 1001) 7 (fun j => .int (LV.getD j 0)) (AA g) U U.heap) ∧
  (va_Z "HeatNetwork" "GREATEST_VALUES" "[I" (.ref (gA g 1002)) (AA g) U U.heap ∧ va_T .int (gA g 1002) 7 (fun j => .int (GV.getD j 0)) (AA g) U U.heap) ∧
  vx_Zq Bundle.tN "UNASSIGNED_STACK" Bundle.steD (AA g) U U.heap ∧ vx_Zq Bundle.tN "SUPPRESSED_SENTINEL" Bundle.listD (AA g) U U.heap ∧
  (∀ q ∈ strs, ∃ sa : Nat, vk_R "HeatNetwork" q.1 q.2 sa U) ∧ (∀ w ∈ NB, va_Nw w U) ∧ (∀ q ∈ NC, va_Nc q.1 q.2 U)
theorem KE.to {g : Gh} {u U : State} (hW : u.WarmedH U.vm) (hz : u.heap.size ≤ U.heap.size) (hk : ∀ a : Nat, a < u.heap.size → ¬ AA g a → U.heap[a]? = u.heap[a]?) (h : KE g u) : KE g U := by
  obtain ⟨h1, h2, h3, h4, ⟨h5, h6⟩, ⟨h7, h8⟩, h9, h10, h11, h12, h13⟩ := h
  have ha := hW.alike
  exact ⟨h1.moved ha, h2, h3, Nat.le_trans h4 hz, ⟨(h5.moved ha).kept hk, (h6.moved ha).kept hk⟩, ⟨(h7.moved ha).kept hk, (h8.moved ha).kept hk⟩, (h9.moved ha).kept hk, (h10.moved ha).kept hk, fun q hq => by
    obtain ⟨sa, hs⟩ := h11 q hq
    exact ⟨sa, hs.warm hW⟩, fun w hw => nb_warm (List.mem_filter.mp hw).2 hW (h12 w hw), fun q hq => (h13 q hq).moved ha⟩
theorem KE.calling {g : Gh} {U : State} (f : JFrame) (mk : MethodId) (a : Array Value) (h : KE g U) : KE g (U.calling f mk a) := by
  obtain ⟨h1, h2, h3, h4, ⟨h5, h6⟩, ⟨h7, h8⟩, h9, h10, h11, h12, h13⟩ := h
  have ha : U.vm.Alike (U.calling f mk a).vm := Vm.Alike.refl U.vm
  exact ⟨h1.moved ha, h2, h3, h4, ⟨h5.moved ha, h6.moved ha⟩, ⟨h7.moved ha, h8.moved ha⟩, h9.moved ha, h10.moved ha, fun q hq => by
    obtain ⟨sa, hs⟩ := h11 q hq
    exact ⟨sa, hs.same (U := U.calling f mk a) rfl⟩, fun w hw => nb_same (s := U) (U := U.calling f mk a) (List.mem_filter.mp hw).2 rfl (h12 w hw), fun q hq => (h13 q hq).moved ha⟩
theorem kd_lt {i : Nat} {v : Kd} (h : kd i = v) (hv : v ≠ .inr 99) : i < 235 := by
  rcases Nat.lt_or_ge i 235 with h1 | h1
  · exact h1
  · exfalso
    apply hv
    rw [← h]
    unfold kd
    rw [List.getD_eq_getElem?_getD, List.getElem?_eq_none (by show kAll.length ≤ i; exact h1)]
    rfl
theorem world_get (g : Gh) (σ : Mem) {i : Nat} (h : i < 235) : (world g σ)[i]? = some (gA g i, ent g σ i) := by
  simp [world, h]
theorem world_len (g : Gh) (σ : Mem) : (world g σ).length = 235 := by simp [world]
theorem world_arr (g : Gh) (σ : Mem) {i n : Nat} {ty : FieldType} (h : kd i = .inl (ty, n)) : (world g σ)[i]? = some (gA g i, .inl (gC g ty, n, arr g σ i ty)) := by
  rw [world_get g σ (kd_lt h (fun q => by cases q))]
  simp only [ent, h]
theorem world_obj (g : Gh) (σ : Mem) {i c : Nat} (h : kd i = .inr c) (hc : c < 99) : (world g σ)[i]? = some (gA g i, .inr (c, (List.range (nfC c)).map (fun k => fvl g σ i c k))) := by
  rw [world_get g σ (kd_lt h (fun q => by cases q; omega))]
  simp only [ent, h]
theorem world_set (g : Gh) {σ σ' : Mem} {a : Nat} {e : va_E} (ha : a < 235) (h : ∀ j, j ≠ a → ent g σ' j = ent g σ j) (he : ent g σ' a = e) : (world g σ).set a (gA g a, e) = world g σ' := by
  apply List.ext_getElem?
  intro j
  rw [List.getElem?_set]
  by_cases hj : j < 235
  · rw [world_get g σ' hj]
    by_cases hja : a = j
    · subst hja
      rw [if_pos rfl, world_len, if_pos ha, he]
    · rw [if_neg hja, world_get g σ hj, h j (fun q => hja q.symm)]
  · rw [List.getElem?_eq_none (by rw [world_len]; omega), List.getElem?_eq_none (by rw [world_len]; omega), if_neg (by omega)]
theorem ent_congr (g : Gh) {σ σ' : Mem} {i : Nat} (h1 : σ.1 i = σ'.1 i) (h2 : σ.2.1 i = σ'.2.1 i) (h3 : σ.2.2 i = σ'.2.2 i) : ent g σ i = ent g σ' i := by
  unfold ent arr fvl
  rw [h1, h2, h3]
theorem ent_wi (g : Gh) (σ : Mem) {a k j : Nat} {v : Int32} (h : j ≠ a) : ent g (wi σ a k v) j = ent g σ j :=
  ent_congr g (by funext i; simp [wi, h]) rfl rfl
theorem ent_wl (g : Gh) (σ : Mem) {a k j : Nat} {v : Int64} (h : j ≠ a) : ent g (wl σ a k v) j = ent g σ j :=
  ent_congr g rfl (by funext i; simp [wl, h]) rfl
theorem ent_wd (g : Gh) (σ : Mem) {a k j : Nat} {v : UInt64} (h : j ≠ a) : ent g (wd σ a k v) j = ent g σ j :=
  ent_congr g rfl rfl (by funext i; simp [wd, h])
theorem ent_ci (g : Gh) (σ : Mem) {a b sp dp n j : Nat} (h : j ≠ b) : ent g (ci σ a b sp dp n) j = ent g σ j :=
  ent_congr g (by funext i; simp [ci, h]) rfl rfl
theorem ent_cl (g : Gh) (σ : Mem) {a b sp dp n j : Nat} (h : j ≠ b) : ent g (cl σ a b sp dp n) j = ent g σ j :=
  ent_congr g rfl (by funext i; simp [cl, h]) rfl
def tyI (ty : FieldType) : Bool := match ty with
  | .int => true
  | .boolean => true
  | .char => true
  | _ => false
theorem arr_I (g : Gh) (σ : Mem) (i : Nat) {ty : FieldType} (h : tyI ty = true) : arr g σ i ty = .inl (fun j => σ.1 i j) := by
  cases ty <;> first | rfl | cases h
theorem world_wi (g : Gh) (σ : Mem) {a n k : Nat} {v : Int32} {ty : FieldType} (h : kd a = .inl (ty, n)) (ht : tyI ty = true) : (world g σ).set a (gA g a, .inl (gC g ty, n, .inl (upd (fun j => σ.1 a j) k v))) = world g (wi σ a k v) := by
  refine world_set g (kd_lt h (fun q => by cases q)) (fun j hj => ent_wi g σ hj) ?_
  simp only [ent, h]
  rw [arr_I g _ a ht]
  have : (fun j => (wi σ a k v).1 a j) = upd (fun j => σ.1 a j) k v := by funext j; simp [wi, upd]
  rw [this]
theorem world_wl (g : Gh) (σ : Mem) {a n k : Nat} {v : Int64} (h : kd a = .inl (.long, n)) : (world g σ).set a (gA g a, .inl (gC g .long, n, .inr (.inl (vp_updL (fun j => σ.2.1 a j) k v)))) = world g (wl σ a k v) := by
  refine world_set g (kd_lt h (fun q => by cases q)) (fun j hj => ent_wl g σ hj) ?_
  simp only [ent, h, arr]
  have : (fun j => (wl σ a k v).2.1 a j) = vp_updL (fun j => σ.2.1 a j) k v := by funext j; simp [wl, vp_updL]
  rw [this]
theorem world_wd (g : Gh) (σ : Mem) {a n k : Nat} {v : UInt64} (h : kd a = .inl (.double, n)) : (world g σ).set a (gA g a, .inl (gC g .double, n, .inr (.inr (.inr (.inl (vf_upd (fun j => σ.2.2 a j) k v)))))) = world g (wd σ a k v) := by
  refine world_set g (kd_lt h (fun q => by cases q)) (fun j hj => ent_wd g σ hj) ?_
  simp only [ent, h, arr]
  have : (fun j => (wd σ a k v).2.2 a j) = vf_upd (fun j => σ.2.2 a j) k v := by funext j; simp [wd, vf_upd]
  rw [this]
theorem world_ci (g : Gh) (σ : Mem) {a b n sp dp m : Nat} (h : kd b = .inl (.int, n)) : (world g σ).set b (gA g b, .inl (gC g .int, n, .inl (va_cpy (fun j => σ.1 a j) (fun j => σ.1 b j) sp dp m))) = world g (ci σ a b sp dp m) := by
  refine world_set g (kd_lt h (fun q => by cases q)) (fun j hj => ent_ci g σ hj) ?_
  simp only [ent, h, arr]
  have : (fun j => (ci σ a b sp dp m).1 b j) = va_cpy (fun j => σ.1 a j) (fun j => σ.1 b j) sp dp m := by funext j; simp [ci]
  rw [this]
theorem world_cl (g : Gh) (σ : Mem) {a b n sp dp m : Nat} (h : kd b = .inl (.long, n)) : (world g σ).set b (gA g b, .inl (gC g .long, n, .inr (.inl (va_cpy (fun j => σ.2.1 a j) (fun j => σ.2.1 b j) sp dp m)))) = world g (cl σ a b sp dp m) := by
  refine world_set g (kd_lt h (fun q => by cases q)) (fun j hj => ent_cl g σ hj) ?_
  simp only [ent, h, arr]
  have : (fun j => (cl σ a b sp dp m).2.1 b j) = va_cpy (fun j => σ.2.1 a j) (fun j => σ.2.1 b j) sp dp m := by funext j; simp [cl]
  rw [this]
theorem range_set {α : Type} (f f' : Nat → α) (N k : Nat) (v : α) (hk : k < N) (h : ∀ j, j ≠ k → f' j = f j) (hv : f' k = v) : ((List.range N).map f).set k v = (List.range N).map f' := by
  apply List.ext_getElem?
  intro j
  rw [List.getElem?_set]
  by_cases hj : j < N
  · by_cases hjk : k = j
    · subst hjk; simp [hk, hv]
    · simp [hjk, hj, h j (fun q => hjk q.symm)]
  · rw [if_neg (by omega)]
    simp [hj]
theorem world_fi (g : Gh) (σ : Mem) {a c k : Nat} {v : Int32} (h : kd a = .inr c) (hc : c < 99) (hk : k < nfC c) (ht : tyI (tyC c k) = true) : (world g σ).set a (gA g a, .inr (c, ((List.range (nfC c)).map (fun k => fvl g σ a c k)).set k (.int v))) = world g (wi σ a k v) := by
  refine world_set g (kd_lt h (fun q => by cases q; omega)) (fun j hj => ent_wi g σ hj) ?_
  simp only [ent, h]
  have h1 : ∀ j, j ≠ k → fvl g (wi σ a k v) a c j = fvl g σ a c j := fun j hj => by
    unfold fvl
    cases tyC c j <;> first | rfl | (simp [wi, hj])
  have h2 : fvl g (wi σ a k v) a c k = .int v := by
    unfold fvl
    revert ht
    cases tyC c k <;> intro ht <;> first | (simp [wi]; done) | cases ht
  rw [range_set (fun k => fvl g σ a c k) (fun j => fvl g (wi σ a k v) a c j) (nfC c) k (.int v) hk h1 h2]
theorem world_fl (g : Gh) (σ : Mem) {a c k : Nat} {v : Int64} (h : kd a = .inr c) (hc : c < 99) (hk : k < nfC c) (ht : tyC c k = .long) : (world g σ).set a (gA g a, .inr (c, ((List.range (nfC c)).map (fun k => fvl g σ a c k)).set k (.long v))) = world g (wl σ a k v) := by
  refine world_set g (kd_lt h (fun q => by cases q; omega)) (fun j hj => ent_wl g σ hj) ?_
  simp only [ent, h]
  have h1 : ∀ j, j ≠ k → fvl g (wl σ a k v) a c j = fvl g σ a c j := fun j hj => by
    unfold fvl
    cases tyC c j <;> first | rfl | (simp [wl, hj])
  have h2 : fvl g (wl σ a k v) a c k = .long v := by
    unfold fvl
    rw [ht]
    simp [wl]
  rw [range_set (fun k => fvl g σ a c k) (fun j => fvl g (wl σ a k v) a c j) (nfC c) k (.long v) hk h1 h2]
theorem world_D {g : Gh} {U : State} (h : KE g U) (σ : Mem) : va_D (AA g) (world g σ) := by
  obtain ⟨-, h2, h3, -⟩ := h
  refine ⟨fun i j p q hi hj e => ?_, fun k q hk => ?_⟩
  · have li : i < 235 := by rw [← world_len g σ]; exact (List.getElem?_eq_some_iff.mp hi).1
    have lj : j < 235 := by rw [← world_len g σ]; exact (List.getElem?_eq_some_iff.mp hj).1
    rw [world_get g σ li] at hi
    rw [world_get g σ lj] at hj
    cases hi; cases hj
    exact h2 i j li lj e
  · have li : k < 235 := by rw [← world_len g σ]; exact (List.getElem?_eq_some_iff.mp hk).1
    rw [world_get g σ li] at hk
    cases hk
    exact h3 k li
/-! ===== the frame of a method, and the judgement over the pool ===== -/
abbrev Ctx : Type := Program × Launch × Env × Room × State × MethodId × Array Value × List Frame × Method × Code × Gh × (State → Prop) × Nat × Nat × Nat
def mapL (g : Gh) (L : List (Nat × Value)) : List (Nat × Value) := L.map (fun q => (q.1, rv g q.2))
/-- from pc on, with these locals, stack and pool, the method's frame comes to its end as owed; n: how many exceptions may have been made -/
def Ws (x : Ctx) (n pc : Nat) (L : List (Nat × Value)) (S : List Value) (σ : Mem) : Prop := match x with
  | (p, l, e, R, s, m, args, below, meth, c, g, QQ, c0, s0, nL) => ∀ (H : Heap) (locs : List Loc) (ls : Array Slot), PM g σ H → va_S (AA g) s.heap H locs → lv_has ls nL (mapL g L) → W p l e R s m args below meth c H locs (c0 + n) (s0 + 6 * n) QQ (F0 m pc ls (S.map (rv g)))
/-- what a method's start gives: own class, bytes -/
def Cx (x : Ctx) (own : String) (cc : ByteArray) (nL' : Nat) : Prop := match x with
  | (p, l, e, R, s, m, args, below, meth, c, g, QQ, c0, s0, nL) => p.tables.exec = Jvm.exec ∧ c.code = cc ∧ c.maxLocals = nL ∧ s.vm.findClass own = some m.cls ∧ (∀ w ∈ TB, w.before args s = true) ∧ KE g s ∧ meth.locks = false ∧ l.stackTraces = false ∧ nL = nL'
theorem rv_cat (g : Gh) (v : Value) : (rv g v).category = v.category := by cases v <;> rfl
theorem lk_has {g : Gh} {ls : Array Slot} {nL : Nat} {L : List (Nat × Value)} (h : lv_has ls nL (mapL g L)) {i : Nat} {v : Value} (hm : (i, v) ∈ L) : ls[i]? = some (.val (rv g v)) :=
  h.2.2 (i, rv g v) (List.mem_map.mpr ⟨(i, v), hm, rfl⟩)
def st1 (L : List (Nat × Value)) (i : Nat) (v : Value) : List (Nat × Value) := (i, v) :: L.filter (fun q => !(q.1 == i) && !(q.1 + 1 == i && q.2.category == 2))
def st2 (L : List (Nat × Value)) (i : Nat) (v : Value) : List (Nat × Value) := (i, v) :: L.filter (fun q => !(q.1 == i) && (!(q.1 == i + 1) && !(q.1 + 1 == i && q.2.category == 2)))
theorem mapL_st1 (g : Gh) (L : List (Nat × Value)) (i : Nat) (v : Value) : (i, rv g v) :: (mapL g L).filter (fun q => !(q.1 == i) && !(q.1 + 1 == i && q.2.category == 2)) = mapL g (st1 L i v) := by
  simp only [mapL, st1, List.map_cons, List.filter_map]
  congr 2
  apply List.filter_congr
  intro q _
  simp [rv_cat]
theorem mapL_st2 (g : Gh) (L : List (Nat × Value)) (i : Nat) (v : Value) : (i, rv g v) :: (mapL g L).filter (fun q => !(q.1 == i) && (!(q.1 == i + 1) && !(q.1 + 1 == i && q.2.category == 2))) = mapL g (st2 L i v) := by
  simp only [mapL, st2, List.map_cons, List.filter_map]
  congr 2
  apply List.filter_congr
  intro q _
  simp [rv_cat]
/-- fewer locals, in any order -/
theorem Ws_sub {x : Ctx} {n pc : Nat} {L L' : List (Nat × Value)} {S : List Value} {σ : Mem} (h : ∀ q ∈ L', q ∈ L) (k : Ws x n pc L' S σ) : Ws x n pc L S σ := by
  obtain ⟨p, l, e, R, s, m, args, below, meth, c, g, QQ, c0, s0, nL⟩ := x
  intro H locs ls hP hS hl
  refine k H locs ls hP hS ⟨hl.1, hl.2.1, fun q hq => ?_⟩
  obtain ⟨q', h1, h2⟩ := List.mem_map.mp hq
  exact hl.2.2 q (List.mem_map.mpr ⟨q', h q' h1, h2⟩)
