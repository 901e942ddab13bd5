/-! ===== sets of nodes as bits ===== -/
def bi (x : Int32) (i : Nat) : Bool := x.toBitVec.getLsbD i
/-- the word x is the set S -/
def Bs (x : Int32) (S : Nat → Bool) : Prop := ∀ i, bi x i = (decide (i < 10) && S i)
theorem bi_or (x y : Int32) (i : Nat) : bi (x ||| y) i = (bi x i || bi y i) := by unfold bi; rw [Int32.toBitVec_or, BitVec.getLsbD_or]
theorem bi_and (x y : Int32) (i : Nat) : bi (x &&& y) i = (bi x i && bi y i) := by unfold bi; rw [Int32.toBitVec_and, BitVec.getLsbD_and]
theorem bi_ext {x y : Int32} (h : ∀ i, bi x i = bi y i) : x = y := by
  apply Int32.toBitVec_inj.1
  apply BitVec.eq_of_getLsbD_eq
  intro i _
  exact h i
theorem bi_0 (i : Nat) : bi 0 i = false := by
  unfold bi
  show (0#32).getLsbD i = false
  exact BitVec.getLsbD_zero
theorem bi_sh (n : Nat) (hn : n < 10) (i : Nat) : bi ((1 : Int32) <<< (nI n &&& 31)) i = decide (i = n) := by
  have e : ((1 : Int32) <<< (nI n &&& 31)).toBitVec = BitVec.twoPow 32 n := (by decide +kernel : ∀ n, n < 10 → ((1 : Int32) <<< (nI n &&& 31)).toBitVec = BitVec.twoPow 32 n) n hn
  unfold bi
  rw [e, BitVec.getLsbD_twoPow]
  by_cases c : i = n
  · rw [c]; simp; omega
  · have c' : ¬ n = i := fun q => c q.symm
    simp [c, c']
theorem Bs.eq {x y : Int32} {S : Nat → Bool} (h : Bs x S) (k : Bs y S) : x = y := bi_ext (fun i => by rw [h i, k i])
theorem Bs.or {x y : Int32} {S T : Nat → Bool} (h : Bs x S) (k : Bs y T) : Bs (x ||| y) (fun i => S i || T i) := fun i => by
  rw [bi_or, h i, k i]
  cases decide (i < 10) <;> simp
theorem Bs.one {n : Nat} (hn : n < 10) : Bs ((1 : Int32) <<< (nI n &&& 31)) (fun i => decide (i = n)) := fun i => by
  rw [bi_sh n hn]
  by_cases c : i = n
  · simp [c, hn]
  · simp [c]
theorem Bs.and0 {x y : Int32} {S T : Nat → Bool} (h : Bs x S) (k : Bs y T) : (x &&& y = 0) ↔ ∀ i, i < 10 → ¬ (S i = true ∧ T i = true) := by
  constructor
  · intro e i hi
    have := bi_0 i
    rw [← e, bi_and, h i, k i] at this
    simp [hi] at this
    intro ⟨a, b⟩
    rw [this a] at b
    cases b
  · intro q
    apply bi_ext
    intro i
    rw [bi_and, h i, k i, bi_0]
    by_cases c : i < 10
    · have := q i c
      cases hs : S i <;> cases ht : T i <;> simp [c, hs, ht]
      exact absurd ⟨hs, ht⟩ this
    · simp [c]
theorem Bs.congr {x : Int32} {S T : Nat → Bool} (h : Bs x S) (e : ∀ i, i < 10 → S i = T i) : Bs x T := fun i => by
  rw [h i]
  by_cases c : i < 10
  · rw [e i c]
  · simp [c]
theorem Bs.inj {x : Int32} {S T : Nat → Bool} (h : Bs x S) (k : Bs x T) {i : Nat} (hi : i < 10) : S i = T i := by
  have := h i
  rw [k i] at this
  simpa [hi] using this.symm
/-- the number of bits, as the JDK counts them -/
def bcF (p0 : Int32) : Int32 :=
  let v9 := (p0 - (((p0).toUInt32 >>> ((1 : Int32).toUInt32 &&& Int32.toUInt32 31)).toInt32 &&& 1431655765))
  let v23 := ((v9 &&& 858993459) + (((v9).toUInt32 >>> ((2 : Int32).toUInt32 &&& Int32.toUInt32 31)).toInt32 &&& 858993459))
  let v33 := ((v23 + ((v23).toUInt32 >>> ((4 : Int32).toUInt32 &&& Int32.toUInt32 31)).toInt32) &&& 252645135)
  let v40 := (v33 + ((v33).toUInt32 >>> ((8 : Int32).toUInt32 &&& Int32.toUInt32 31)).toInt32)
  let v47 := (v40 + ((v40).toUInt32 >>> ((16 : Int32).toUInt32 &&& Int32.toUInt32 31)).toInt32)
  v47 &&& 63
set_option maxRecDepth 20000 in
theorem bcF_all : ∀ k, k < 1024 → bcF (nI k) = nI (ctB (fun i => Nat.testBit k i) 10) := by decide +kernel
theorem Bs.cnt {x : Int32} {S : Nat → Bool} (h : Bs x S) : bcF x = nI (ctB S 10) := by
  have e : x = nI x.toBitVec.toNat := by
    apply Int32.toBitVec_inj.1
    show x.toBitVec = BitVec.ofNat 32 x.toBitVec.toNat
    rw [BitVec.ofNat_toNat, BitVec.setWidth_eq]
  have hb : ∀ i, Nat.testBit x.toBitVec.toNat i = (decide (i < 10) && S i) := fun i => by
    have := h i
    unfold bi at this
    rw [← this]
    exact (BitVec.testBit_toNat x.toBitVec)
  have hl : x.toBitVec.toNat < 2 ^ 10 := Nat.lt_pow_two_of_testBit _ (fun i hi => by
    rw [hb]; simp; intro q; omega)
  rw [e, bcF_all _ hl]
  congr 1
  refine ctB_congr (fun i hi => ?_)
  rw [hb]; simp [hi]
theorem ctB_filter (f : Nat → Bool) : ∀ n, ((List.range n).filter f).length = ctB f n
  | 0 => rfl
  | n + 1 => by
    rw [List.range_succ, List.filter_append, List.length_append, ctB_filter f n]
    show _ = ctB f n + _
    by_cases c : f n = true
    · rw [if_pos c, List.filter_cons_of_pos c]; rfl
    · rw [if_neg c, List.filter_cons_of_neg c]; rfl
theorem ctB_nds {L : List Rec} : ctB (fun n => decide (n ∈ nds L)) 10 ≤ (nds L).length := by
  rw [← ctB_filter]
  refine nodup_sub _ _ ?_ (fun n hn => ?_)
  · exact List.Pairwise.filter _ List.nodup_range
  · exact decide_eq_true_iff.mp (List.mem_filter.mp hn).2
/-- nodes and pipes of the part that a new pipe makes -/
def ndsA (g : Gr) (u v : Nat) : Nat := ctB (fun n => decide (n ∈ nds (bfs (addG g u v) u))) 10
def pipA (g : Gr) (u v : Nat) : Nat := ctB (fun p => decide ((addG g u v).2.1 p ∈ nds (bfs (addG g u v) u))) (g.1 + 1)
theorem add_own' {g : Gr} (ho : Own g) {u v : Nat} (hg : WG (addG g u v)) (hu : u < 10) (hc : pipA g u v ≤ ndsA g u v) : Own (addG g u v) := by
  refine add_own ho hg (bfs_tre hg hu) ?_
  have h1 := ctB_filter (fun p => decide ((addG g u v).2.1 p ∈ nds (bfs (addG g u v) u))) (g.1 + 1)
  have h2 := ctB_nds (L := bfs (addG g u v) u)
  unfold pipA ndsA at hc
  omega
/-- both parts together -/
theorem add_nds {g : Gr} {u v : Nat} (hg : WG g) (h10 : g.1 < 10) (hu : u < 10) (hv : v < 10) (hne : u ≠ v) (n : Nat) : n ∈ nds (bfs (addG g u v) u) ↔ n ∈ nds (bfs g u) ∨ n ∈ nds (bfs g v) := by
  rw [(bfs_tre (add_wg hg h10 hu hv hne) hu).rch, (bfs_tre hg hu).rch, (bfs_tre hg hv).rch]
  exact add_rch
/-- the reason for which a pipe is refused, 0: none -/
def prN (g : Gr) (u v l r : Int32) : Nat :=
  if ¬ ((¬ u < 0 ∧ ¬ 9 < u) ∧ (¬ v < 0 ∧ ¬ 9 < v)) then 1
  else if ¬ ((¬ l < 1 ∧ ¬ 99 < l) ∧ (¬ r < 1 ∧ ¬ 9 < r)) then 2
  else if u = v ∨ (List.range g.1).any (fun p => decide (ac g p u.toNatClampNeg = some v.toNatClampNeg)) = true then 3
  else if g.1 = 10 then 4
  else if pipA g u.toNatClampNeg v.toNatClampNeg ≤ ndsA g u.toNatClampNeg v.toNatClampNeg then 0
  else 5
