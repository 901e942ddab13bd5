/-! ===== the loop: how many nodes, the nodes, the pipes ===== -/
abbrev Lp : Type := Nat × (Nat → Nat) × (Nat → Nat)
def nxt (c : Lp) (i : Nat) : Nat := if i + 1 = c.1 then 0 else i + 1
def inN (c : Lp) (n : Nat) : Prop := ∃ i, i < c.1 ∧ c.2.1 i = n
/-- in the loop, but not where it begins -/
def inT (c : Lp) (n : Nat) : Prop := ∃ i, 0 < i ∧ i < c.1 ∧ c.2.1 i = n
def inQ (c : Lp) (p : Nat) : Prop := ∃ i, i < c.1 ∧ c.2.2 i = p
def LP0 (g : Gr) (L : List Rec) (c : Lp) : Prop :=
  (∀ i j, i < c.1 → j < c.1 → c.2.1 i = c.2.1 j → i = j) ∧
  (∀ i, i < c.1 → c.2.2 i < g.1 ∧ ac g (c.2.2 i) (c.2.1 i) = some (c.2.1 (nxt c i))) ∧
  (c.1 = 0 ∨ 3 ≤ c.1) ∧
  (∀ i, i < c.1 → c.2.1 i ∈ nds L) ∧
  (∀ i, 0 < i → i < c.1 → di L (c.2.1 0) < di L (c.2.1 i)) ∧
  (∀ p, p < g.1 → g.2.1 p ∈ nds L → ¬ inQ c p → ∃ n, n ∈ nds L ∧ n ≠ 0 ∧ fp L n = p ∧ ¬ inT c n) ∧
  (∀ n, n ∈ nds L → n ≠ 0 → ¬ inT c n → ¬ inQ c (fp L n))
/-- the loop, in the direction that the document says -/
def LPo (g : Gr) (L : List Rec) (c : Lp) : Prop := LP0 g L c ∧ (c.1 = 0 ∨ c.2.1 1 < c.2.1 (c.1 - 1))
def rvL (c : Lp) : Lp := (c.1, fun i => if i = 0 then c.2.1 0 else c.2.1 (c.1 - i), fun i => c.2.2 (c.1 - 1 - i))
theorem inT_rv (c : Lp) (n : Nat) : inT (rvL c) n ↔ inT c n := by
  constructor
  · rintro ⟨i, h0, h1, h2⟩
    have h1 : i < c.1 := h1
    have h2 : (if i = 0 then c.2.1 0 else c.2.1 (c.1 - i)) = n := h2
    rw [if_neg (by omega)] at h2
    exact ⟨c.1 - i, by omega, by omega, h2⟩
  · rintro ⟨i, h0, h1, h2⟩
    refine ⟨c.1 - i, by omega, by show c.1 - i < c.1; omega, ?_⟩
    show (if c.1 - i = 0 then c.2.1 0 else c.2.1 (c.1 - (c.1 - i))) = n
    rw [if_neg (by omega), show c.1 - (c.1 - i) = i by omega, h2]
theorem inQ_rv (c : Lp) (n : Nat) : inQ (rvL c) n ↔ inQ c n := by
  constructor
  · rintro ⟨i, h1, h2⟩
    have h1 : i < c.1 := h1
    exact ⟨c.1 - 1 - i, by omega, h2⟩
  · rintro ⟨i, h1, h2⟩
    refine ⟨c.1 - 1 - i, by show c.1 - 1 - i < c.1; omega, ?_⟩
    show c.2.2 (c.1 - 1 - (c.1 - 1 - i)) = n
    rw [show c.1 - 1 - (c.1 - 1 - i) = i by omega, h2]
theorem LP0.rv {g : Gr} {L : List Rec} {c : Lp} (h : LP0 g L c) : LP0 g L (rvL c) := by
  obtain ⟨h1, h2, h3, h4, h5, h6, h7⟩ := h
  have e1 : (rvL c).1 = c.1 := rfl
  have e2 : ∀ i, (rvL c).2.1 i = if i = 0 then c.2.1 0 else c.2.1 (c.1 - i) := fun _ => rfl
  have e3 : ∀ i, (rvL c).2.2 i = c.2.2 (c.1 - 1 - i) := fun _ => rfl
  refine ⟨fun i j hi hj e => ?_, fun i hi => ?_, h3, fun i hi => ?_, fun i h0 hi => ?_, fun p hp hc hq => ?_, fun n hn h0 ht => ?_⟩
  · rw [e1] at hi hj
    rw [e2, e2] at e
    by_cases ci : i = 0
    · by_cases cj : j = 0
      · omega
      · rw [if_pos ci, if_neg cj] at e
        have := h1 _ _ (by omega) (by omega) e
        omega
    · by_cases cj : j = 0
      · rw [if_neg ci, if_pos cj] at e
        have := h1 _ _ (by omega) (by omega) e
        omega
      · rw [if_neg ci, if_neg cj] at e
        have := h1 _ _ (by omega) (by omega) e
        omega
  · rw [e1] at hi
    obtain ⟨a, b⟩ := h2 (c.1 - 1 - i) (by omega)
    rw [e3, e2, e2]
    refine ⟨a, ac_sym ?_⟩
    have n1 : nxt (rvL c) i = if i + 1 = c.1 then 0 else i + 1 := rfl
    have n2 : nxt c (c.1 - 1 - i) = if c.1 - 1 - i + 1 = c.1 then 0 else c.1 - 1 - i + 1 := rfl
    rw [n2] at b
    rw [n1]
    have x1 : (if (if i + 1 = c.1 then 0 else i + 1) = 0 then c.2.1 0 else c.2.1 (c.1 - (if i + 1 = c.1 then 0 else i + 1))) = c.2.1 (c.1 - 1 - i) := by
      by_cases ci : i + 1 = c.1
      · rw [if_pos ci, if_pos rfl, show c.1 - 1 - i = 0 by omega]
      · rw [if_neg ci, if_neg (by omega), show c.1 - (i + 1) = c.1 - 1 - i by omega]
    have x2 : (if i = 0 then c.2.1 0 else c.2.1 (c.1 - i)) = c.2.1 (if c.1 - 1 - i + 1 = c.1 then 0 else c.1 - 1 - i + 1) := by
      by_cases ci : i = 0
      · rw [if_pos ci, if_pos (by omega)]
      · rw [if_neg ci, if_neg (by omega), show c.1 - i = c.1 - 1 - i + 1 by omega]
    rw [x1, x2]
    exact b
  · rw [e1] at hi
    rw [e2]
    by_cases ci : i = 0
    · rw [if_pos ci]; exact h4 0 (by omega)
    · rw [if_neg ci]; exact h4 _ (by omega)
  · rw [e1] at hi
    rw [e2, e2, if_pos rfl, if_neg (by omega)]
    exact h5 _ (by omega) (by omega)
  · obtain ⟨n, a, b, d, e⟩ := h6 p hp hc (fun q => hq ((inQ_rv c p).mpr q))
    exact ⟨n, a, b, d, fun q => e ((inT_rv c n).mp q)⟩
  · exact fun q => h7 n hn h0 (fun w => ht ((inT_rv c n).mpr w)) ((inQ_rv c _).mp q)
/-- one of both directions is the right one -/
theorem LP0.orient {g : Gr} {L : List Rec} {c : Lp} (h : LP0 g L c) : LPo g L c ∨ LPo g L (rvL c) := by
  rcases h.2.2.1 with h3 | h3
  · exact .inl ⟨h, .inl h3⟩
  · by_cases q : c.2.1 1 < c.2.1 (c.1 - 1)
    · exact .inl ⟨h, .inr q⟩
    · refine .inr ⟨h.rv, .inr ?_⟩
      show (if (1 : Nat) = 0 then c.2.1 0 else c.2.1 (c.1 - 1)) < (if c.1 - 1 = 0 then c.2.1 0 else c.2.1 (c.1 - (c.1 - 1)))
      rw [if_neg (by omega), if_neg (by omega), show c.1 - (c.1 - 1) = 1 by omega]
      have : c.2.1 1 ≠ c.2.1 (c.1 - 1) := fun e => by
        have := h.1 _ _ (by omega) (by omega) e
        omega
      omega
theorem LP0.none {g : Gr} {L : List Rec} (f1 f2 : Nat → Nat) (h : ∀ p, p < g.1 → g.2.1 p ∈ nds L → ∃ n, n ∈ nds L ∧ n ≠ 0 ∧ fp L n = p) : LPo g L (0, f1, f2) := by
  refine ⟨⟨fun i j hi => absurd hi (Nat.not_lt_zero i), fun i hi => absurd hi (Nat.not_lt_zero i), .inl rfl, fun i hi => absurd hi (Nat.not_lt_zero i), fun i _ hi => absurd hi (Nat.not_lt_zero i), fun p hp hc _ => ?_, ?_⟩, .inl rfl⟩
  · obtain ⟨n, a, b, d⟩ := h p hp hc
    exact ⟨n, a, b, d, fun ⟨i, _, hi, _⟩ => absurd hi (Nat.not_lt_zero i)⟩
  · intro n _ _ _ ⟨i, hi, _⟩
    exact absurd hi (Nat.not_lt_zero i)
theorem LP0.pinj {g : Gr} {L : List Rec} {c : Lp} (h : LP0 g L c) {i j : Nat} (hi : i < c.1) (hj : j < c.1) (e : c.2.2 i = c.2.2 j) : i = j := by
  obtain ⟨h1, h2, h3, -⟩ := h
  have a := (h2 i hi).2
  have b := (h2 j hj).2
  rw [e] at a
  have ni : nxt c i < c.1 := by unfold nxt; split <;> omega
  have nj : nxt c j < c.1 := by unfold nxt; split <;> omega
  rcases ac_two a b with ⟨q, -⟩ | ⟨q, q'⟩
  · exact (h1 _ _ hj hi q).symm
  · have x := h1 _ _ nj hi q
    have y := h1 _ _ hj ni q'
    unfold nxt at x y
    by_cases c1 : i + 1 = c.1 <;> by_cases c2 : j + 1 = c.1
    · omega
    · rw [if_neg c2] at x; rw [if_pos c1] at y; omega
    · rw [if_pos c2] at x; rw [if_neg c1] at y; omega
    · rw [if_neg c2] at x; rw [if_neg c1] at y; omega
/-! ===== the walk from both ends of the closing pipe up to where the ways meet ===== -/
def UpI (L : List Rec) (u v l r a : Nat) (fA : Nat → Nat) (b : Nat) (fB : Nat → Nat) : Prop :=
  l ∈ nds L ∧ r ∈ nds L ∧
  (∀ i, i < a → fA i ∈ nds L ∧ fA i ≠ 0 ∧ fe L (fA i) = (if i = 0 then l else fA (i - 1)) ∧ di L l < di L (fA i) ∧ di L r ≤ di L (fA i) ∧ fA i ≠ r) ∧
  (∀ i, i < b → fB i ∈ nds L ∧ fB i ≠ 0 ∧ fe L (fB i) = (if i + 1 = b then r else fB (i + 1)) ∧ di L r < di L (fB i) ∧ di L l < di L (fB i)) ∧
  (if a = 0 then l else fA (a - 1)) = u ∧ (if b = 0 then r else fB 0) = v ∧
  (∀ i j, i < a → j < a → fA i = fA j → i = j) ∧ (∀ i j, i < b → j < b → fB i = fB j → i = j) ∧ (∀ i j, i < a → j < b → fA i ≠ fB j)
theorem UpI.start {L : List Rec} {u v : Nat} (hu : u ∈ nds L) (hv : v ∈ nds L) (f1 f2 : Nat → Nat) : UpI L u v u v 0 f1 0 f2 :=
  ⟨hu, hv, fun i hi => absurd hi (Nat.not_lt_zero i), fun i hi => absurd hi (Nat.not_lt_zero i), rfl, rfl, fun i _ hi => absurd hi (Nat.not_lt_zero i), fun i _ hi => absurd hi (Nat.not_lt_zero i), fun i _ hi => absurd hi (Nat.not_lt_zero i)⟩
theorem UpI.left {g : Gr} {L : List Rec} (hT : Tre g 0 L) {u v l r a b : Nat} {fA fB : Nat → Nat} (h : UpI L u v l r a fA b fB) (hne : l ≠ r) (hd : di L r ≤ di L l) : l ≠ 0 ∧ UpI L u v (fe L l) r (a + 1) (fun i => if i = 0 then l else fA (i - 1)) b fB := by
  obtain ⟨h1, h2, h3, h4, h5, h6, h7, h8, h9⟩ := h
  have l0 : l ≠ 0 := fun e => by
    have h0 := hT.src.2
    rw [e] at hd hne
    exact hne (hT.up0 h2 (by omega)).symm
  obtain ⟨u1, u2, -, -⟩ := hT.up h1 l0
  refine ⟨l0, u1, h2, fun i hi => ?_, fun i hi => ?_, ?_, h6, fun i j hi hj e => ?_, h8, fun i j hi hj => ?_⟩
  · rcases Nat.eq_zero_or_pos i with c | c
    · subst c
      refine ⟨h1, l0, rfl, ?_, hd, hne⟩
      show di L (fe L l) < di L l
      omega
    · show (if i = 0 then l else fA (i - 1)) ∈ nds L ∧ (if i = 0 then l else fA (i - 1)) ≠ 0 ∧ fe L (if i = 0 then l else fA (i - 1)) = (if i = 0 then fe L l else if i - 1 = 0 then l else fA (i - 1 - 1)) ∧ di L (fe L l) < di L (if i = 0 then l else fA (i - 1)) ∧ di L r ≤ di L (if i = 0 then l else fA (i - 1)) ∧ (if i = 0 then l else fA (i - 1)) ≠ r
      rw [if_neg (by omega), if_neg (by omega)]
      obtain ⟨a1, a2, a3, a4, a5, a6⟩ := h3 (i - 1) (by omega)
      exact ⟨a1, a2, a3, by omega, a5, a6⟩
  · obtain ⟨a1, a2, a3, a4, a5⟩ := h4 i hi
    exact ⟨a1, a2, a3, a4, by omega⟩
  · rw [if_neg (by omega)]
    show (if a + 1 - 1 = 0 then l else fA (a + 1 - 1 - 1)) = u
    rw [← h5]
    rfl
  · have e : (if i = 0 then l else fA (i - 1)) = (if j = 0 then l else fA (j - 1)) := e
    by_cases ci : i = 0
    · by_cases cj : j = 0
      · omega
      · rw [if_pos ci, if_neg cj] at e
        have := (h3 (j - 1) (by omega)).2.2.2.1
        rw [← e] at this
        omega
    · by_cases cj : j = 0
      · rw [if_neg ci, if_pos cj] at e
        have := (h3 (i - 1) (by omega)).2.2.2.1
        rw [e] at this
        omega
      · rw [if_neg ci, if_neg cj] at e
        have := h7 _ _ (by omega) (by omega) e
        omega
  · show (if i = 0 then l else fA (i - 1)) ≠ fB j
    by_cases ci : i = 0
    · rw [if_pos ci]
      intro e
      have := (h4 j hj).2.2.2.2
      rw [← e] at this
      omega
    · rw [if_neg ci]
      exact h9 _ _ (by omega) hj
theorem UpI.right {g : Gr} {L : List Rec} (hT : Tre g 0 L) {u v l r a b : Nat} {fA fB : Nat → Nat} (h : UpI L u v l r a fA b fB) (hd : ¬ di L r ≤ di L l) : r ≠ 0 ∧ UpI L u v l (fe L r) a fA (b + 1) (fun i => if i = b then r else fB i) := by
  obtain ⟨h1, h2, h3, h4, h5, h6, h7, h8, h9⟩ := h
  have r0 : r ≠ 0 := fun e => by
    have h0 := hT.src.2
    rw [e] at hd
    omega
  obtain ⟨u1, u2, -, -⟩ := hT.up h2 r0
  refine ⟨r0, h1, u1, fun i hi => ?_, fun i hi => ?_, h5, ?_, h7, fun i j hi hj e => ?_, fun i j hi hj => ?_⟩
  · obtain ⟨a1, a2, a3, a4, a5, a6⟩ := h3 i hi
    refine ⟨a1, a2, a3, a4, by omega, fun e => ?_⟩
    rw [e] at a5
    omega
  · show (if i = b then r else fB i) ∈ nds L ∧ (if i = b then r else fB i) ≠ 0 ∧ fe L (if i = b then r else fB i) = (if i + 1 = b + 1 then fe L r else if i + 1 = b then r else fB (i + 1)) ∧ di L (fe L r) < di L (if i = b then r else fB i) ∧ di L l < di L (if i = b then r else fB i)
    by_cases c : i = b
    · rw [if_pos c, if_pos (by omega)]
      exact ⟨h2, r0, rfl, by omega, by omega⟩
    · rw [if_neg c, if_neg (by omega)]
      obtain ⟨a1, a2, a3, a4, a5⟩ := h4 i (by omega)
      exact ⟨a1, a2, a3, by omega, a5⟩
  · rw [if_neg (by omega)]
    show (if 0 = b then r else fB 0) = v
    rw [← h6]
    by_cases c : b = 0
    · rw [if_pos c, if_pos c.symm]
    · rw [if_neg c, if_neg (fun e => c e.symm)]
  · have e : (if i = b then r else fB i) = (if j = b then r else fB j) := e
    by_cases ci : i = b
    · by_cases cj : j = b
      · omega
      · rw [if_pos ci, if_neg cj] at e
        have := (h4 j (by omega)).2.2.2.1
        rw [← e] at this
        omega
    · by_cases cj : j = b
      · rw [if_neg ci, if_pos cj] at e
        have := (h4 i (by omega)).2.2.2.1
        rw [e] at this
        omega
      · rw [if_neg ci, if_neg cj] at e
        exact h8 _ _ (by omega) (by omega) e
  · show fA i ≠ (if j = b then r else fB j)
    by_cases cj : j = b
    · rw [if_pos cj]
      exact (h3 i hi).2.2.2.2.2
    · rw [if_neg cj]
      exact h9 _ _ hi (by omega)
theorem UpI.le {g : Gr} {L : List Rec} (hT : Tre g 0 L) {u v l r a b : Nat} {fA fB : Nat → Nat} (h : UpI L u v l r a fA b fB) (hne : l ≠ r) : a + b ≤ 8 := by
  obtain ⟨h1, h2, h3, h4, h5, h6, h7, h8, h9⟩ := h
  have key : a + b + 2 ≤ 10 := by
    refine inj_le (fun i => if i < a then fA i else if i < a + b then fB (i - a) else if i = a + b then l else r) (fun i hi => ?_) (fun i j hi hj e => ?_)
    · show (if i < a then fA i else if i < a + b then fB (i - a) else if i = a + b then l else r) < 10
      split
      · exact hT.lt (h3 i (by omega)).1
      · split
        · exact hT.lt (h4 (i - a) (by omega)).1
        · split
          · exact hT.lt h1
          · exact hT.lt h2
    · have e : (if i < a then fA i else if i < a + b then fB (i - a) else if i = a + b then l else r) = (if j < a then fA j else if j < a + b then fB (j - a) else if j = a + b then l else r) := e
      have k1 : ∀ i, i < a → fA i ≠ l := fun i hi q => by
        have := (h3 i hi).2.2.2.1
        rw [q] at this; omega
      have k2 : ∀ i, i < a → fA i ≠ r := fun i hi => (h3 i hi).2.2.2.2.2
      have k3 : ∀ i, i < b → fB i ≠ l := fun i hi q => by
        have := (h4 i hi).2.2.2.2
        rw [q] at this; omega
      have k4 : ∀ i, i < b → fB i ≠ r := fun i hi q => by
        have := (h4 i hi).2.2.2.1
        rw [q] at this; omega
      by_cases i1 : i < a
      · rw [if_pos i1] at e
        by_cases j1 : j < a
        · rw [if_pos j1] at e; exact h7 i j i1 j1 e
        rw [if_neg j1] at e
        by_cases j2 : j < a + b
        · rw [if_pos j2] at e; exact absurd e (h9 i (j - a) i1 (by omega))
        rw [if_neg j2] at e
        by_cases j3 : j = a + b
        · rw [if_pos j3] at e; exact absurd e (k1 i i1)
        · rw [if_neg j3] at e; exact absurd e (k2 i i1)
      rw [if_neg i1] at e
      by_cases i2 : i < a + b
      · rw [if_pos i2] at e
        by_cases j1 : j < a
        · rw [if_pos j1] at e; exact absurd e.symm (h9 j (i - a) j1 (by omega))
        rw [if_neg j1] at e
        by_cases j2 : j < a + b
        · rw [if_pos j2] at e
          have := h8 (i - a) (j - a) (by omega) (by omega) e
          omega
        rw [if_neg j2] at e
        by_cases j3 : j = a + b
        · rw [if_pos j3] at e; exact absurd e (k3 _ (by omega))
        · rw [if_neg j3] at e; exact absurd e (k4 _ (by omega))
      rw [if_neg i2] at e
      by_cases i3 : i = a + b
      · rw [if_pos i3] at e
        by_cases j1 : j < a
        · rw [if_pos j1] at e; exact absurd e.symm (k1 j j1)
        rw [if_neg j1] at e
        by_cases j2 : j < a + b
        · rw [if_pos j2] at e; exact absurd e.symm (k3 _ (by omega))
        rw [if_neg j2] at e
        by_cases j3 : j = a + b
        · omega
        · rw [if_neg j3] at e; exact absurd e hne
      · rw [if_neg i3] at e
        by_cases j1 : j < a
        · rw [if_pos j1] at e; exact absurd e.symm (k2 j j1)
        rw [if_neg j1] at e
        by_cases j2 : j < a + b
        · rw [if_pos j2] at e; exact absurd e.symm (k4 _ (by omega))
        rw [if_neg j2] at e
        by_cases j3 : j = a + b
        · rw [if_pos j3] at e; exact absurd e.symm hne
        · omega
  omega
/-- the loop that the walk has found -/
def upL (L : List Rec) (q m a : Nat) (fA : Nat → Nat) (b : Nat) (fB : Nat → Nat) : Lp :=
  (a + b + 1, fun i => if i = 0 then m else if i ≤ a then fA (i - 1) else fB (i - a - 1), fun i => if i < a then fp L (fA i) else if i = a then q else fp L (fB (i - a - 1)))
theorem upL_inQ (L : List Rec) (q m a : Nat) (fA : Nat → Nat) (b : Nat) (fB : Nat → Nat) (p : Nat) : inQ (upL L q m a fA b fB) p ↔ p = q ∨ (∃ i, i < a ∧ fp L (fA i) = p) ∨ (∃ i, i < b ∧ fp L (fB i) = p) := by
  constructor
  · rintro ⟨i, hi, e⟩
    have hi : i < a + b + 1 := hi
    have e : (if i < a then fp L (fA i) else if i = a then q else fp L (fB (i - a - 1))) = p := e
    by_cases c : i < a
    · rw [if_pos c] at e; exact .inr (.inl ⟨i, c, e⟩)
    rw [if_neg c] at e
    by_cases d : i = a
    · rw [if_pos d] at e; exact .inl e.symm
    · rw [if_neg d] at e; exact .inr (.inr ⟨i - a - 1, by omega, e⟩)
  · rintro (e | ⟨i, hi, e⟩ | ⟨i, hi, e⟩)
    · refine ⟨a, by show a < a + b + 1; omega, ?_⟩
      show (if a < a then fp L (fA a) else if a = a then q else fp L (fB (a - a - 1))) = p
      rw [if_neg (by omega), if_pos rfl, e]
    · refine ⟨i, by show i < a + b + 1; omega, ?_⟩
      show (if i < a then fp L (fA i) else if i = a then q else fp L (fB (i - a - 1))) = p
      rw [if_pos hi, e]
    · refine ⟨a + 1 + i, by show a + 1 + i < a + b + 1; omega, ?_⟩
      show (if a + 1 + i < a then fp L (fA (a + 1 + i)) else if a + 1 + i = a then q else fp L (fB (a + 1 + i - a - 1))) = p
      rw [if_neg (by omega), if_neg (by omega), show a + 1 + i - a - 1 = i by omega, e]
theorem upL_inT (L : List Rec) (q m a : Nat) (fA : Nat → Nat) (b : Nat) (fB : Nat → Nat) (n : Nat) : inT (upL L q m a fA b fB) n ↔ (∃ i, i < a ∧ fA i = n) ∨ (∃ i, i < b ∧ fB i = n) := by
  constructor
  · rintro ⟨i, h0, hi, e⟩
    have hi : i < a + b + 1 := hi
    have e : (if i = 0 then m else if i ≤ a then fA (i - 1) else fB (i - a - 1)) = n := e
    rw [if_neg (by omega)] at e
    by_cases c : i ≤ a
    · rw [if_pos c] at e; exact .inl ⟨i - 1, by omega, e⟩
    · rw [if_neg c] at e; exact .inr ⟨i - a - 1, by omega, e⟩
  · rintro (⟨i, hi, e⟩ | ⟨i, hi, e⟩)
    · refine ⟨i + 1, by omega, by show i + 1 < a + b + 1; omega, ?_⟩
      show (if i + 1 = 0 then m else if i + 1 ≤ a then fA (i + 1 - 1) else fB (i + 1 - a - 1)) = n
      rw [if_neg (by omega), if_pos (by omega), show i + 1 - 1 = i by omega, e]
    · refine ⟨a + 1 + i, by omega, by show a + 1 + i < a + b + 1; omega, ?_⟩
      show (if a + 1 + i = 0 then m else if a + 1 + i ≤ a then fA (a + 1 + i - 1) else fB (a + 1 + i - a - 1)) = n
      rw [if_neg (by omega), if_neg (by omega), show a + 1 + i - a - 1 = i by omega, e]
theorem UpI.done {g : Gr} {L : List Rec} (hg : WG g) (hT : Tre g 0 L) (ho : Own g) (hn : NoPar g) {q u v m a b : Nat} {fA fB : Nat → Nat} (hq : q < g.1) (hu : g.2.1 q = u) (hv : g.2.2 q = v) (hof : Off L 0 q) (h : UpI L u v m m a fA b fB) : LP0 g L (upL L q m a fA b fB) := by
  obtain ⟨h1, -, h3, h4, h5, h6, h7, h8, h9⟩ := h
  have aq : ac g q u = some v := by rw [← hu, ← hv]; exact (ac_ends hg hq).1
  have huv : u ≠ v := fun e => (hg.2 q hq).2.2 (by rw [hu, hv, e])
  have hu' : u ∈ nds L := by
    rw [← h5]
    by_cases c : a = 0
    · rw [if_pos c]; exact h1
    · rw [if_neg c]; exact (h3 _ (by omega)).1
  have cq : g.2.1 q ∈ nds L := by rw [hu]; exact hu'
  have key : ∀ p, p < g.1 → g.2.1 p ∈ nds L → p = q ∨ ∃ n, n ∈ nds L ∧ n ≠ 0 ∧ fp L n = p := fun p hp cp => by
    by_cases c : Off L 0 p
    · exact .inl (hT.one hg ho hp hq cp cq c hof)
    · refine .inr (Classical.byContradiction fun w => c (fun n hn h0 e => w ⟨n, hn, h0, e⟩))
  have e1 : (upL L q m a fA b fB).1 = a + b + 1 := rfl
  have e2 : ∀ i, (upL L q m a fA b fB).2.1 i = if i = 0 then m else if i ≤ a then fA (i - 1) else fB (i - a - 1) := fun _ => rfl
  have e3 : ∀ i, (upL L q m a fA b fB).2.2 i = if i < a then fp L (fA i) else if i = a then q else fp L (fB (i - a - 1)) := fun _ => rfl
  have k1 : ∀ i, i < a → fA i ≠ m := fun i hi => (h3 i hi).2.2.2.2.2
  have k3 : ∀ i, i < b → fB i ≠ m := fun i hi e => by
    have := (h4 i hi).2.2.2.1
    rw [e] at this; omega
  refine ⟨fun i j hi hj e => ?_, fun i hi => ?_, ?_, fun i hi => ?_, fun i h0 hi => ?_, fun p hp hc hnq => ?_, fun n hn' h0 ht hq' => ?_⟩
  · rw [e1] at hi hj
    rw [e2, e2] at e
    by_cases i1 : i = 0
    · rw [if_pos i1] at e
      by_cases j1 : j = 0
      · omega
      rw [if_neg j1] at e
      by_cases j2 : j ≤ a
      · rw [if_pos j2] at e; exact absurd e.symm (k1 _ (by omega))
      · rw [if_neg j2] at e; exact absurd e.symm (k3 _ (by omega))
    rw [if_neg i1] at e
    by_cases i2 : i ≤ a
    · rw [if_pos i2] at e
      by_cases j1 : j = 0
      · rw [if_pos j1] at e; exact absurd e (k1 _ (by omega))
      rw [if_neg j1] at e
      by_cases j2 : j ≤ a
      · rw [if_pos j2] at e
        have := h7 _ _ (by omega) (by omega) e
        omega
      · rw [if_neg j2] at e; exact absurd e (h9 _ _ (by omega) (by omega))
    · rw [if_neg i2] at e
      by_cases j1 : j = 0
      · rw [if_pos j1] at e; exact absurd e (k3 _ (by omega))
      rw [if_neg j1] at e
      by_cases j2 : j ≤ a
      · rw [if_pos j2] at e; exact absurd e.symm (h9 _ _ (by omega) (by omega))
      · rw [if_neg j2] at e
        have := h8 _ _ (by omega) (by omega) e
        omega
  · rw [e1] at hi
    have n1 : nxt (upL L q m a fA b fB) i = if i + 1 = a + b + 1 then 0 else i + 1 := rfl
    rw [e3, e2, e2, n1]
    by_cases c : i < a
    · obtain ⟨a1, a2, a3, -⟩ := h3 i c
      obtain ⟨-, -, u3, u4⟩ := hT.up a1 a2
      rw [if_pos c, if_neg (by omega : ¬ i + 1 = a + b + 1), if_neg (by omega : ¬ i + 1 = 0), if_pos (by omega : i + 1 ≤ a), show i + 1 - 1 = i by omega]
      refine ⟨u3, ?_⟩
      rw [a3] at u4
      rw [← u4]
      congr 1
      by_cases i0 : i = 0
      · rw [if_pos i0, if_pos i0]
      · rw [if_neg i0, if_neg i0, if_pos (by omega)]
    rw [if_neg c]
    by_cases d : i = a
    · rw [if_pos d]
      refine ⟨hq, ?_⟩
      have x1 : (if i = 0 then m else if i ≤ a then fA (i - 1) else fB (i - a - 1)) = u := by
        rw [← h5, d]
        by_cases a0 : a = 0
        · rw [if_pos a0, if_pos a0]
        · rw [if_neg a0, if_neg a0, if_pos (Nat.le_refl a)]
      have x2 : (if (if i + 1 = a + b + 1 then 0 else i + 1) = 0 then m else if (if i + 1 = a + b + 1 then 0 else i + 1) ≤ a then fA ((if i + 1 = a + b + 1 then 0 else i + 1) - 1) else fB ((if i + 1 = a + b + 1 then 0 else i + 1) - a - 1)) = v := by
        rw [← h6]
        by_cases b0 : b = 0
        · rw [if_pos (by omega : i + 1 = a + b + 1), if_pos rfl, if_pos b0]
        · rw [if_neg (by omega : ¬ i + 1 = a + b + 1), if_neg (by omega), if_neg (by omega), if_neg b0, show i + 1 - a - 1 = 0 by omega]
      rw [x1, x2]
      exact aq
    rw [if_neg d]
    obtain ⟨a1, a2, a3, -⟩ := h4 (i - a - 1) (by omega)
    obtain ⟨-, -, u3, u4⟩ := hT.up a1 a2
    refine ⟨u3, ac_sym ?_⟩
    rw [if_neg (by omega : ¬ i = 0), if_neg (by omega : ¬ i ≤ a)]
    rw [a3] at u4
    rw [← u4]
    congr 1
    by_cases b0 : i + 1 = a + b + 1
    · rw [if_pos b0, if_pos rfl, if_pos (by omega)]
    · rw [if_neg b0, if_neg (by omega), if_neg (by omega), if_neg (by omega), show i + 1 - a - 1 = i - a - 1 + 1 by omega]
  · right
    rw [e1]
    apply Classical.byContradiction
    intro hlt
    have hsum : a + b ≤ 1 := by omega
    by_cases a0 : a = 0
    · rw [if_pos a0] at h5
      by_cases b0 : b = 0
      · rw [if_pos b0] at h6
        exact huv (by omega)
      · rw [if_neg b0] at h6
        obtain ⟨b1, b2, b3, -⟩ := h4 0 (by omega)
        rw [if_pos (by omega)] at b3
        obtain ⟨-, -, u3, u4⟩ := hT.up b1 b2
        rw [b3, h5] at u4
        rw [h6] at u4 u3 b1 b2
        exact hof v b1 b2 (hn _ _ _ _ u3 hq u4 aq)
    · have b0 : b = 0 := by omega
      rw [if_pos b0] at h6
      rw [if_neg a0, show a - 1 = 0 by omega] at h5
      obtain ⟨b1, b2, b3, -⟩ := h3 0 (by omega)
      rw [if_pos rfl] at b3
      obtain ⟨-, -, u3, u4⟩ := hT.up b1 b2
      rw [b3, h6] at u4
      rw [h5] at u4 u3 b1 b2
      exact hof u b1 b2 (hn _ _ _ _ u3 hq u4 (ac_sym aq))
  · rw [e1] at hi
    rw [e2]
    by_cases i0 : i = 0
    · rw [if_pos i0]; exact h1
    rw [if_neg i0]
    by_cases i1 : i ≤ a
    · rw [if_pos i1]; exact (h3 _ (by omega)).1
    · rw [if_neg i1]; exact (h4 _ (by omega)).1
  · rw [e1] at hi
    rw [e2, e2, if_pos rfl, if_neg (by omega)]
    by_cases i1 : i ≤ a
    · rw [if_pos i1]; exact (h3 _ (by omega)).2.2.2.1
    · rw [if_neg i1]; exact (h4 _ (by omega)).2.2.2.1
  · rw [upL_inQ] at hnq
    rcases key p hp hc with e | ⟨n, x1, x2, x3⟩
    · exact absurd (.inl e) hnq
    · refine ⟨n, x1, x2, x3, fun ht => hnq (.inr ?_)⟩
      rw [upL_inT] at ht
      rcases ht with ⟨i, hi, e⟩ | ⟨i, hi, e⟩
      · exact .inl ⟨i, hi, by rw [e, x3]⟩
      · exact .inr ⟨i, hi, by rw [e, x3]⟩
  · rw [upL_inQ] at hq'
    rw [upL_inT] at ht
    rcases hq' with e | ⟨i, hi, e⟩ | ⟨i, hi, e⟩
    · exact hof n hn' h0 e
    · exact ht (.inl ⟨i, hi, hT.inj (h3 i hi).1 hn' (h3 i hi).2.1 h0 e⟩)
    · exact ht (.inr ⟨i, hi, hT.inj (h4 i hi).1 hn' (h4 i hi).2.1 h0 e⟩)
