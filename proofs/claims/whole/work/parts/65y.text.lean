/-! ===== texts: how they are read ===== -/
theorem wi_wi (σ : Mem) (a k : Nat) (u v : Int32) : wi (wi σ a k u) a k v = wi σ a k v := by
  refine Mem.ext (fun b j => ?_) (fun _ _ => rfl) (fun _ _ => rfl)
  rw [wi_i, wi_i, wi_i]
  by_cases h : b = a ∧ j = k
  · rw [if_pos h, if_pos h]
  · rw [if_neg h, if_neg h, if_neg h]
theorem wi_same {σ : Mem} {a k : Nat} {v : Int32} (h : σ.1 a k = v) : wi σ a k v = σ := by
  refine Mem.ext (fun b j => ?_) (fun _ _ => rfl) (fun _ _ => rfl)
  rw [wi_i]
  by_cases q : b = a ∧ j = k
  · rw [if_pos q, q.1, q.2, h]
  · rw [if_neg q]
/-- the i-th sign, 0 behind the end -/
def chT (s : Nat → Nat) (n i : Nat) : Nat := if i < n then s i else 0
def isD (x : Nat) : Bool := decide (48 ≤ x ∧ x ≤ 57)
/-- how many digits stand at i, at most k; their value behind v -/
def nD (s : Nat → Nat) (n : Nat) : Nat → Nat → Nat
  | 0, _ => 0
  | k + 1, i => if isD (chT s n i) = true then nD s n k (i + 1) + 1 else 0
def vD (s : Nat → Nat) (n : Nat) : Nat → Nat → Nat → Nat
  | 0, _, v => v
  | k + 1, i, v => if isD (chT s n i) = true then vD s n k (i + 1) (10 * v + (chT s n i - 48)) else v
theorem isD_iff {x : Nat} : isD x = true ↔ 48 ≤ x ∧ x ≤ 57 := by unfold isD; exact decide_eq_true_iff
theorem chT_lt {s : Nat → Nat} {n i : Nat} (h : chT s n i ≠ 0) : i < n := by
  unfold chT at h
  by_cases c : i < n
  · exact c
  · rw [if_neg c] at h; exact absurd rfl h
theorem isD_lt {s : Nat → Nat} {n i : Nat} (h : isD (chT s n i) = true) : i < n := chT_lt (s := s) (fun q => by
  have := isD_iff.mp h; omega)
theorem nD_le {s : Nat → Nat} {n : Nat} : ∀ k i, nD s n k i ≤ k ∧ (i ≤ n → i + nD s n k i ≤ n)
  | 0, i => ⟨Nat.le_refl 0, fun h => h⟩
  | k + 1, i => by
    have ih := nD_le (s := s) (n := n) k (i + 1)
    unfold nD
    by_cases c : isD (chT s n i) = true
    · rw [if_pos c]
      have := isD_lt c
      exact ⟨by omega, fun _ => by have := ih.2 (by omega); omega⟩
    · rw [if_neg c]; exact ⟨by omega, fun h => by omega⟩
theorem vD_le {s : Nat → Nat} {n : Nat} : ∀ k i v, vD s n k i v ≤ (v + 1) * 10 ^ k - 1
  | 0, i, v => by show v ≤ _; simp
  | k + 1, i, v => by
    unfold vD
    by_cases c : isD (chT s n i) = true
    · rw [if_pos c]
      have h := isD_iff.mp c
      have ih := vD_le (s := s) (n := n) k (i + 1) (10 * v + (chT s n i - 48))
      refine Nat.le_trans ih (Nat.sub_le_sub_right ?_ 1)
      calc (10 * v + (chT s n i - 48) + 1) * 10 ^ k ≤ ((v + 1) * 10) * 10 ^ k := Nat.mul_le_mul_right _ (by omega)
        _ = (v + 1) * 10 ^ (k + 1) := by rw [Nat.pow_succ, Nat.mul_assoc, Nat.mul_comm 10 (10 ^ k)]
    · rw [if_neg c]
      have : 1 ≤ 10 ^ (k + 1) := Nat.one_le_pow _ _ (by decide)
      have : (v + 1) * 1 ≤ (v + 1) * 10 ^ (k + 1) := Nat.mul_le_mul_left _ this
      omega
theorem vD_bd {s : Nat → Nat} {n k i : Nat} (hk : k ≤ 3) : vD s n k i 0 ≤ 999 := by
  have h := vD_le (s := s) (n := n) k i 0
  have : 10 ^ k ≤ 10 ^ 3 := Nat.pow_le_pow_right (by decide) hk
  omega
/-- the class's text; the reference's -/
def TxC (s : Nat → Nat) (n : Nat) (σ : Mem) : Prop := n ≤ 60 ∧ σ.1 79 1 = nI n ∧ ∀ i, i < n → σ.1 80 i = nI (s i) ∧ s i ≤ 126
def TxM (s : Nat → Nat) (n : Nat) (σ : Mem) : Prop := n ≤ 60 ∧ σ.1 209 12 = nI n ∧ ∀ i, i < n → σ.1 218 i = nI (s i) ∧ s i ≤ 126
theorem chT_le {s : Nat → Nat} {n i : Nat} (h : ∀ i, i < n → s i ≤ 126) : chT s n i ≤ 126 := by
  unfold chT
  by_cases c : i < n
  · rw [if_pos c]; exact h i c
  · rw [if_neg c]; omega
theorem nar_char {x : Nat} (h : x ≤ 126) : narrow .char (.int (nI x)) = .int (nI x) := by
  have : ∀ x, x < 127 → narrow .char (.int (nI x)) = .int (nI x) := by decide +kernel
  exact this x (by omega)
theorem i_X3_nextSign {s : Nat → Nat} {n i : Nat} {σ : Mem} {K : Int32 → Mem → Prop} {X : String → Mem → Prop} (hT : TxC s n σ) (hi : σ.1 79 2 = nI i) (h60 : i ≤ 60) (h : K (nI (chT s n i)) σ) : sp_X3_nextSign σ K X := by
  obtain ⟨h1, h2, h3⟩ := hT
  unfold chT at h
  refine ⟨fun c => ?_, fun c => ?_⟩
  · rw [h2, hi, nI_leI (by omega) (by omega)] at c
    rw [if_neg (by omega)] at h; exact h
  · rw [h2, hi, nI_leI (by omega) (by omega)] at c
    rw [if_pos (by omega)] at h
    have h3' := h3 i (by omega)
    rw [hi]
    refine ⟨n_inR (by omega) (by decide), ?_⟩
    rw [n_cl (by omega), h3'.1]
    exact ⟨nar_char h3'.2, h⟩
theorem i_X3_take {s : Nat → Nat} {n i c : Nat} {σ : Mem} {K : Int32 → Mem → Prop} {X : String → Mem → Prop} (hT : TxC s n σ) (hi : σ.1 79 2 = nI i) (h60 : i ≤ 60) (hc : c < 1000) (h1 : chT s n i = c → K 1 (wi σ 79 2 (nI (i + 1)))) (h0 : chT s n i ≠ c → K 0 σ) : sp_X3_take (nI c) σ K X := by
  have hl := chT_le (fun i q => (hT.2.2 i q).2) (n := n) (i := i)
  refine i_X3_nextSign hT hi h60 ⟨fun q σ17 e17 => ?_, fun q => h0 (fun e => q (by rw [e]))⟩
  rw [e17, hi, nI_1]
  exact h1 ((nI_eq (by omega) (by omega)).mp q)
theorem i_X5_here {s : Nat → Nat} {n i : Nat} {σ : Mem} {K : Int32 → Mem → Prop} {X : String → Mem → Prop} (hT : TxM s n σ) (hi : σ.1 209 13 = nI i) (h60 : i ≤ 60) (h : K (nI (chT s n i)) σ) : sp_X5_here σ K X := by
  obtain ⟨h1, h2, h3⟩ := hT
  unfold chT at h
  refine ⟨fun c => ?_, fun c => ?_⟩
  · rw [h2, hi, nI_leI (by omega) (by omega)] at c
    rw [if_neg (by omega)] at h; exact h
  · rw [h2, hi, nI_leI (by omega) (by omega)] at c
    rw [if_pos (by omega)] at h
    have h3' := h3 i (by omega)
    rw [hi]
    refine ⟨n_inR (by omega) (by decide), ?_⟩
    rw [n_cl (by omega), h3'.1]
    exact h
theorem i_X5_takes {s : Nat → Nat} {n i c : Nat} {σ : Mem} {K : Int32 → Mem → Prop} {X : String → Mem → Prop} (hT : TxM s n σ) (hi : σ.1 209 13 = nI i) (h60 : i ≤ 60) (hc : c < 1000) (h1 : chT s n i = c → K 1 (wi σ 209 13 (nI (i + 1)))) (h0 : chT s n i ≠ c → K 0 σ) : sp_X5_takes (nI c) σ K X := by
  have hl := chT_le (fun i q => (hT.2.2 i q).2) (n := n) (i := i)
  refine i_X5_here hT hi h60 ⟨fun q σ17 e17 => ?_, fun q => h0 (fun e => q (by rw [e]))⟩
  rw [e17, hi, nI_1]
  exact h1 ((nI_eq (by omega) (by omega)).mp q)
theorem dig_in {x : Nat} (h : x ≤ 126) : (¬ nI x < 48 ∧ ¬ (57 : Int32) < nI x) ↔ isD x = true := by
  rw [isD_iff, show (48 : Int32) = nI 48 from rfl, show (57 : Int32) = nI 57 from rfl, nI_ltI (by omega) (by omega), nI_ltI (by omega) (by omega)]
  omega
theorem i_X4_dig {x : Nat} {σ : Mem} {K : Int32 → Mem → Prop} {X : String → Mem → Prop} (hx : x ≤ 126) (h : K (if isD x = true then 1 else 0) σ) : sp_X4_isWithin (nI x) 48 57 σ K X := by
  refine i_X4_isWithin ?_
  by_cases c : isD x = true
  · rw [if_pos c] at h; rw [if_pos ((dig_in hx).mpr c)]; exact h
  · rw [if_neg c] at h; rw [if_neg (fun q => c ((dig_in hx).mp q))]; exact h
theorem i_X5_dig {x : Nat} {σ : Mem} {K : Int32 → Mem → Prop} {X : String → Mem → Prop} (hx : x ≤ 126) (h : K (if isD x = true then 1 else 0) σ) : sp_X5_in (nI x) 48 57 σ K X := by
  refine i_X5_in ?_
  by_cases c : isD x = true
  · rw [if_pos c] at h; rw [if_pos ((dig_in hx).mpr c)]; exact h
  · rw [if_neg c] at h; rw [if_neg (fun q => c ((dig_in hx).mp q))]; exact h
theorem i_X5_digit {s : Nat → Nat} {n i : Nat} {σ : Mem} {K : Int32 → Mem → Prop} {X : String → Mem → Prop} (hT : TxM s n σ) (hi : σ.1 209 13 = nI i) (h60 : i ≤ 60) (h1 : isD (chT s n i) = true → K (nI (chT s n i - 48)) (wi σ 209 13 (nI (i + 1)))) (h0 : ¬ isD (chT s n i) = true → K (-1) σ) : sp_X5_digit σ K X := by
  have hl := chT_le (fun i q => (hT.2.2 i q).2) (n := n) (i := i)
  refine i_X5_here hT hi h60 (i_X5_dig hl ⟨fun q => h0 (fun e => by rw [if_pos e] at q; exact absurd q (by decide)), fun q σ26 e26 => ?_⟩)
  have d : isD (chT s n i) = true := by
    apply Classical.byContradiction
    intro e; rw [if_neg e] at q; exact q rfl
  have hin := isD_lt d
  have hn := hT.1
  rw [hi]
  refine ⟨n_inR (by omega) (by decide), ?_⟩
  rw [n_cl (by omega)]
  have e3 : σ26.1 218 i = nI (chT s n i) := by
    rw [e26, wi_i, if_neg (fun q => absurd q.1 (by decide)), (hT.2.2 i hin).1]
    unfold chT; rw [if_pos hin]
  rw [e3, show (48 : Int32) = nI 48 from rfl, pk_sub (isD_iff.mp d).1, e26, hi, nI_1]
  exact h1 d
/-- what follows a kind's sign: (0, c) the sign c; (k, x) a number of at most k digits, the x-th of the definition; (4, x) such a number, possibly with '-' ahead -/
def pI (s : Nat → Nat) (n : Nat) : List (Nat × Nat) → Nat → (Nat → Option Int32) → Bool × Nat × (Nat → Option Int32)
  | [], i, v => (true, i, v)
  | (k, x) :: r, i, v =>
    if k = 0 then (if chT s n i = x then pI s n r (i + 1) v else (false, i, v))
    else if k = 4 then
      (if chT s n i = 45 then
        (if 0 < nD s n 3 (i + 1) then pI s n r (i + 1 + nD s n 3 (i + 1)) (fun y => if y = x then some (-nI (vD s n 3 (i + 1) 0)) else v y) else (false, i + 1, v))
      else (if 0 < nD s n 3 i then pI s n r (i + nD s n 3 i) (fun y => if y = x then some (nI (vD s n 3 i 0)) else v y) else (false, i, v)))
    else (if 0 < nD s n k i then pI s n r (i + nD s n k i) (fun y => if y = x then some (nI (vD s n k i 0)) else v y) else (false, i, v))
def tkK (k : Nat) : List (Nat × Nat) :=
  if k = 112 then [(1, 0), (0, 45), (1, 1), (0, 58), (3, 2), (0, 44), (3, 3), (0, 59)]
  else if k = 115 then [(1, 0), (0, 58), (3, 1), (0, 44), (3, 2), (0, 44), (3, 3), (0, 59)]
  else if k = 120 then [(1, 0), (0, 59)]
  else if k = 116 then [(1, 0), (0, 61), (4, 1), (0, 59)]
  else [(3, 0), (0, 59)]
def kdB (k : Nat) : Prop := k = 112 ∨ k = 115 ∨ k = 120 ∨ k = 116 ∨ k = 104
/-- a definition with its ';' -/
noncomputable def pD (s : Nat → Nat) (n i : Nat) : Bool × Nat × (Nat → Option Int32) := by
  classical exact if kdB (chT s n i) then pI s n (tkK (chT s n i)) (i + 1) (fun _ => none) else (false, i, fun _ => none)
theorem pD_y {s : Nat → Nat} {n i : Nat} (h : kdB (chT s n i)) : pD s n i = pI s n (tkK (chT s n i)) (i + 1) (fun _ => none) := by unfold pD; exact if_pos h
theorem pD_n {s : Nat → Nat} {n i : Nat} (h : ¬ kdB (chT s n i)) : pD s n i = (false, i, fun _ => none) := by unfold pD; exact if_neg h
theorem pI_0y {s : Nat → Nat} {n i c : Nat} {r : List (Nat × Nat)} {v : Nat → Option Int32} (h : chT s n i = c) : pI s n ((0, c) :: r) i v = pI s n r (i + 1) v := by
  rw [pI, if_pos rfl, if_pos h]
theorem pI_0n {s : Nat → Nat} {n i c : Nat} {r : List (Nat × Nat)} {v : Nat → Option Int32} (h : ¬ chT s n i = c) : pI s n ((0, c) :: r) i v = (false, i, v) := by
  rw [pI, if_pos rfl, if_neg h]
theorem pI_ky {s : Nat → Nat} {n i k x : Nat} {r : List (Nat × Nat)} {v : Nat → Option Int32} (k0 : k ≠ 0) (k4 : k ≠ 4) (h : 0 < nD s n k i) : pI s n ((k, x) :: r) i v = pI s n r (i + nD s n k i) (fun y => if y = x then some (nI (vD s n k i 0)) else v y) := by
  rw [pI, if_neg k0, if_neg k4, if_pos h]
theorem pI_kn {s : Nat → Nat} {n i k x : Nat} {r : List (Nat × Nat)} {v : Nat → Option Int32} (k0 : k ≠ 0) (k4 : k ≠ 4) (h : ¬ 0 < nD s n k i) : pI s n ((k, x) :: r) i v = (false, i, v) := by
  rw [pI, if_neg k0, if_neg k4, if_neg h]
theorem pI_4my {s : Nat → Nat} {n i x : Nat} {r : List (Nat × Nat)} {v : Nat → Option Int32} (c : chT s n i = 45) (h : 0 < nD s n 3 (i + 1)) : pI s n ((4, x) :: r) i v = pI s n r (i + 1 + nD s n 3 (i + 1)) (fun y => if y = x then some (-nI (vD s n 3 (i + 1) 0)) else v y) := by
  rw [pI, if_neg (by decide), if_pos rfl, if_pos c, if_pos h]
theorem pI_4mn {s : Nat → Nat} {n i x : Nat} {r : List (Nat × Nat)} {v : Nat → Option Int32} (c : chT s n i = 45) (h : ¬ 0 < nD s n 3 (i + 1)) : pI s n ((4, x) :: r) i v = (false, i + 1, v) := by
  rw [pI, if_neg (by decide), if_pos rfl, if_pos c, if_neg h]
theorem pI_4py {s : Nat → Nat} {n i x : Nat} {r : List (Nat × Nat)} {v : Nat → Option Int32} (c : ¬ chT s n i = 45) (h : 0 < nD s n 3 i) : pI s n ((4, x) :: r) i v = pI s n r (i + nD s n 3 i) (fun y => if y = x then some (nI (vD s n 3 i 0)) else v y) := by
  rw [pI, if_neg (by decide), if_pos rfl, if_neg c, if_pos h]
theorem pI_4pn {s : Nat → Nat} {n i x : Nat} {r : List (Nat × Nat)} {v : Nat → Option Int32} (c : ¬ chT s n i = 45) (h : ¬ 0 < nD s n 3 i) : pI s n ((4, x) :: r) i v = (false, i, v) := by
  rw [pI, if_neg (by decide), if_pos rfl, if_neg c, if_neg h]
/-- where the reading ends, and what it has read -/
theorem pI_end {s : Nat → Nat} {n : Nat} : ∀ (r : List (Nat × Nat)) (i : Nat) (v : Nat → Option Int32), (∀ q ∈ r, q.1 = 0 → q.2 ≠ 0) → i ≤ n → i ≤ (pI s n r i v).2.1 ∧ (pI s n r i v).2.1 ≤ n ∧ ((pI s n r i v).1 = true → i + r.length ≤ (pI s n r i v).2.1 ∧ ∀ y, (v y ≠ none ∨ ∃ k, k ≠ 0 ∧ (k, y) ∈ r) → (pI s n r i v).2.2 y ≠ none)
  | [], i, v, _, hi => ⟨Nat.le_refl i, hi, fun _ => ⟨by simp [pI], fun y hy => by
      rcases hy with hy | ⟨k, _, hk⟩
      · exact hy
      · cases hk⟩⟩
  | (k, x) :: r, i, v, hr, hi => by
    have hr' : ∀ q ∈ r, q.1 = 0 → q.2 ≠ 0 := fun q hq => hr q (List.mem_cons_of_mem _ hq)
    have go : ∀ (j : Nat) (v' : Nat → Option Int32), i < j → j ≤ n → (∀ y, v y ≠ none → v' y ≠ none) → (k ≠ 0 → v' x ≠ none) → pI s n ((k, x) :: r) i v = pI s n r j v' → i ≤ (pI s n ((k, x) :: r) i v).2.1 ∧ (pI s n ((k, x) :: r) i v).2.1 ≤ n ∧ ((pI s n ((k, x) :: r) i v).1 = true → i + ((k, x) :: r).length ≤ (pI s n ((k, x) :: r) i v).2.1 ∧ ∀ y, (v y ≠ none ∨ ∃ k', k' ≠ 0 ∧ (k', y) ∈ (k, x) :: r) → (pI s n ((k, x) :: r) i v).2.2 y ≠ none) := by
      intro j v' h1 h2 h3 h4 e
      rw [e]
      obtain ⟨a1, a2, a3⟩ := pI_end r j v' hr' h2
      refine ⟨by omega, a2, fun ht => ⟨by rw [List.length_cons]; have := (a3 ht).1; omega, fun y hy => (a3 ht).2 y ?_⟩⟩
      rcases hy with hy | ⟨k', h0, hk⟩
      · exact .inl (h3 y hy)
      · rcases List.mem_cons.mp hk with e' | e'
        · cases e'; exact .inl (h4 h0)
        · exact .inr ⟨k', h0, e'⟩
    have no : ∀ j : Nat, i ≤ j → j ≤ n → pI s n ((k, x) :: r) i v = (false, j, v) → i ≤ (pI s n ((k, x) :: r) i v).2.1 ∧ (pI s n ((k, x) :: r) i v).2.1 ≤ n ∧ ((pI s n ((k, x) :: r) i v).1 = true → i + ((k, x) :: r).length ≤ (pI s n ((k, x) :: r) i v).2.1 ∧ ∀ y, (v y ≠ none ∨ ∃ k', k' ≠ 0 ∧ (k', y) ∈ (k, x) :: r) → (pI s n ((k, x) :: r) i v).2.2 y ≠ none) := by
      intro j h1 h2 e
      rw [e]
      exact ⟨h1, h2, fun q => by cases q⟩
    have up : ∀ (z : Option Int32), z ≠ none → (∀ y, v y ≠ none → (if y = x then z else v y) ≠ none) ∧ (if x = x then z else v x) ≠ none := fun z hz => ⟨fun y hy => by
      by_cases c : y = x
      · rw [if_pos c]; exact hz
      · rw [if_neg c]; exact hy, by rw [if_pos rfl]; exact hz⟩
    by_cases k0 : k = 0
    · subst k0
      by_cases c : chT s n i = x
      · have hx := hr (0, x) (List.mem_cons_self ..) rfl
        exact go (i + 1) v (by omega) (chT_lt (by rw [c]; exact hx)) (fun y h => h) (fun q => absurd rfl q) (pI_0y c)
      · exact no i (Nat.le_refl i) hi (pI_0n c)
    · by_cases k4 : k = 4
      · subst k4
        by_cases c : chT s n i = 45
        · have hin := chT_lt (s := s) (n := n) (i := i) (by rw [c]; decide)
          by_cases d : 0 < nD s n 3 (i + 1)
          · exact go _ _ (by omega) ((nD_le 3 (i + 1)).2 (by omega)) (up _ (fun q => by cases q)).1 (fun _ => (up _ (fun q => by cases q)).2) (pI_4my c d)
          · exact no (i + 1) (by omega) (by omega) (pI_4mn c d)
        · by_cases d : 0 < nD s n 3 i
          · exact go _ _ (by omega) ((nD_le 3 i).2 (by omega)) (up _ (fun q => by cases q)).1 (fun _ => (up _ (fun q => by cases q)).2) (pI_4py c d)
          · exact no i (Nat.le_refl i) hi (pI_4pn c d)
      · by_cases d : 0 < nD s n k i
        · exact go _ _ (by omega) ((nD_le k i).2 (by omega)) (up _ (fun q => by cases q)).1 (fun _ => (up _ (fun q => by cases q)).2) (pI_ky k0 k4 d)
        · exact no i (Nat.le_refl i) hi (pI_kn k0 k4 d)
theorem tkK_ok (k : Nat) : (∀ q ∈ tkK k, q.1 = 0 → q.2 ≠ 0) ∧ 2 ≤ (tkK k).length := by
  unfold tkK
  by_cases c1 : k = 112
  · rw [if_pos c1]; decide
  rw [if_neg c1]
  by_cases c2 : k = 115
  · rw [if_pos c2]; decide
  rw [if_neg c2]
  by_cases c3 : k = 120
  · rw [if_pos c3]; decide
  rw [if_neg c3]
  by_cases c4 : k = 116
  · rw [if_pos c4]; decide
  rw [if_neg c4]; decide
/-- a definition that has been read: at least three signs, and its numbers -/
theorem pD_end {s : Nat → Nat} {n i : Nat} (hi : i ≤ n) : i ≤ (pD s n i).2.1 ∧ (pD s n i).2.1 ≤ n ∧ ((pD s n i).1 = true → i + 3 ≤ (pD s n i).2.1 ∧ kdB (chT s n i) ∧ ∀ y, (∃ k, k ≠ 0 ∧ (k, y) ∈ tkK (chT s n i)) → (pD s n i).2.2 y ≠ none) := by
  by_cases h : kdB (chT s n i)
  · have hin : i < n := chT_lt (s := s) (by unfold kdB at h; omega)
    rw [pD_y h]
    obtain ⟨h1, h2, h3⟩ := pI_end (s := s) (n := n) (tkK (chT s n i)) (i + 1) (fun _ => none) (tkK_ok _).1 (by omega)
    exact ⟨by omega, h2, fun ht => ⟨by have := (h3 ht).1; have := (tkK_ok (chT s n i)).2; omega, h, fun y hy => (h3 ht).2 y (.inr hy)⟩⟩
  · rw [pD_n h]
    exact ⟨Nat.le_refl i, hi, fun q => by cases q⟩
/-- a definition: its kind, its numbers -/
abbrev Df : Type := Nat × (Nat → Int32)
def dfO (k : Nat) (v : Nat → Option Int32) : Df := (k, fun y => (v y).getD 0)
/-- the whole text, from i on, l being read: at most f definitions -/
noncomputable def pT (s : Nat → Nat) (n : Nat) : Nat → Nat → List Df → Bool × Nat × List Df
  | 0, i, l => (false, i, l)
  | f + 1, i, l => if (pD s n i).1 = true then (if (pD s n i).2.1 = n then (true, n, l ++ [dfO (chT s n i) (pD s n i).2.2]) else pT s n f (pD s n i).2.1 (l ++ [dfO (chT s n i) (pD s n i).2.2])) else (false, (pD s n i).2.1, l)
theorem TxC.of {s : Nat → Nat} {n : Nat} {σ τ : Mem} (h : TxC s n σ) (h1 : τ.1 79 1 = σ.1 79 1) (h2 : ∀ j, τ.1 80 j = σ.1 80 j) : TxC s n τ := ⟨h.1, by rw [h1]; exact h.2.1, fun i hi => by rw [h2]; exact h.2.2 i hi⟩
theorem TxM.of {s : Nat → Nat} {n : Nat} {σ τ : Mem} (h : TxM s n σ) (h1 : τ.1 209 12 = σ.1 209 12) (h2 : ∀ j, τ.1 218 j = σ.1 218 j) : TxM s n τ := ⟨h.1, by rw [h1]; exact h.2.1, fun i hi => by rw [h2]; exact h.2.2 i hi⟩
theorem TxC.w2 {s : Nat → Nat} {n : Nat} {σ : Mem} (h : TxC s n σ) (v : Int32) : TxC s n (wi σ 79 2 v) := h.of (by rw [wi_i, if_neg (fun q => absurd q.2 (by decide))]) (fun j => by rw [wi_i, if_neg (fun q => absurd q.1 (by decide))])
theorem TxM.w13 {s : Nat → Nat} {n : Nat} {σ : Mem} (h : TxM s n σ) (v : Int32) : TxM s n (wi σ 209 13 v) := h.of (by rw [wi_i, if_neg (fun q => absurd q.2 (by decide))]) (fun j => by rw [wi_i, if_neg (fun q => absurd q.1 (by decide))])
theorem wi_at (σ : Mem) (a k : Nat) (v : Int32) : (wi σ a k v).1 a k = v := by rw [wi_i, if_pos ⟨rfl, rfl⟩]
theorem nD_0 {s : Nat → Nat} {n k i : Nat} (h : ¬ isD (chT s n i) = true) : nD s n k i = 0 := by
  cases k with
  | zero => rfl
  | succ k => unfold nD; rw [if_neg h]
theorem vD_0 {s : Nat → Nat} {n k i v : Nat} (h : ¬ isD (chT s n i) = true) : vD s n k i v = v := by
  cases k with
  | zero => rfl
  | succ k => unfold vD; rw [if_neg h]
theorem nD_s {s : Nat → Nat} {n k i : Nat} (h : isD (chT s n i) = true) : nD s n (k + 1) i = nD s n k (i + 1) + 1 := by rw [nD, if_pos h]
theorem vD_s {s : Nat → Nat} {n k i v : Nat} (h : isD (chT s n i) = true) : vD s n (k + 1) i v = vD s n k (i + 1) (10 * v + (chT s n i - 48)) := by rw [vD, if_pos h]
