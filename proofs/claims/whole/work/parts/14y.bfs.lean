/-! ===== the search by breadth, as a list of records: node, feeder, pipe, distance ===== -/
/-- a graph: how many pipes, their two ends -/
abbrev Gr : Type := Nat × (Nat → Nat) × (Nat → Nat)
abbrev Rec : Type := Nat × Nat × Nat × Nat
def WG (g : Gr) : Prop := g.1 ≤ 10 ∧ ∀ p, p < g.1 → g.2.1 p < 10 ∧ g.2.2 p < 10 ∧ g.2.1 p ≠ g.2.2 p
def ac (g : Gr) (p n : Nat) : Option Nat := if g.2.1 p = n then some (g.2.2 p) else if g.2.2 p = n then some (g.2.1 p) else none
def nds (L : List Rec) : List Nat := L.map (fun r => r.1)
/-- the pipes below k at the node n, whose distance is dn -/
def bp (g : Gr) (n dn : Nat) : Nat → List Rec → List Rec
  | 0, L => L
  | k + 1, L => match ac g k n with
    | some e => if e ∈ nds (bp g n dn k L) then bp g n dn k L else bp g n dn k L ++ [(e, n, k, dn + 1)]
    | none => bp g n dn k L
/-- the first i of the queue are done -/
def bs (g : Gr) (src : Nat) : Nat → List Rec
  | 0 => [(src, 0, 0, 0)]
  | i + 1 => match (bs g src i)[i]? with
    | some r => bp g r.1 r.2.2.2 g.1 (bs g src i)
    | none => bs g src i
def bfs (g : Gr) (src : Nat) : List Rec := bs g src 10
def rOf (L : List Rec) (j : Nat) : Option Rec := L.find? (fun r => r.1 == j)
def dOf (L : List Rec) (j : Nat) : Option Nat := (rOf L j).map (fun r => r.2.2.2)
theorem nds_app (L : List Rec) (r : Rec) : nds (L ++ [r]) = nds L ++ [r.1] := by simp [nds]
theorem nds_len (L : List Rec) : (nds L).length = L.length := by simp [nds]
theorem rOf_none {L : List Rec} {j : Nat} : rOf L j = none ↔ j ∉ nds L := by
  simp only [rOf, List.find?_eq_none, nds, List.mem_map, not_exists, not_and, beq_iff_eq]
theorem rOf_some {L : List Rec} {j : Nat} {r : Rec} (h : rOf L j = some r) : r ∈ L ∧ r.1 = j := by
  have h1 := List.mem_of_find?_eq_some h
  have h2 := List.find?_some h
  exact ⟨h1, by simpa using h2⟩
theorem rOf_app {L : List Rec} {r : Rec} (h : r.1 ∉ nds L) (j : Nat) : rOf (L ++ [r]) j = if j = r.1 then some r else rOf L j := by
  unfold rOf
  rw [List.find?_append]
  by_cases hj : j = r.1
  · subst hj
    have : L.find? (fun q => q.1 == r.1) = none := rOf_none.mpr h
    rw [this, if_pos rfl]
    simp
  · rw [if_neg hj]
    have : (r.1 == j) = false := by simp; exact fun q => hj q.symm
    cases hL : L.find? (fun q => q.1 == j) <;> simp [this]
theorem dOf_app {L : List Rec} {r : Rec} (h : r.1 ∉ nds L) (j : Nat) : dOf (L ++ [r]) j = if j = r.1 then some r.2.2.2 else dOf L j := by
  unfold dOf
  rw [rOf_app h]
  split <;> rfl
theorem rOf_get {L : List Rec} (hn : (nds L).Nodup) {i : Nat} {r : Rec} (h : L[i]? = some r) : rOf L r.1 = some r := by
  induction L generalizing i with
  | nil => simp at h
  | cons q L ih =>
    have hn' : q.1 ∉ nds L ∧ (nds L).Nodup := by simpa [nds] using hn
    unfold rOf
    cases i with
    | zero =>
      have : q = r := by simpa using h
      subst this
      simp
    | succ i =>
      have h : L[i]? = some r := by simpa using h
      have hr : r.1 ∈ nds L := List.mem_map.mpr ⟨r, List.mem_of_getElem? h, rfl⟩
      have hne : (q.1 == r.1) = false := by
        simp; intro e; rw [e] at hn'; exact hn'.1 hr
      rw [List.find?_cons, hne]
      exact ih hn'.2 h
theorem ac_lt {g : Gr} (hg : WG g) {p n e : Nat} (hp : p < g.1) (h : ac g p n = some e) : e < 10 ∧ n < 10 ∧ e ≠ n := by
  obtain ⟨h1, h2, h3⟩ := hg.2 p hp
  unfold ac at h
  by_cases c : g.2.1 p = n
  · rw [if_pos c] at h; cases h; exact ⟨h2, by rw [← c]; exact h1, by rw [← c]; exact fun q => h3 q.symm⟩
  · rw [if_neg c] at h
    by_cases d : g.2.2 p = n
    · rw [if_pos d] at h; cases h; exact ⟨h1, by rw [← d]; exact h2, by rw [← d]; exact h3⟩
    · rw [if_neg d] at h; cases h
theorem ac_sym {g : Gr} {p n e : Nat} (h : ac g p n = some e) : ac g p e = some n := by
  unfold ac at h ⊢
  by_cases c : g.2.1 p = n
  · rw [if_pos c] at h; cases h
    by_cases d : g.2.1 p = g.2.2 p
    · rw [if_pos d, ← d, c]
    · rw [if_neg d, if_pos rfl, c]
  · rw [if_neg c] at h
    by_cases d : g.2.2 p = n
    · rw [if_pos d] at h; cases h
      rw [if_pos rfl, d]
    · rw [if_neg d] at h; cases h
/-- a list of records that a search may hold -/
def OkL (L : List Rec) : Prop := (nds L).Nodup ∧ (∀ n ∈ nds L, n < 10)
theorem nodup_len : ∀ (m : Nat) (l : List Nat), l.Nodup → (∀ n ∈ l, n < m) → l.length ≤ m
  | 0, l, _, h => by
    cases l with
    | nil => exact Nat.le_refl 0
    | cons a l => exact absurd (h a List.mem_cons_self) (Nat.not_lt_zero a)
  | m + 1, l, hn, h => by
    by_cases c : m ∈ l
    · have h1 := nodup_len m (l.erase m) (hn.erase m) (fun n hnm => by
        have h2 : n ∈ l := List.mem_of_mem_erase hnm
        have h3 := h n h2
        have h4 : n ≠ m := fun e => by
          subst e
          exact (List.Nodup.mem_erase_iff hn).mp hnm |>.1 rfl
        omega)
      rw [List.length_erase_of_mem c] at h1
      omega
    · have := nodup_len m l hn (fun n hnm => by
        have h3 := h n hnm
        have h4 : n ≠ m := fun e => c (e ▸ hnm)
        omega)
      omega
theorem OkL.len {L : List Rec} (h : OkL L) : L.length ≤ 10 := by
  rw [← nds_len]
  exact nodup_len 10 _ h.1 h.2
theorem OkL.app {L : List Rec} {r : Rec} (h : OkL L) (h1 : r.1 ∉ nds L) (h2 : r.1 < 10) : OkL (L ++ [r]) := by
  refine ⟨?_, ?_⟩
  · rw [nds_app, List.nodup_append]
    exact ⟨h.1, by simp, fun a ha b hb e => by
      have : b = r.1 := by simpa using hb
      subst this; rw [e] at ha; exact h1 ha⟩
  · intro n hn
    rw [nds_app] at hn
    rcases List.mem_append.mp hn with q | q
    · exact h.2 n q
    · have : n = r.1 := by simpa using q
      rw [this]; exact h2
theorem bp_ok {g : Gr} (hg : WG g) (n dn : Nat) {L : List Rec} (h : OkL L) : ∀ k, k ≤ g.1 → OkL (bp g n dn k L)
  | 0, _ => h
  | k + 1, hk => by
    have ih := bp_ok hg n dn h k (by omega)
    show OkL (match ac g k n with
      | some e => if e ∈ nds (bp g n dn k L) then bp g n dn k L else bp g n dn k L ++ [(e, n, k, dn + 1)]
      | none => bp g n dn k L)
    cases e : ac g k n with
    | none => exact ih
    | some e' =>
      by_cases c : e' ∈ nds (bp g n dn k L)
      · simp only [if_pos c]; exact ih
      · simp only [if_neg c]; exact ih.app c (ac_lt hg (by omega) e).1
theorem bp_pre (g : Gr) (n dn : Nat) (L : List Rec) : ∀ k, ∃ M, bp g n dn k L = L ++ M
  | 0 => ⟨[], by simp [bp]⟩
  | k + 1 => by
    obtain ⟨M, hM⟩ := bp_pre g n dn L k
    show ∃ M', (match ac g k n with
      | some e => if e ∈ nds (bp g n dn k L) then bp g n dn k L else bp g n dn k L ++ [(e, n, k, dn + 1)]
      | none => bp g n dn k L) = L ++ M'
    cases e : ac g k n with
    | none => exact ⟨M, hM⟩
    | some e' =>
      by_cases c : e' ∈ nds (bp g n dn k L)
      · simp only [if_pos c]; exact ⟨M, hM⟩
      · simp only [if_neg c]; exact ⟨M ++ [(e', n, k, dn + 1)], by rw [hM, List.append_assoc]⟩
theorem bs_ok {g : Gr} (hg : WG g) {src : Nat} (hs : src < 10) : ∀ i, OkL (bs g src i)
  | 0 => ⟨by simp [bs, nds], by simp [bs, nds, hs]⟩
  | i + 1 => by
    have ih := bs_ok hg hs i
    show OkL (match (bs g src i)[i]? with
      | some r => bp g r.1 r.2.2.2 g.1 (bs g src i)
      | none => bs g src i)
    cases e : (bs g src i)[i]? with
    | none => exact ih
    | some r => exact bp_ok hg _ _ ih g.1 (Nat.le_refl _)
theorem bs_stop {g : Gr} {src i : Nat} (h : (bs g src i).length ≤ i) : ∀ k, bs g src (i + k) = bs g src i
  | 0 => rfl
  | k + 1 => by
    have ih := bs_stop h k
    show (match (bs g src (i + k))[i + k]? with
      | some r => bp g r.1 r.2.2.2 g.1 (bs g src (i + k))
      | none => bs g src (i + k)) = bs g src i
    rw [ih, List.getElem?_eq_none (by omega)]
/-- a distance as the machine keeps it -/
def fI (o : Option Nat) : Int32 := match o with
  | some d => nI d
  | none => -1
theorem bs_step {g : Gr} {src i : Nat} {r : Rec} (h : (bs g src i)[i]? = some r) : bs g src (i + 1) = bp g r.1 r.2.2.2 g.1 (bs g src i) := by
  show (match (bs g src i)[i]? with
      | some r => bp g r.1 r.2.2.2 g.1 (bs g src i)
      | none => bs g src i) = _
  rw [h]
theorem bp_none {g : Gr} {n dn k : Nat} {L : List Rec} (h : ac g k n = none) : bp g n dn (k + 1) L = bp g n dn k L := by
  show (match ac g k n with
      | some e => if e ∈ nds (bp g n dn k L) then bp g n dn k L else bp g n dn k L ++ [(e, n, k, dn + 1)]
      | none => bp g n dn k L) = _
  rw [h]
theorem bp_old {g : Gr} {n dn k e : Nat} {L : List Rec} (h : ac g k n = some e) (he : e ∈ nds (bp g n dn k L)) : bp g n dn (k + 1) L = bp g n dn k L := by
  show (match ac g k n with
      | some e => if e ∈ nds (bp g n dn k L) then bp g n dn k L else bp g n dn k L ++ [(e, n, k, dn + 1)]
      | none => bp g n dn k L) = _
  rw [h]; simp only [if_pos he]
theorem bp_new {g : Gr} {n dn k e : Nat} {L : List Rec} (h : ac g k n = some e) (he : e ∉ nds (bp g n dn k L)) : bp g n dn (k + 1) L = bp g n dn k L ++ [(e, n, k, dn + 1)] := by
  show (match ac g k n with
      | some e => if e ∈ nds (bp g n dn k L) then bp g n dn k L else bp g n dn k L ++ [(e, n, k, dn + 1)]
      | none => bp g n dn k L) = _
  rw [h]; simp only [if_neg he]
/-- a record's distance is at most its place -/
def DiL (L : List Rec) : Prop := ∀ (j : Nat) (r : Rec), L[j]? = some r → r.2.2.2 ≤ j
theorem bp_di {g : Gr} {n dn i : Nat} {L : List Rec} (h : DiL L) (hi : i < L.length) (hd : dn ≤ i) : ∀ k, DiL (bp g n dn k L)
  | 0 => h
  | k + 1 => by
    have ih := bp_di (g := g) (n := n) h hi hd k
    cases e : ac g k n with
    | none => rw [bp_none e]; exact ih
    | some e' =>
      by_cases c : e' ∈ nds (bp g n dn k L)
      · rw [bp_old e c]; exact ih
      · rw [bp_new e c]
        obtain ⟨M, hM⟩ := bp_pre g n dn L k
        intro j r hj
        by_cases hl : j < (bp g n dn k L).length
        · rw [List.getElem?_append_left hl] at hj
          exact ih j r hj
        · rw [List.getElem?_append_right (by omega)] at hj
          have hz : j - (bp g n dn k L).length < 1 := (List.getElem?_eq_some_iff.mp hj).1
          rw [show j - (bp g n dn k L).length = 0 by omega] at hj
          cases hj
          rw [hM, List.length_append] at hl
          show dn + 1 ≤ j
          omega
theorem bs_di {g : Gr} {src : Nat} : ∀ i, DiL (bs g src i)
  | 0 => fun j r h => by
    have hz : j < 1 := (List.getElem?_eq_some_iff.mp h).1
    rw [show j = 0 by omega] at h
    cases h
    exact Nat.zero_le j
  | i + 1 => by
    have ih := bs_di (g := g) (src := src) i
    cases e : (bs g src i)[i]? with
    | none =>
      have : bs g src (i + 1) = bs g src i := by
        show (match (bs g src i)[i]? with
          | some r => bp g r.1 r.2.2.2 g.1 (bs g src i)
          | none => bs g src i) = _
        rw [e]
      rw [this]; exact ih
    | some r =>
      rw [bs_step e]
      exact bp_di ih (List.getElem?_eq_some_iff.mp e).1 (ih i r e) g.1
theorem dOf_lt {L : List Rec} (h : OkL L) (hd : DiL L) {j d : Nat} (e : dOf L j = some d) : d < 10 := by
  unfold dOf at e
  cases hr : rOf L j with
  | none => rw [hr] at e; cases e
  | some r =>
    rw [hr] at e
    cases e
    obtain ⟨i, hi⟩ := List.getElem?_of_mem (rOf_some hr).1
    have h1 := hd i r hi
    have h2 := (List.getElem?_eq_some_iff.mp hi).1
    have h3 := h.len
    show r.2.2.2 < 10
    omega
theorem dOf_none {L : List Rec} {j : Nat} : dOf L j = none ↔ j ∉ nds L := by
  unfold dOf
  rw [Option.map_eq_none_iff, rOf_none]
theorem fI_neg {o : Option Nat} (h : ∀ d, o = some d → d < 10) : (fI o < 0) ↔ o = none := by
  cases o with
  | none => exact ⟨fun _ => rfl, fun _ => by decide⟩
  | some d => exact ⟨fun q => absurd q (nI_pos (by have := h d rfl; omega)), fun q => by cases q⟩
theorem nI_e10 {a b : Nat} (ha : a < 10) (hb : b < 10) : nI a = nI b ↔ a = b := nI_eq (by omega) (by omega)
