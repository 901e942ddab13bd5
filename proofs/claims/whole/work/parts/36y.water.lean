/-! ===== the order in which water comes to the nodes ===== -/
/-- water may come from e to n; f: the loop's flows -/
def PreW (L : List Rec) (c : Lp) (f : Nat → Int) (e n : Nat) : Prop := (n ∈ nds L ∧ n ≠ 0 ∧ ¬ inT c n ∧ e = fe L n) ∨ ∃ i, 0 < i ∧ i < c.1 ∧ n = c.2.1 i ∧ ((0 < f (i - 1) ∧ e = c.2.1 (i - 1)) ∨ (f i < 0 ∧ e = c.2.1 (nxt c i)))
def OrdW (L : List Rec) (c : Lp) (f : Nat → Int) (W : List Nat) : Prop := ∀ (i n : Nat), W[i]? = some n → ∀ e, PreW L c f e n → ∃ j : Nat, j < i ∧ W[j]? = some e
theorem OrdW.app {L : List Rec} {c : Lp} {f : Nat → Int} {W : List Nat} {n : Nat} (h : OrdW L c f W) (hp : ∀ e, PreW L c f e n → e ∈ W) : OrdW L c f (W ++ [n]) := by
  intro i m hi e he
  rcases get_app1 hi with q | ⟨q1, q2⟩
  · obtain ⟨j, j1, j2⟩ := h i m q e he
    exact ⟨j, j1, get_app j2⟩
  · rw [q2] at he
    obtain ⟨j, hj⟩ := List.getElem?_of_mem (hp e he)
    have := (List.getElem?_eq_some_iff.mp hj).1
    exact ⟨j, by omega, get_app hj⟩
/-- the list stands in row b -/
def RowW (b : Nat) (W : List Nat) (τ : Mem) : Prop := ∀ (i v : Nat), W[i]? = some v → τ.1 b i = nI v
theorem RowW.app {b : Nat} {W : List Nat} {τ : Mem} (h : RowW b W τ) (n : Nat) : RowW b (W ++ [n]) (wi τ b W.length (nI n)) := by
  intro i v hi
  rw [wi_i]
  rcases get_app1 hi with q | ⟨q1, q2⟩
  · have := (List.getElem?_eq_some_iff.mp q).1
    rw [if_neg (fun w => by omega)]
    exact h i v q
  · rw [if_pos ⟨rfl, q1⟩, q2]
theorem nodup_app {W : List Nat} {n : Nat} (h : W.Nodup) (hn : n ∉ W) : (W ++ [n]).Nodup := by
  rw [List.nodup_append]
  exact ⟨h, by simp, fun a ha b hb e => by
    have : b = n := by simpa using hb
    rw [this] at e
    rw [e] at ha; exact hn ha⟩
theorem mem_app {W : List Nat} {n m : Nat} : m ∈ W ++ [n] ↔ m ∈ W ∨ m = n := by simp
/-- flows that fall round the loop -/
def Fall (c : Lp) (f : Nat → Int) : Prop := (∀ i j, i ≤ j → j < c.1 → f j ≤ f i) ∧ ∀ k, k < c.1 → -20000 ≤ f k ∧ f k ≤ 20000
