/-! ===== both sides say the same at the start ===== -/
def w00 (k : Nat) : Int32 := if k < 7 then FV k else 0
def g00 : Gr := (0, fun _ => 0, fun _ => 0)
theorem no_p {p : Nat} {Q : Prop} (h : p < g00.1) : Q := absurd h (Nat.not_lt_zero p)
theorem no_w {n : Nat} {Q : Prop} (h : hasW w00 n) : Q := by
  have h2 := h.2
  rw [show w00 (48 + 6 * n) = 0 from if_neg (by omega)] at h2
  exact absurd h2 (by decide)
theorem wf00 : WFw w00 g00 :=
  ⟨rfl, ⟨by decide, fun p h => no_p h⟩, ⟨fun _ => 0, fun p h => no_p h, fun p q h => no_p h⟩, fun p q n e h => no_p h, fun p h => no_p h,
    ⟨900, by decide, by decide, rfl⟩, ⟨100, by decide, by decide, rfl⟩, ⟨0, by decide, by decide, rfl⟩, ⟨10, by decide, by decide, rfl⟩, ⟨50000000, by decide, by decide, rfl⟩, ⟨100, by decide, by decide, rfl⟩, ⟨5, by decide, by decide, rfl⟩, fun n _ h => no_w h⟩
theorem rel_start {σ : Mem} (h2 : ∀ k, k < 7 → σ.1 2 k = FV k) (h1 : σ.1 1 1 = 0) (h7 : ∀ n, σ.1 7 n = 0) (l1 : ∀ k, σ.2.1 1 k = 0) (h210 : ∀ k, k < 108 → σ.1 210 k = w00 k) (h211 : ∀ k, σ.2.1 211 k = 0)
    (h0 : ∀ k, k ≠ 12 → σ.1 0 k = 0) (h9 : ∀ k, k ≠ 14 → σ.1 209 k = 0) (h12 : σ.1 0 12 = -1) (h14 : σ.1 209 14 = -1) (h79 : σ.1 79 1 = 0) : Rel σ := by
  refine ⟨w00, g00, fun _ => 0, ⟨wf00, ⟨⟨fun k hk => (h2 k hk).trans (if_pos hk).symm, ⟨h1, fun p h => no_p h⟩, fun p h => no_p h, fun n _ => ⟨fun h => no_w h, fun _ => h7 n⟩⟩, fun n _ h => no_w h, l1 14, l1 15, l1 16, l1 17⟩, h210, fun k _ => h211 k, ⟨by rw [h0 10 (by decide), h9 8 (by decide)], fun z => absurd (h0 10 (by decide)) z⟩, ⟨0, 0, by decide, by decide, h0 8 (by decide), h0 9 (by decide), h9 5 (by decide), fun j hj => absurd hj (Nat.not_lt_zero j)⟩, ⟨fun _ => 0, 0, ⟨by decide, h79, fun i hi => absurd hi (Nat.not_lt_zero i)⟩, ⟨by decide, h9 12 (by decide), fun i hi => absurd hi (Nat.not_lt_zero i)⟩⟩, by rw [h12, h14], by rw [h0 13 (by decide), h9 15 (by decide)]⟩, fun z => absurd (h0 11 (by decide)) z⟩
