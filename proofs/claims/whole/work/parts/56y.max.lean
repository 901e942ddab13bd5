/-! ===== the greatest of some; a row less ===== -/
/-- v is the greatest h of those in S, 0 if none is -/
def GMx (S : Nat → Prop) (h : Nat → Int64) (v : Int64) : Prop := (∀ n, S n → (h n).toInt ≤ v.toInt) ∧ ((∃ n, S n ∧ v = h n) ∨ ((∀ n, ¬ S n) ∧ v = 0))
theorem GMx.uniq {S : Nat → Prop} {h : Nat → Int64} {v v' : Int64} (A : GMx S h v) (B : GMx S h v') : v = v' := by
  obtain ⟨a1, a2⟩ := A
  obtain ⟨b1, b2⟩ := B
  rcases a2 with ⟨n, n1, n2⟩ | ⟨a3, a4⟩
  · rcases b2 with ⟨m, m1, m2⟩ | ⟨b3, -⟩
    · have q1 := b1 n n1
      have q2 := a1 m m1
      rw [← n2] at q1
      rw [← m2] at q2
      exact Int64.toInt_inj.mp (by omega)
    · exact absurd n1 (b3 n)
  · rcases b2 with ⟨m, m1, -⟩ | ⟨-, b4⟩
    · exact absurd m1 (a3 m)
    · rw [a4, b4]
theorem GMx.cg {S S' : Nat → Prop} {h : Nat → Int64} {v : Int64} (e : ∀ n, S n ↔ S' n) (A : GMx S h v) : GMx S' h v := by
  obtain ⟨a1, a2⟩ := A
  refine ⟨fun n q => a1 n ((e n).mpr q), ?_⟩
  rcases a2 with ⟨n, n1, n2⟩ | ⟨a3, a4⟩
  · exact .inl ⟨n, (e n).mp n1, n2⟩
  · exact .inr ⟨fun n q => a3 n ((e n).mpr q), a4⟩
theorem GMx.nil {S : Nat → Prop} {h : Nat → Int64} (e : ∀ n, ¬ S n) : GMx S h 0 := ⟨fun n q => absurd q (e n), .inr ⟨e, rfl⟩⟩
theorem GMx.one {S S' : Nat → Prop} {h : Nat → Int64} {m : Nat} (e : ∀ n, ¬ S n) (e' : ∀ n, S' n ↔ S n ∨ n = m) : GMx S' h (h m) := by
  refine ⟨fun n q => ?_, .inl ⟨m, (e' m).mpr (.inr rfl), rfl⟩⟩
  rcases (e' n).mp q with q | q
  · exact absurd q (e n)
  · rw [q]; exact Int.le_refl _
theorem GMx.add {S S' : Nat → Prop} {h : Nat → Int64} {v v' : Int64} {m k : Nat} (A : GMx S h v) (hk : S k) (e' : ∀ n, S' n ↔ S n ∨ n = m) (c1 : v < h m → v' = h m) (c2 : ¬ v < h m → v' = v) : GMx S' h v' := by
  obtain ⟨a1, a2⟩ := A
  by_cases c : v < h m
  · rw [c1 c]
    have c' := Int64.lt_iff_toInt_lt.mp c
    refine ⟨fun n q => ?_, .inl ⟨m, (e' m).mpr (.inr rfl), rfl⟩⟩
    rcases (e' n).mp q with q | q
    · have := a1 n q; omega
    · rw [q]; exact Int.le_refl _
  · rw [c2 c]
    have c' : ¬ v.toInt < (h m).toInt := fun z => c (Int64.lt_iff_toInt_lt.mpr z)
    refine ⟨fun n q => ?_, ?_⟩
    · rcases (e' n).mp q with q | q
      · exact a1 n q
      · rw [q]; omega
    · rcases a2 with ⟨n, n1, n2⟩ | ⟨a3, -⟩
      · exact .inl ⟨n, (e' n).mpr (.inl n1), n2⟩
      · exact absurd hk (a3 k)
/-- the pipes' rows of a network, when the places from p to k - 1 have taken the next one's -/
def drK (σ : Mem) (a p n k : Nat) : Mem := (fun b j => if b = a ∧ j = 1 then nI n else if (b = a + 2 ∨ b = a + 3 ∨ b = a + 4 ∨ b = a + 5) ∧ p ≤ j ∧ j < k then σ.1 b (j + 1) else σ.1 b j, σ.2)
theorem drK_i (σ : Mem) (a p n k b j : Nat) : (drK σ a p n k).1 b j = if b = a ∧ j = 1 then nI n else if (b = a + 2 ∨ b = a + 3 ∨ b = a + 4 ∨ b = a + 5) ∧ p ≤ j ∧ j < k then σ.1 b (j + 1) else σ.1 b j := rfl
theorem drK_0 (σ : Mem) (a p n : Nat) : wi σ a 1 (nI n) = drK σ a p n p := by
  refine Prod.ext (funext fun b => funext fun j => ?_) rfl
  show (wi σ a 1 (nI n)).1 b j = (drK σ a p n p).1 b j
  rw [wi_i, drK_i]
  by_cases q : b = a ∧ j = 1
  · rw [if_pos q, if_pos q]
  · rw [if_neg q, if_neg q, if_neg (fun z => by omega)]
theorem drK_s (σ : Mem) (a p n k : Nat) (hp : p ≤ k) : wi (wi (wi (wi (drK σ a p n k) (a + 2) k (σ.1 (a + 2) (k + 1))) (a + 3) k (σ.1 (a + 3) (k + 1))) (a + 4) k (σ.1 (a + 4) (k + 1))) (a + 5) k (σ.1 (a + 5) (k + 1)) = drK σ a p n (k + 1) := by
  refine Prod.ext (funext fun b => funext fun j => ?_) rfl
  show (wi (wi (wi (wi (drK σ a p n k) (a + 2) k (σ.1 (a + 2) (k + 1))) (a + 3) k (σ.1 (a + 3) (k + 1))) (a + 4) k (σ.1 (a + 4) (k + 1))) (a + 5) k (σ.1 (a + 5) (k + 1))).1 b j = (drK σ a p n (k + 1)).1 b j
  rw [wi_i, wi_i, wi_i, wi_i, drK_i, drK_i]
  by_cases q5 : b = a + 5 ∧ j = k
  · rw [if_pos q5, if_neg (by omega), if_pos ⟨by omega, by omega, by omega⟩, q5.1, q5.2]
  · rw [if_neg q5]
    by_cases q4 : b = a + 4 ∧ j = k
    · rw [if_pos q4, if_neg (by omega), if_pos ⟨by omega, by omega, by omega⟩, q4.1, q4.2]
    · rw [if_neg q4]
      by_cases q3 : b = a + 3 ∧ j = k
      · rw [if_pos q3, if_neg (by omega), if_pos ⟨by omega, by omega, by omega⟩, q3.1, q3.2]
      · rw [if_neg q3]
        by_cases q2 : b = a + 2 ∧ j = k
        · rw [if_pos q2, if_neg (by omega), if_pos ⟨by omega, by omega, by omega⟩, q2.1, q2.2]
        · rw [if_neg q2]
          by_cases q1 : b = a ∧ j = 1
          · rw [if_pos q1, if_pos q1]
          · rw [if_neg q1, if_neg q1]
            by_cases q : (b = a + 2 ∨ b = a + 3 ∨ b = a + 4 ∨ b = a + 5) ∧ p ≤ j ∧ j < k
            · rw [if_pos q, if_pos ⟨q.1, q.2.1, by omega⟩]
            · rw [if_neg q, if_neg (fun z => by omega)]
theorem tsw_outL (l N : Nat) {lo hi : Int} {v : Int32} (e1 : lo = (l : Int)) (e2 : hi = (l : Int) + (N : Int) - 1) (hN : l + N < 2 ^ 31) (h : ∀ k : Nat, k < N → ¬ v = nI (l + k)) : v.toInt < lo ∨ hi < v.toInt := by
  rcases Int.lt_or_le v.toInt lo with h1 | h1
  · exact Or.inl h1
  · refine Or.inr ?_
    apply Int.not_le.mp
    intro h2
    refine h (v.toInt.toNat - l) (by omega) ?_
    rw [← Int32.toInt_inj, nI_toInt (by omega)]
    omega
