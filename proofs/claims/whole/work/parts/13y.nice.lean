/-! ===== the class's small methods, in plain words ===== -/
theorem i_X4_isWithin {p0 p1 p2 : Int32} {σ : Mem} {K : Int32 → Mem → Prop} {X : String → Mem → Prop} (h : K (if ¬ p0 < p1 ∧ ¬ p2 < p0 then 1 else 0) σ) : sp_X4_isWithin p0 p1 p2 σ K X := by
  refine ⟨fun c => ?_, fun c => ⟨fun d => ?_, fun d => ?_⟩⟩
  · rw [if_neg (fun q => q.1 c)] at h; exact h
  · rw [if_neg (fun q => q.2 d)] at h; exact h
  · rw [if_pos ⟨c, d⟩] at h; exact h
theorem i_X4_isNode {p0 : Int32} {σ : Mem} {K : Int32 → Mem → Prop} {X : String → Mem → Prop} (h : K (if ¬ p0 < 0 ∧ ¬ 9 < p0 then 1 else 0) σ) : sp_X4_isNode p0 σ K X := i_X4_isWithin ⟨nb01 _, h⟩
theorem node_in {n : Nat} (hn : n < 10) : ¬ nI n < 0 ∧ ¬ (9 : Int32) < nI n := ⟨nI_pos (by omega), nI_nlt (a := 9) (b := n) (by omega) (by decide)⟩
theorem i_X0_hasStation {a n : Nat} {σ : Mem} {K : Int32 → Mem → Prop} {X : String → Mem → Prop} (ha : NetA a) (hn : n < 10) (h : K (if ¬ σ.1 (a + 6) n ≤ 0 then 1 else 0) σ) : sp_X0_hasStation a (nI n) σ K X := by
  refine ⟨ha, i_X4_isNode ⟨fun c => ?_, fun c => ⟨n_inR hn (by decide), fun d => ?_, fun d => ?_⟩⟩⟩
  · rw [if_pos (node_in hn)] at c
    exact absurd c (by decide)
  · rw [n_cl (by omega)] at d
    rw [if_neg (fun q => q d)] at h; exact h
  · rw [n_cl (by omega)] at d
    rw [if_pos d] at h; exact h
/-- the other end of a pipe of a class network -/
def feC (σ : Mem) (a p : Nat) (v : Int32) : Int32 := if σ.1 (a + 2) p = v then σ.1 (a + 3) p else if σ.1 (a + 3) p = v then σ.1 (a + 2) p else -1
theorem i_X0_farEnd {a p : Nat} {v : Int32} {σ : Mem} {K : Int32 → Mem → Prop} {X : String → Mem → Prop} (ha : NetA a) (hp : p < 10) (h : K (feC σ a p v) σ) : sp_X0_farEnd a (nI p) v σ K X := by
  unfold feC at h
  have hi := n_inR hp (by decide)
  unfold sp_X0_farEnd
  rw [n_cl (by omega)]
  refine ⟨ha, hi, fun c => ⟨hi, fun d => ?_, fun d => ⟨hi, ?_⟩⟩, fun c => ⟨hi, ?_⟩⟩
  · rw [if_neg c, if_neg d] at h; exact h
  · rw [if_neg c, if_pos d] at h; exact h
  · rw [if_pos c] at h; exact h
def abs64 (x : Int64) : Int64 := if 0 ≤ x then x else -x
theorem i_J9_abs {v : Int64} {σ : Mem} {K : Int64 → Mem → Prop} {X : String → Mem → Prop} (h : K (abs64 v) σ) : sp_J9_abs_067f4 v σ K X := by
  unfold abs64 at h
  refine ⟨fun c => ?_, fun c => ?_⟩
  · rw [if_pos c] at h; exact h
  · rw [if_neg c] at h; exact h
/-- how many below n -/
def ctB (p : Nat → Bool) : Nat → Nat
  | 0 => 0
  | n + 1 => ctB p n + if p n then 1 else 0
theorem ctB_le (p : Nat → Bool) : ∀ n, ctB p n ≤ n
  | 0 => Nat.le_refl 0
  | n + 1 => by
    have := ctB_le p n
    show ctB p n + (if p n then 1 else 0) ≤ n + 1
    split <;> omega
theorem ctB_congr {p q : Nat → Bool} : ∀ {n : Nat}, (∀ k, k < n → p k = q k) → ctB p n = ctB q n
  | 0, _ => rfl
  | n + 1, h => by
    show ctB p n + _ = ctB q n + _
    rw [ctB_congr (fun k hk => h k (by omega)), h n (by omega)]
/-- the first greatest: node and value -/
def sus (has : Nat → Bool) (dv : Nat → Int64) : Nat → Int32 × Int64
  | 0 => (-1, -1)
  | n + 1 => if has n && decide (¬ dv n ≤ (sus has dv n).2) then (nI n, dv n) else sus has dv n
theorem sus_congr {p q : Nat → Bool} {f g : Nat → Int64} : ∀ {n : Nat}, (∀ k, k < n → p k = q k) → (∀ k, k < n → q k = true → f k = g k) → sus p f n = sus q g n
  | 0, _, _ => rfl
  | n + 1, h, h2 => by
    have ih := sus_congr (p := p) (q := q) (f := f) (g := g) (n := n) (fun k hk => h k (by omega)) (fun k hk => h2 k (by omega))
    simp only [sus]
    rw [ih, h n (by omega)]
    by_cases c : q n = true
    · rw [h2 n (by omega) c]
    · simp [c]
