/-! ===== the reference's small methods, in plain words ===== -/
theorem copyI (G : Nat → Mem → Prop) (N a b sp dp : Nat) (σ : Mem) (hc : a ≠ b ∨ dp ≤ sp) (hx : G N (ci σ a b sp dp N)) (hs : ∀ k, k < N → G (k + 1) (wi (ci σ a b sp dp k) b (dp + k) ((ci σ a b sp dp k).1 a (sp + k))) → G k (ci σ a b sp dp k)) : G 0 σ := by
  have := cnt N (fun _ (_ : Unit) => True) (fun k _ => G k (ci σ a b sp dp k)) (fun _ _ => hx) (fun k _ hk _ ih => hs k hk (by rw [ci_step σ a b sp dp k hc]; exact ih () trivial)) 0 () (Nat.zero_le N) trivial
  rw [ci_0] at this
  exact this
theorem copyL (G : Nat → Mem → Prop) (N a b sp dp : Nat) (σ : Mem) (hc : a ≠ b ∨ dp ≤ sp) (hx : G N (cl σ a b sp dp N)) (hs : ∀ k, k < N → G (k + 1) (wl (cl σ a b sp dp k) b (dp + k) ((cl σ a b sp dp k).2.1 a (sp + k))) → G k (cl σ a b sp dp k)) : G 0 σ := by
  have := cnt N (fun _ (_ : Unit) => True) (fun k _ => G k (cl σ a b sp dp k)) (fun _ _ => hx) (fun k _ hk _ ih => hs k hk (by rw [cl_step σ a b sp dp k hc]; exact ih () trivial)) 0 () (Nat.zero_le N) trivial
  rw [cl_0] at this
  exact this
theorem lit_ge {N k : Nat} (hN : N < 2 ^ 31) (hk : k < N) (c : nI N ≤ nI k) : False := by
  have := n_le hN (by omega) c
  omega
theorem lit_lt {N k : Nat} (hN : N < 2 ^ 31) (hk : N ≤ k) (hk2 : k < 2 ^ 31) (c : ¬ nI N ≤ nI k) : False := by
  have := n_nle hN hk2 c
  omega
theorem nI_mul (a b : Nat) : nI a * nI b = nI (a * b) := pk_mul a b
theorem ix_of {p w : Nat} : (8 + (4 * nI p)) + nI w = nI (8 + 4 * p + w) := by
  rw [show (8 : Int32) = nI 8 from rfl, show (4 : Int32) = nI 4 from rfl, nI_mul, nI_add, nI_add]
theorem ix_st {n : Nat} : 48 + (6 * nI n) = nI (48 + 6 * n) := by
  rw [show (48 : Int32) = nI 48 from rfl, show (6 : Int32) = nI 6 from rfl, nI_mul, nI_add]
theorem ix_st' {n w : Nat} : (48 + (6 * nI n)) + nI w = nI (48 + 6 * n + w) := by rw [ix_st, nI_add]
theorem i_X5_in {p0 p1 p2 : Int32} {σ : Mem} {K : Int32 → Mem → Prop} {X : String → Mem → Prop} (h : K (if ¬ p0 < p1 ∧ ¬ p2 < p0 then 1 else 0) σ) : sp_X5_in p0 p1 p2 σ K X := by
  refine ⟨fun c => ?_, fun c => ⟨fun d => ?_, fun d => ?_⟩⟩
  · rw [if_neg (fun q => q.1 c)] at h; exact h
  · rw [if_neg (fun q => q.2 d)] at h; exact h
  · rw [if_pos ⟨c, d⟩] at h; exact h
theorem nb01 (c : Prop) [Decidable c] : narrow .boolean (.int (if c then (1 : Int32) else 0)) = .int (if c then 1 else 0) := by
  by_cases h : c
  · rw [if_pos h]; rfl
  · rw [if_neg h]; rfl
theorem i_X5_isNode {p0 : Int32} {σ : Mem} {K : Int32 → Mem → Prop} {X : String → Mem → Prop} (h : K (if ¬ p0 < 0 ∧ ¬ 9 < p0 then 1 else 0) σ) : sp_X5_isNode p0 σ K X := i_X5_in ⟨nb01 _, h⟩
theorem i_X5_isPipe {p0 : Int32} {σ : Mem} {K : Int32 → Mem → Prop} {X : String → Mem → Prop} (h : K (if ¬ p0 < 0 ∧ ¬ σ.1 210 7 - 1 < p0 then 1 else 0) σ) : sp_X5_isPipe p0 σ K X := by
  unfold sp_X5_isPipe sp_X5_pipes
  exact i_X5_in ⟨nb01 _, h⟩
theorem i_X5_of {p w : Nat} {σ : Mem} {K : Int32 → Mem → Prop} {X : String → Mem → Prop} (hp : 8 + 4 * p + w < 108) (h : K (σ.1 210 (8 + 4 * p + w)) σ) : sp_X5_of (nI p) (nI w) σ K X := by
  unfold sp_X5_of
  rw [ix_of]
  exact ⟨n_inR hp (by decide), by rw [n_cl (by omega)]; exact h⟩
/-- the other end of a pipe at a node, -1 if it doesn't lie there -/
def acr (σ : Mem) (p : Nat) (v : Int32) : Int32 := if σ.1 210 (8 + 4 * p) = v then σ.1 210 (8 + 4 * p + 1) else if σ.1 210 (8 + 4 * p + 1) = v then σ.1 210 (8 + 4 * p) else -1
theorem i_X5_across {p : Nat} {v : Int32} {σ : Mem} {K : Int32 → Mem → Prop} {X : String → Mem → Prop} (hp : p < 10) (h : K (acr σ p v) σ) : sp_X5_across (nI p) v σ K X := by
  unfold acr at h
  rw [show 8 + 4 * p = 8 + 4 * p + 0 from rfl] at h
  refine i_X5_of (w := 0) (by omega) ⟨fun c => i_X5_of (w := 1) (by omega) ⟨fun d => ?_, fun d => i_X5_of (w := 0) (by omega) ?_⟩, fun c => i_X5_of (w := 1) (by omega) ?_⟩
  · rw [if_neg c, if_neg d] at h; exact h
  · rw [if_neg c, if_pos d] at h; exact h
  · rw [if_pos c] at h; exact h
/-- whether the reference has a station at a node -/
def stM (σ : Mem) (n : Nat) : Prop := 1 ≤ n ∧ σ.1 210 (48 + 6 * n) = 1
theorem i_X5_hasStation {n : Nat} {σ : Mem} {K : Int32 → Mem → Prop} {X : String → Mem → Prop} (hn : n < 10) (h : K (if 1 ≤ n ∧ σ.1 210 (48 + 6 * n) = 1 then 1 else 0) σ) : sp_X5_hasStation (nI n) σ K X := by
  refine i_X5_in ⟨fun c => ?_, fun c => ?_⟩
  · have h0 : ¬ 1 ≤ n := by
      intro q
      rw [if_pos ⟨nI_nlt (a := n) (b := 1) q (by omega), nI_nlt (a := 9) (b := n) (by omega) (by decide)⟩] at c
      exact absurd c (by decide)
    rw [if_neg (fun q => h0 q.1)] at h; exact h
  · have h0 : 1 ≤ n := by
      apply Classical.byContradiction
      intro q
      have e : n = 0 := by omega
      subst e
      rw [if_neg (fun w => w.1 (by decide))] at c
      exact c rfl
    rw [ix_st]
    refine ⟨n_inR (by omega) (by decide), fun d => ?_, fun d => ?_⟩
    · rw [n_cl (by omega)] at d
      rw [if_neg (fun q => d q.2)] at h; exact h
    · rw [n_cl (by omega)] at d
      rw [if_pos ⟨h0, d⟩] at h; exact h
theorem i_X5_raises {v : Int32} {σ : Mem} {K : Int32 → Mem → Prop} {X : String → Mem → Prop} (h : K 0 (wi σ 209 0 v)) : sp_X5_raises v σ K X := fun σ2 e => by rw [e]; exact h
theorem i_X5_refuses {u v : Int32} {σ : Mem} {K : Int32 → Mem → Prop} {X : String → Mem → Prop} (h : K 0 (wi (wi σ 209 15 u) 209 0 v)) : sp_X5_refuses u v σ K X := fun σ2 e => by rw [e]; exact i_X5_raises h
