/-! ===== small rows for loops and the pool ===== -/
/-- a counted loop, upward -/
theorem cnt {α : Type} (N : Nat) (I G : Nat → α → Prop) (hx : ∀ s, I N s → G N s) (hs : ∀ k s, k < N → I k s → (∀ s', I (k + 1) s' → G (k + 1) s') → G k s) : ∀ k s, k ≤ N → I k s → G k s := by
  intro k s hk
  obtain ⟨d, hd⟩ : ∃ d, N = k + d := ⟨N - k, by omega⟩
  clear hk
  induction d generalizing k s with
  | zero => intro h; have : k = N := by omega
            subst this; exact hx s h
  | succ d ih => intro h; exact hs k s (by omega) h (fun s' h' => ih (k + 1) s' (by omega) h')
/-- a loop with a measure -/
theorem msr {α : Type} (μ : α → Nat) (I G : α → Prop) (hs : ∀ s, I s → (∀ s', I s' → μ s' < μ s → G s') → G s) : ∀ s, I s → G s := by
  intro s
  generalize hn : μ s = n
  induction n using Nat.strongRecOn generalizing s with
  | ind n ih => intro h; exact hs s h (fun s' h' hl => ih (μ s') (by omega) s' rfl h')
theorem Mem.ext {σ τ : Mem} (h1 : ∀ a k, σ.1 a k = τ.1 a k) (h2 : ∀ a k, σ.2.1 a k = τ.2.1 a k) (h3 : ∀ a k, σ.2.2 a k = τ.2.2 a k) : σ = τ := by
  obtain ⟨s1, s2, s3⟩ := σ
  obtain ⟨t1, t2, t3⟩ := τ
  have e1 : s1 = t1 := funext fun a => funext fun k => h1 a k
  have e2 : s2 = t2 := funext fun a => funext fun k => h2 a k
  have e3 : s3 = t3 := funext fun a => funext fun k => h3 a k
  rw [e1, e2, e3]
theorem wi_i (σ : Mem) (a k : Nat) (v : Int32) (b j : Nat) : (wi σ a k v).1 b j = if b = a ∧ j = k then v else σ.1 b j := by
  simp only [wi]; by_cases h : b = a <;> by_cases h' : j = k <;> simp [h, h']
theorem wi_l (σ : Mem) (a k : Nat) (v : Int32) (b j : Nat) : (wi σ a k v).2.1 b j = σ.2.1 b j := rfl
theorem wi_d (σ : Mem) (a k : Nat) (v : Int32) (b j : Nat) : (wi σ a k v).2.2 b j = σ.2.2 b j := rfl
theorem wl_i (σ : Mem) (a k : Nat) (v : Int64) (b j : Nat) : (wl σ a k v).1 b j = σ.1 b j := rfl
theorem wl_l (σ : Mem) (a k : Nat) (v : Int64) (b j : Nat) : (wl σ a k v).2.1 b j = if b = a ∧ j = k then v else σ.2.1 b j := by
  simp only [wl]; by_cases h : b = a <;> by_cases h' : j = k <;> simp [h, h']
theorem wl_d (σ : Mem) (a k : Nat) (v : Int64) (b j : Nat) : (wl σ a k v).2.2 b j = σ.2.2 b j := rfl
theorem wd_i (σ : Mem) (a k : Nat) (v : UInt64) (b j : Nat) : (wd σ a k v).1 b j = σ.1 b j := rfl
theorem wd_l (σ : Mem) (a k : Nat) (v : UInt64) (b j : Nat) : (wd σ a k v).2.1 b j = σ.2.1 b j := rfl
theorem wd_d (σ : Mem) (a k : Nat) (v : UInt64) (b j : Nat) : (wd σ a k v).2.2 b j = if b = a ∧ j = k then v else σ.2.2 b j := by
  simp only [wd]; by_cases h : b = a <;> by_cases h' : j = k <;> simp [h, h']
theorem ci_i (σ : Mem) (a b sp dp n c j : Nat) : (ci σ a b sp dp n).1 c j = if c = b ∧ dp ≤ j ∧ j < dp + n then σ.1 a (sp + (j - dp)) else σ.1 c j := by
  simp only [ci, va_cpy]
  by_cases h : c = b
  · subst h; simp
  · simp [h]
theorem ci_l (σ : Mem) (a b sp dp n c j : Nat) : (ci σ a b sp dp n).2.1 c j = σ.2.1 c j := rfl
theorem ci_d (σ : Mem) (a b sp dp n c j : Nat) : (ci σ a b sp dp n).2.2 c j = σ.2.2 c j := rfl
theorem cl_i (σ : Mem) (a b sp dp n c j : Nat) : (cl σ a b sp dp n).1 c j = σ.1 c j := rfl
theorem cl_l (σ : Mem) (a b sp dp n c j : Nat) : (cl σ a b sp dp n).2.1 c j = if c = b ∧ dp ≤ j ∧ j < dp + n then σ.2.1 a (sp + (j - dp)) else σ.2.1 c j := by
  simp only [cl, va_cpy]
  by_cases h : c = b
  · subst h; simp
  · simp [h]
theorem cl_d (σ : Mem) (a b sp dp n c j : Nat) : (cl σ a b sp dp n).2.2 c j = σ.2.2 c j := rfl
theorem ci_0 (σ : Mem) (a b sp dp : Nat) : ci σ a b sp dp 0 = σ := by
  refine Mem.ext (fun c j => ?_) (fun _ _ => rfl) (fun _ _ => rfl)
  rw [ci_i, if_neg (by omega)]
theorem cl_0 (σ : Mem) (a b sp dp : Nat) : cl σ a b sp dp 0 = σ := by
  refine Mem.ext (fun _ _ => rfl) (fun c j => ?_) (fun _ _ => rfl)
  rw [cl_l, if_neg (by omega)]
/-- one more place of a row is copied -/
theorem ci_step (σ : Mem) (a b sp dp k : Nat) (h : a ≠ b ∨ dp ≤ sp) : wi (ci σ a b sp dp k) b (dp + k) ((ci σ a b sp dp k).1 a (sp + k)) = ci σ a b sp dp (k + 1) := by
  refine Mem.ext (fun c j => ?_) (fun _ _ => rfl) (fun _ _ => rfl)
  rw [wi_i, ci_i, ci_i, ci_i]
  have h0 : ¬ (a = b ∧ dp ≤ sp + k ∧ sp + k < dp + k) := by omega
  rw [if_neg h0]
  by_cases h1 : c = b ∧ j = dp + k
  · rw [if_pos h1, if_pos ⟨h1.1, by omega, by omega⟩, show sp + (j - dp) = sp + k by omega]
  · rw [if_neg h1]
    by_cases h2 : c = b ∧ dp ≤ j ∧ j < dp + k
    · rw [if_pos h2, if_pos ⟨h2.1, h2.2.1, by omega⟩]
    · rw [if_neg h2, if_neg (by intro q; apply h2; refine ⟨q.1, q.2.1, ?_⟩; have : j ≠ dp + k := fun e => h1 ⟨q.1, e⟩; omega)]
theorem cl_step (σ : Mem) (a b sp dp k : Nat) (h : a ≠ b ∨ dp ≤ sp) : wl (cl σ a b sp dp k) b (dp + k) ((cl σ a b sp dp k).2.1 a (sp + k)) = cl σ a b sp dp (k + 1) := by
  refine Mem.ext (fun _ _ => rfl) (fun c j => ?_) (fun _ _ => rfl)
  rw [wl_l, cl_l, cl_l, cl_l]
  have h0 : ¬ (a = b ∧ dp ≤ sp + k ∧ sp + k < dp + k) := by omega
  rw [if_neg h0]
  by_cases h1 : c = b ∧ j = dp + k
  · rw [if_pos h1, if_pos ⟨h1.1, by omega, by omega⟩, show sp + (j - dp) = sp + k by omega]
  · rw [if_neg h1]
    by_cases h2 : c = b ∧ dp ≤ j ∧ j < dp + k
    · rw [if_pos h2, if_pos ⟨h2.1, h2.2.1, by omega⟩]
    · rw [if_neg h2, if_neg (by intro q; apply h2; refine ⟨q.1, q.2.1, ?_⟩; have : j ≠ dp + k := fun e => h1 ⟨q.1, e⟩; omega)]
/-- a row filled up to n -/
def fi (σ : Mem) (a n : Nat) (v : Int32) : Mem := (fun c j => if c = a ∧ j < n then v else σ.1 c j, σ.2)
def fl (σ : Mem) (a n : Nat) (v : Int64) : Mem := (σ.1, fun c j => if c = a ∧ j < n then v else σ.2.1 c j, σ.2.2)
theorem fi_i (σ : Mem) (a n : Nat) (v : Int32) (c j : Nat) : (fi σ a n v).1 c j = if c = a ∧ j < n then v else σ.1 c j := rfl
theorem fi_l (σ : Mem) (a n : Nat) (v : Int32) (c j : Nat) : (fi σ a n v).2.1 c j = σ.2.1 c j := rfl
theorem fi_d (σ : Mem) (a n : Nat) (v : Int32) (c j : Nat) : (fi σ a n v).2.2 c j = σ.2.2 c j := rfl
theorem fl_i (σ : Mem) (a n : Nat) (v : Int64) (c j : Nat) : (fl σ a n v).1 c j = σ.1 c j := rfl
theorem fl_l (σ : Mem) (a n : Nat) (v : Int64) (c j : Nat) : (fl σ a n v).2.1 c j = if c = a ∧ j < n then v else σ.2.1 c j := rfl
theorem fl_d (σ : Mem) (a n : Nat) (v : Int64) (c j : Nat) : (fl σ a n v).2.2 c j = σ.2.2 c j := rfl
theorem fi_0 (σ : Mem) (a : Nat) (v : Int32) : fi σ a 0 v = σ := Mem.ext (fun c j => by rw [fi_i, if_neg (by omega)]) (fun _ _ => rfl) (fun _ _ => rfl)
theorem fl_0 (σ : Mem) (a : Nat) (v : Int64) : fl σ a 0 v = σ := Mem.ext (fun _ _ => rfl) (fun c j => by rw [fl_l, if_neg (by omega)]) (fun _ _ => rfl)
theorem fi_step (σ : Mem) (a k : Nat) (v : Int32) : wi (fi σ a k v) a k v = fi σ a (k + 1) v := by
  refine Mem.ext (fun c j => ?_) (fun _ _ => rfl) (fun _ _ => rfl)
  rw [wi_i, fi_i, fi_i]
  by_cases h1 : c = a
  · by_cases h2 : j = k
    · rw [if_pos ⟨h1, h2⟩, if_pos ⟨h1, by omega⟩]
    · rw [if_neg (fun q => h2 q.2)]
      by_cases h3 : j < k
      · rw [if_pos ⟨h1, h3⟩, if_pos ⟨h1, by omega⟩]
      · rw [if_neg (fun q => h3 q.2), if_neg (fun q => by have := q.2; omega)]
  · rw [if_neg (fun q => h1 q.1), if_neg (fun q => h1 q.1), if_neg (fun q => h1 q.1)]
theorem fl_step (σ : Mem) (a k : Nat) (v : Int64) : wl (fl σ a k v) a k v = fl σ a (k + 1) v := by
  refine Mem.ext (fun _ _ => rfl) (fun c j => ?_) (fun _ _ => rfl)
  rw [wl_l, fl_l, fl_l]
  by_cases h1 : c = a
  · by_cases h2 : j = k
    · rw [if_pos ⟨h1, h2⟩, if_pos ⟨h1, by omega⟩]
    · rw [if_neg (fun q => h2 q.2)]
      by_cases h3 : j < k
      · rw [if_pos ⟨h1, h3⟩, if_pos ⟨h1, by omega⟩]
      · rw [if_neg (fun q => h3 q.2), if_neg (fun q => by have := q.2; omega)]
  · rw [if_neg (fun q => h1 q.1), if_neg (fun q => h1 q.1), if_neg (fun q => h1 q.1)]
/-- numbers of a loop -/
theorem n_le {a b : Nat} (ha : a < 2 ^ 31) (hb : b < 2 ^ 31) (h : nI a ≤ nI b) : a ≤ b := (nI_leI ha hb).mp h
theorem n_nle {a b : Nat} (ha : a < 2 ^ 31) (hb : b < 2 ^ 31) (h : ¬ nI a ≤ nI b) : b < a := Nat.not_le.mp (fun q => h ((nI_leI ha hb).mpr q))
theorem n_inR {n N : Nat} (h : n < N) (hN : N < 2 ^ 31) : vp_in (nI n) N := vp_in_nI h hN
theorem n_cl {n : Nat} (h : n < 2 ^ 31) : (nI n).toNatClampNeg = n := nI_clamp h
