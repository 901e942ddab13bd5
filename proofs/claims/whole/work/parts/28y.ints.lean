/-! ===== whole numbers as the machine keeps them ===== -/
def zI (z : Int) : Int32 := Int32.ofInt z
def zL (z : Int) : Int64 := Int64.ofInt z
theorem zI_add (a b : Int) : zI a + zI b = zI (a + b) := (Int32.ofInt_add a b).symm
theorem zI_mul (a b : Int) : zI a * zI b = zI (a * b) := (Int32.ofInt_mul a b).symm
theorem zI_neg (a : Int) : -zI a = zI (-a) := (Int32.ofInt_neg a).symm
theorem zI_sub (a b : Int) : zI a - zI b = zI (a - b) := (Int32.ofInt_sub a b).symm
theorem zL_add (a b : Int) : zL a + zL b = zL (a + b) := (Int64.ofInt_add a b).symm
theorem zL_mul (a b : Int) : zL a * zL b = zL (a * b) := (Int64.ofInt_mul a b).symm
theorem zL_neg (a : Int) : -zL a = zL (-a) := (Int64.ofInt_neg a).symm
theorem zL_sub (a b : Int) : zL a - zL b = zL (a - b) := (Int64.ofInt_sub a b).symm
theorem nI_z (n : Nat) : nI n = zI (n : Int) := by
  apply Int32.toBitVec_inj.1
  show BitVec.ofNat 32 n = BitVec.ofInt 32 (n : Int)
  rw [BitVec.ofInt_natCast]
theorem lN_z (n : Nat) : lN n = zL (n : Int) := by
  apply Int64.toBitVec_inj.1
  show BitVec.ofNat 64 n = BitVec.ofInt 64 (n : Int)
  rw [BitVec.ofInt_natCast]
theorem zI_toInt {z : Int} (h1 : -2147483648 ≤ z) (h2 : z < 2147483648) : (zI z).toInt = z := Int32.toInt_ofInt_of_le h1 h2
theorem zL_toInt {z : Int} (h1 : -9223372036854775808 ≤ z) (h2 : z < 9223372036854775808) : (zL z).toInt = z := Int64.toInt_ofInt_of_le h1 h2
theorem zI_L {z : Int} (h1 : -2147483648 ≤ z) (h2 : z < 2147483648) : (zI z).toInt64 = zL z := by
  apply Int64.toInt_inj.1
  rw [Int32.toInt_toInt64, zI_toInt h1 h2, zL_toInt (by omega) (by omega)]
theorem zL_I (z : Int) : (zL z).toInt32 = zI z := Int64.toInt32_ofInt
theorem zI_lt {a b : Int} (a1 : -2147483648 ≤ a) (a2 : a < 2147483648) (b1 : -2147483648 ≤ b) (b2 : b < 2147483648) : zI a < zI b ↔ a < b := by
  rw [Int32.lt_iff_toInt_lt, zI_toInt a1 a2, zI_toInt b1 b2]
theorem zI_le {a b : Int} (a1 : -2147483648 ≤ a) (a2 : a < 2147483648) (b1 : -2147483648 ≤ b) (b2 : b < 2147483648) : zI a ≤ zI b ↔ a ≤ b := by
  rw [Int32.le_iff_toInt_le, zI_toInt a1 a2, zI_toInt b1 b2]
theorem zI_eq {a b : Int} (a1 : -2147483648 ≤ a) (a2 : a < 2147483648) (b1 : -2147483648 ≤ b) (b2 : b < 2147483648) : zI a = zI b ↔ a = b := by
  refine ⟨fun q => ?_, fun q => by rw [q]⟩
  have := congrArg Int32.toInt q
  rwa [zI_toInt a1 a2, zI_toInt b1 b2] at this
theorem zL_lt {a b : Int} (a1 : -9223372036854775808 ≤ a) (a2 : a < 9223372036854775808) (b1 : -9223372036854775808 ≤ b) (b2 : b < 9223372036854775808) : zL a < zL b ↔ a < b := by
  rw [Int64.lt_iff_toInt_lt, zL_toInt a1 a2, zL_toInt b1 b2]
theorem zL_le {a b : Int} (a1 : -9223372036854775808 ≤ a) (a2 : a < 9223372036854775808) (b1 : -9223372036854775808 ≤ b) (b2 : b < 9223372036854775808) : zL a ≤ zL b ↔ a ≤ b := by
  rw [Int64.le_iff_toInt_le, zL_toInt a1 a2, zL_toInt b1 b2]
theorem zL_eq {a b : Int} (a1 : -9223372036854775808 ≤ a) (a2 : a < 9223372036854775808) (b1 : -9223372036854775808 ≤ b) (b2 : b < 9223372036854775808) : zL a = zL b ↔ a = b := by
  refine ⟨fun q => ?_, fun q => by rw [q]⟩
  have := congrArg Int64.toInt q
  rwa [zL_toInt a1 a2, zL_toInt b1 b2] at this
/-- without its sign -/
def ab (z : Int) : Int := if 0 ≤ z then z else -z
theorem ab_le {z B : Int} (h1 : -B ≤ z) (h2 : z ≤ B) : 0 ≤ ab z ∧ ab z ≤ B := by unfold ab; split <;> omega
theorem i_abI {z : Int} {σ : Mem} {K : Int32 → Mem → Prop} {X : String → Mem → Prop} (h1 : -2147483648 < z) (h2 : z < 2147483648) (h : K (zI (ab z)) σ) : sp_J9_abs_0f7a4 (zI z) σ K X := by
  have e0 : (0 : Int32) = zI 0 := rfl
  refine ⟨fun c => ?_, fun c => ?_⟩
  · rw [e0, zI_le (by omega) (by omega) (by omega) h2] at c
    unfold ab at h; rw [if_pos c] at h; exact h
  · rw [e0, zI_le (by omega) (by omega) (by omega) h2] at c
    unfold ab at h; rw [if_neg c] at h; rw [zI_neg]; exact h
theorem i_abL {z : Int} {σ : Mem} {K : Int64 → Mem → Prop} {X : String → Mem → Prop} (h1 : -9223372036854775808 < z) (h2 : z < 9223372036854775808) (h : K (zL (ab z)) σ) : sp_J9_abs_067f4 (zL z) σ K X := by
  have e0 : (0 : Int64) = zL 0 := rfl
  refine i_J9_abs ?_
  unfold abs64
  by_cases c : 0 ≤ zL z
  · rw [if_pos c]
    rw [e0, zL_le (by omega) (by omega) (by omega) h2] at c
    unfold ab at h; rw [if_pos c] at h; exact h
  · rw [if_neg c]
    rw [e0, zL_le (by omega) (by omega) (by omega) h2] at c
    unfold ab at h; rw [if_neg c] at h; rw [zL_neg]; exact h
/-! ===== sums ===== -/
def smN (f : Nat → Nat) : Nat → Nat
  | 0 => 0
  | n + 1 => smN f n + f n
def smZ (f : Nat → Int) : Nat → Int
  | 0 => 0
  | n + 1 => smZ f n + f n
theorem smN_congr {f f' : Nat → Nat} : ∀ {n : Nat}, (∀ k, k < n → f k = f' k) → smN f n = smN f' n
  | 0, _ => rfl
  | n + 1, h => by
    show smN f n + f n = smN f' n + f' n
    rw [smN_congr (fun k hk => h k (by omega)), h n (by omega)]
theorem smZ_congr {f f' : Nat → Int} : ∀ {n : Nat}, (∀ k, k < n → f k = f' k) → smZ f n = smZ f' n
  | 0, _ => rfl
  | n + 1, h => by
    show smZ f n + f n = smZ f' n + f' n
    rw [smZ_congr (fun k hk => h k (by omega)), h n (by omega)]
theorem smN_0 {f : Nat → Nat} : ∀ {n : Nat}, (∀ k, k < n → f k = 0) → smN f n = 0
  | 0, _ => rfl
  | n + 1, h => by
    show smN f n + f n = 0
    rw [smN_0 (fun k hk => h k (by omega)), h n (by omega)]
theorem smZ_0 {f : Nat → Int} : ∀ {n : Nat}, (∀ k, k < n → f k = 0) → smZ f n = 0
  | 0, _ => rfl
  | n + 1, h => by
    show smZ f n + f n = 0
    rw [smZ_0 (fun k hk => h k (by omega)), h n (by omega)]; rfl
/-- one term has grown -/
theorem smN_upd {f f' : Nat → Nat} {p v : Nat} : ∀ {n : Nat}, p < n → (∀ k, k < n → k ≠ p → f' k = f k) → f' p = f p + v → smN f' n = smN f n + v
  | 0, hp, _, _ => absurd hp (Nat.not_lt_zero p)
  | n + 1, hp, h, hv => by
    show smN f' n + f' n = smN f n + f n + v
    by_cases c : p = n
    · rw [smN_congr (f := f') (f' := f) (fun k hk => h k (by omega) (by omega)), ← c, hv]; omega
    · rw [smN_upd (n := n) (by omega) (fun k hk hne => h k (by omega) hne) hv, h n (by omega) (fun q => c q.symm)]; omega
theorem smZ_upd {f f' : Nat → Int} {p : Nat} {v : Int} : ∀ {n : Nat}, p < n → (∀ k, k < n → k ≠ p → f' k = f k) → f' p = f p + v → smZ f' n = smZ f n + v
  | 0, hp, _, _ => absurd hp (Nat.not_lt_zero p)
  | n + 1, hp, h, hv => by
    show smZ f' n + f' n = smZ f n + f n + v
    by_cases c : p = n
    · rw [smZ_congr (f := f') (f' := f) (fun k hk => h k (by omega) (by omega)), ← c, hv]; omega
    · rw [smZ_upd (n := n) (by omega) (fun k hk hne => h k (by omega) hne) hv, h n (by omega) (fun q => c q.symm)]; omega
theorem smN_ge {f : Nat → Nat} {p : Nat} : ∀ {n : Nat}, p < n → f p ≤ smN f n
  | 0, hp => absurd hp (Nat.not_lt_zero p)
  | n + 1, hp => by
    show f p ≤ smN f n + f n
    by_cases c : p = n
    · rw [c]; omega
    · have := smN_ge (f := f) (p := p) (n := n) (by omega); omega
theorem smN_le {f : Nat → Nat} {B : Nat} : ∀ {n : Nat}, (∀ k, k < n → f k ≤ B) → smN f n ≤ n * B
  | 0, _ => by rw [Nat.zero_mul]; exact Nat.le_refl 0
  | n + 1, h => by
    have ih := smN_le (f := f) (B := B) (n := n) (fun k hk => h k (by omega))
    have := h n (by omega)
    rw [Nat.succ_mul]
    show smN f n + f n ≤ _
    omega
/-! ===== the flow behind a node, and the loop's flows ===== -/
def qB (c : Lp) (p : Nat) : Bool := (List.range c.1).any (fun i => decide (c.2.2 i = p))
theorem qB_iff {c : Lp} {p : Nat} : qB c p = true ↔ inQ c p := by
  unfold qB inQ
  rw [List.any_eq_true]
  constructor
  · rintro ⟨i, h1, h2⟩; exact ⟨i, List.mem_range.mp h1, of_decide_eq_true h2⟩
  · rintro ⟨i, h1, h2⟩; exact ⟨i, List.mem_range.mpr h1, decide_eq_true h2⟩
theorem qB_false {c : Lp} {p : Nat} (h : ¬ inQ c p) : qB c p = false := by
  cases e : qB c p
  · rfl
  · exact absurd (qB_iff.mp e) h
/-- what a pipe at n adds -/
def tm (g : Gr) (L : List Rec) (c : Lp) (B : Nat → Nat) (n p : Nat) : Nat := match ac g p n with
  | some e => if qB c p = true ∨ di L e ≤ di L n then 0 else B e
  | none => 0
def outF (g : Gr) (L : List Rec) (c : Lp) (dr B : Nat → Nat) (n : Nat) : Nat := dr n + smN (tm g L c B n) g.1
def EqB (g : Gr) (L : List Rec) (c : Lp) (dr B : Nat → Nat) : Prop := ∀ n, n ∈ nds L → B n = outF g L c dr B n + if 0 < c.1 ∧ c.2.1 0 = n then smN (fun k => if k = 0 then 0 else outF g L c dr B (c.2.1 k)) c.1 else 0
/-- how much leaves the loop up to its k-th node -/
def skF (g : Gr) (L : List Rec) (c : Lp) (dr B : Nat → Nat) (k : Nat) : Nat := smN (fun i => if i = 0 then 0 else outF g L c dr B (c.2.1 i)) (k + 1)
def drop (R f : Int) : Int := R * f * ab f
def sumD (g : Gr) (L : List Rec) (c : Lp) (dr B : Nat → Nat) (R : Nat → Int) (x : Int) : Int := smZ (fun k => drop (R (c.2.2 k)) (x - skF g L c dr B k)) c.1
def sgn (g : Gr) (p f : Nat) (v : Int) : Int := if g.2.1 p = f then v else -v
