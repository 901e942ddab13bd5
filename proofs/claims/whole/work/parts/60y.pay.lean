/-! ===== what a station's meter counts and what it pays for ===== -/
def fqL (a b : Int64) : Int64 := if 0 ≤ (a ^^^ b) then a / b else if (a / b) * b = a then a / b else a / b - 1
def fqI (a b : Int32) : Int32 := if 0 ≤ (a ^^^ b) then a / b else if (a / b) * b = a then a / b else a / b - 1
theorem i_fqL {a b : Int64} {σ : Mem} {K : Int64 → Mem → Prop} {X : String → Mem → Prop} (hb : ¬ b = 0) (h : K (fqL a b) σ) : sp_J9_floorDiv_f86c9 a b σ K X := by
  unfold fqL at h
  refine ⟨hb, fun v3 e3 => ?_⟩
  rw [e3]
  refine ⟨fun q => ?_, fun q => ⟨fun z => ?_, fun z => ?_⟩⟩
  · rw [if_pos q] at h; exact h
  · rw [if_neg q, if_pos z] at h; exact h
  · rw [if_neg q, if_neg z] at h; exact h
theorem i_fqI {a b : Int32} {σ : Mem} {K : Int32 → Mem → Prop} {X : String → Mem → Prop} (hb : ¬ b = 0) (h : K (fqI a b) σ) : sp_J9_floorDiv_7cf53 a b σ K X := by
  unfold fqI at h
  refine ⟨hb, fun v3 e3 => ?_⟩
  rw [e3]
  refine ⟨fun q => ?_, fun q => ⟨fun z => ?_, fun z => ?_⟩⟩
  · rw [if_pos q] at h; exact h
  · rw [if_neg q, if_pos z] at h; exact h
  · rw [if_neg q, if_neg z] at h; exact h
theorem i_maxI {a b : Int32} {σ : Mem} {K : Int32 → Mem → Prop} {X : String → Mem → Prop} (h : K (if a < b then b else a) σ) : sp_J9_max_7cf53 a b σ K X :=
  ⟨fun q => by rw [if_pos q] at h; exact h, fun q => by rw [if_neg q] at h; exact h⟩
/-- what the meter of n counts of a heat -/
def cnW (w : Nat → Int32) (n : Nat) (v : Int64) : Int64 := if w (48 + 6 * n + 4) = 1 then 0 else if w (48 + 6 * n + 4) = 2 then fqL (v * (w (48 + 6 * n + 5)).toInt64) 1000 else v
/-- the tariff of n -/
def trW (w : Nat → Int32) (n : Nat) : Int32 := if 0 < w 5 + fqI (w 6 * (w (48 + 6 * n + 2) - 400)) 10 then w 5 + fqI (w 6 * (w (48 + 6 * n + 2) - 400)) 10 else 0
def pyW (w : Nat → Int32) (n : Nat) (v : Int64) : Int64 := fqL (v * (trW w n).toInt64) 1000
theorem i_X0_countedHeat {a n : Nat} {w : Nat → Int32} {g : Gr} {v : Int64} {σ : Mem} {K : Int64 → Mem → Prop} {X : String → Mem → Prop} (ha : NetA a) (hN : NR σ a w g) (hn : n < 10) (hh : hasW w n) (h : K (cnW w n v) σ) : sp_X0_countedHeat a (nI n) v σ K X := by
  have hi := n_inR (n := n) (N := 10) hn (by decide)
  obtain ⟨-, -, -, e9, e10⟩ := (hN.2.2.2 n hn).1 hh
  unfold cnW at h
  refine ⟨ha, hi, ?_⟩
  rw [n_cl (by omega), e9, e10]
  refine ⟨fun q => ?_, fun q => ⟨hi, i_fqL (by decide) ?_⟩, fun q1 q2 => ?_⟩
  · rw [if_pos q] at h; exact h
  · rw [if_neg (fun z => by rw [z] at q; exact absurd q (by decide)), if_pos q] at h; exact h
  · rw [if_neg q1, if_neg q2] at h; exact h
theorem i_X0_paymentFor {a n : Nat} {w : Nat → Int32} {g : Gr} {v : Int64} {σ : Mem} {K : Int64 → Mem → Prop} {X : String → Mem → Prop} (ha : NetA a) (hN : NR σ a w g) (hn : n < 10) (hh : hasW w n) (h : K (pyW w n v) σ) : sp_X0_paymentFor a (nI n) v σ K X := by
  have hi := n_inR (n := n) (N := 10) hn (by decide)
  obtain ⟨-, e7, -, -, -⟩ := (hN.2.2.2 n hn).1 hh
  refine ⟨ha, ha, hi, ?_⟩
  rw [n_cl (by omega), e7, hN.1 6 (by decide)]
  exact i_fqI (by decide) (by rw [hN.1 5 (by decide)]; exact i_maxI (i_fqL (by decide) h))
theorem i_X5_counts {n : Nat} {w : Nat → Int32} {g : Gr} {dr T : Nat → Nat} {σ : Mem} {K : Int64 → Mem → Prop} {X : String → Mem → Prop} (hw : WFw w g) (hr : ∀ k, k < 108 → σ.1 210 k = w k) (hn : n < 10) (hh : hasW w n) (h1 : σ.1 225 n = nI (dr n) ∧ dr n ≤ 999) (h6 : σ.1 229 n = nI (T n) ∧ T n ≤ 1200) (h : K (cnW w n (zL (htZ w dr T n))) σ) : sp_X5_counts (nI n) σ K X := by
  have e4 : (48 + (6 * nI n)) + 4 = nI (48 + 6 * n + 4) := by rw [show (48 : Int32) = nI 48 from rfl, show (6 : Int32) = nI 6 from rfl, nI_mul, nI_add]; exact nI_add _ 4
  have e5 : (48 + (6 * nI n)) + 5 = nI (48 + 6 * n + 5) := by rw [show (48 : Int32) = nI 48 from rfl, show (6 : Int32) = nI 6 from rfl, nI_mul, nI_add]; exact nI_add _ 5
  obtain ⟨f0, f1, f2⟩ := (hw.2.2.2.2.2.2.2.2.2.2.2.2 n hn hh).2.2.2.1.val (by decide)
  unfold cnW at h
  unfold sp_X5_counts
  rw [e4, e5, n_cl (n := 48 + 6 * n + 4) (by omega), n_cl (n := 48 + 6 * n + 5) (by omega), hr _ (by omega)]
  refine ⟨n_inR (by omega) (by decide), fun v14 e14 => ?_⟩
  rw [e14]
  refine ⟨fun q => ⟨fun q1 => i_X5_heat hw hr hn h1 h6 ⟨n_inR (by omega) (by decide), i_fqL (by decide) ?_⟩, fun q1 => ?_⟩, fun q => i_X5_heat hw hr hn h1 h6 ?_⟩
  · have q2 : w (48 + 6 * n + 4) = 2 := by
      rw [f0] at q q1 ⊢
      have : nV (w (48 + 6 * n + 4)) ≠ 0 := fun z => q (by rw [z]; rfl)
      have : nV (w (48 + 6 * n + 4)) ≠ 1 := fun z => q1 (by rw [z]; rfl)
      rw [show nV (w (48 + 6 * n + 4)) = 2 by omega]; rfl
    rw [if_neg q1, if_pos q2] at h
    rw [hr _ (by omega)]
    exact h
  · rw [if_pos q1] at h; exact h
  · rw [if_neg (fun z => by rw [z] at q; exact absurd q (by decide)), if_neg (fun z => by rw [z] at q; exact absurd q (by decide))] at h; exact h
theorem i_X5_pays {n : Nat} {w : Nat → Int32} {g : Gr} {dr T : Nat → Nat} {σ : Mem} {K : Int64 → Mem → Prop} {X : String → Mem → Prop} (hw : WFw w g) (hr : ∀ k, k < 108 → σ.1 210 k = w k) (hn : n < 10) (hh : hasW w n) (h1 : σ.1 225 n = nI (dr n) ∧ dr n ≤ 999) (h6 : σ.1 229 n = nI (T n) ∧ T n ≤ 1200) (h : K (pyW w n (cnW w n (zL (htZ w dr T n)))) σ) : sp_X5_pays (nI n) σ K X := by
  have e2 : (48 + (6 * nI n)) + 2 = nI (48 + 6 * n + 2) := ix_st'
  refine i_X5_counts hw hr hn hh h1 h6 ?_
  show sp_X5_tariff (nI n) σ _ X
  unfold sp_X5_tariff
  rw [e2, n_cl (by omega), hr 6 (by decide), hr (48 + 6 * n + 2) (by omega)]
  exact ⟨n_inR (by omega) (by decide), i_fqI (by decide) (by rw [hr 5 (by decide)]; exact i_maxI (i_fqL (by decide) h))⟩
