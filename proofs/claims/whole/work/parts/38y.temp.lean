/-! ===== temperatures ===== -/
def gd (w : Nat → Int32) : Nat := nV (w 1)
def flN (fl : Nat → Int) (p : Nat) : Nat := (fl p).natAbs
/-- from where, to where a pipe carries hot water -/
def frO (g : Gr) (fl : Nat → Int) (p : Nat) : Option Nat := if 0 < fl p then some (g.2.1 p) else if fl p < 0 then some (g.2.2 p) else none
def toO (g : Gr) (fl : Nat → Int) (p : Nat) : Option Nat := if 0 < fl p then some (g.2.2 p) else if fl p < 0 then some (g.2.1 p) else none
/-- what water of T is like at a pipe's end -/
def thr (w : Nat → Int32) (fl : Nat → Int) (p T : Nat) : Nat := gd w + (T - gd w) * (100 * flN fl p) / (100 * flN fl p + nV (w (8 + 4 * p + 2)) * nV (w 3))
def tH (w : Nat → Int32) (g : Gr) (fl : Nat → Int) (T : Nat → Nat) (n p : Nat) : Nat := match frO g fl p with
  | some e => if toO g fl p = some n then flN fl p * thr w fl p (T e) else 0
  | none => 0
def fH (g : Gr) (fl : Nat → Int) (n p : Nat) : Nat := if toO g fl p = some n then flN fl p else 0
def smH (w : Nat → Int32) (g : Gr) (fl : Nat → Int) (T : Nat → Nat) (n : Nat) : Nat := smN (tH w g fl T n) g.1
def flH (g : Gr) (fl : Nat → Int) (n : Nat) : Nat := smN (fH g fl n) g.1
def tC (w : Nat → Int32) (g : Gr) (fl : Nat → Int) (T : Nat → Nat) (n p : Nat) : Nat := match toO g fl p with
  | some e => if frO g fl p = some n then flN fl p * thr w fl p (T e) else 0
  | none => 0
def fC (g : Gr) (fl : Nat → Int) (n p : Nat) : Nat := if frO g fl p = some n then flN fl p else 0
def smC (w : Nat → Int32) (g : Gr) (fl : Nat → Int) (dr T : Nat → Nat) (n : Nat) : Nat := dr n * nV (w (48 + 6 * n + 2)) + smN (tC w g fl T n) g.1
def flC (g : Gr) (fl : Nat → Int) (dr : Nat → Nat) (n : Nat) : Nat := dr n + smN (fC g fl n) g.1
def EqH (w : Nat → Int32) (g : Gr) (fl : Nat → Int) (T : Nat → Nat) (n : Nat) : Prop := T n = if n = 0 then nV (w 0) else if flH g fl n = 0 then gd w else smH w g fl T n / flH g fl n
def EqC (w : Nat → Int32) (g : Gr) (fl : Nat → Int) (dr T : Nat → Nat) (n : Nat) : Prop := T n = if flC g fl dr n = 0 then gd w else smC w g fl dr T n / flC g fl dr n
/-- what is left over where waters mix -/
def rmH (w : Nat → Int32) (g : Gr) (fl : Nat → Int) (T : Nat → Nat) (n : Nat) : Nat := if n = 0 ∨ flH g fl n = 0 then 0 else smH w g fl T n % flH g fl n
def rmC (w : Nat → Int32) (g : Gr) (fl : Nat → Int) (dr T : Nat → Nat) (n : Nat) : Nat := if flC g fl dr n = 0 then 0 else smC w g fl dr T n % flC g fl dr n
/-- the flows are small, and water never goes round -/
def FlOk (g : Gr) (fl : Nat → Int) (rk : Nat → Nat) : Prop := (∀ p, p < g.1 → -20000 ≤ fl p ∧ fl p ≤ 20000) ∧ (∀ p, p < g.1 → toO g fl p ≠ some 0) ∧ (∀ p e n, p < g.1 → frO g fl p = some e → toO g fl p = some n → rk e < rk n) ∧ ∀ n, n < 10 → rk n < 10
theorem thr_bd {w : Nat → Int32} {fl : Nat → Int} {p T : Nat} (h : gd w ≤ T) : gd w ≤ thr w fl p T ∧ thr w fl p T ≤ T := by
  unfold thr
  refine ⟨Nat.le_add_right _ _, ?_⟩
  have : (T - gd w) * (100 * flN fl p) / (100 * flN fl p + nV (w (8 + 4 * p + 2)) * nV (w 3)) ≤ T - gd w := by
    by_cases c : 100 * flN fl p + nV (w (8 + 4 * p + 2)) * nV (w 3) = 0
    · rw [c, Nat.div_zero]; exact Nat.zero_le _
    · refine Nat.div_le_of_le_mul ?_
      rw [Nat.mul_comm]
      exact Nat.mul_le_mul_right _ (Nat.le_add_right _ _)
  omega
theorem fr_to {g : Gr} {fl : Nat → Int} {p e : Nat} (h : frO g fl p = some e) : ∃ n, toO g fl p = some n ∧ fl p ≠ 0 := by
  unfold frO at h
  unfold toO
  by_cases c : 0 < fl p
  · rw [if_pos c]; exact ⟨_, rfl, by omega⟩
  · rw [if_neg c] at h ⊢
    by_cases d : fl p < 0
    · rw [if_pos d]; exact ⟨_, rfl, by omega⟩
    · rw [if_neg d] at h; cases h
theorem to_fr {g : Gr} {fl : Nat → Int} {p n : Nat} (h : toO g fl p = some n) : ∃ e, frO g fl p = some e ∧ fl p ≠ 0 := by
  unfold toO at h
  unfold frO
  by_cases c : 0 < fl p
  · rw [if_pos c]; exact ⟨_, rfl, by omega⟩
  · rw [if_neg c] at h ⊢
    by_cases d : fl p < 0
    · rw [if_pos d]; exact ⟨_, rfl, by omega⟩
    · rw [if_neg d] at h; cases h
theorem fr_ac {g : Gr} {fl : Nat → Int} (hg : WG g) {p e n : Nat} (hp : p < g.1) (h : frO g fl p = some e) (k : toO g fl p = some n) : ac g p e = some n := by
  unfold frO at h
  unfold toO at k
  by_cases c : 0 < fl p
  · rw [if_pos c] at h k; cases h; cases k; exact (ac_ends hg hp).1
  · rw [if_neg c] at h k
    by_cases d : fl p < 0
    · rw [if_pos d] at h k; cases h; cases k; exact (ac_ends hg hp).2
    · rw [if_neg d] at h; cases h
theorem tH_le {w : Nat → Int32} {g : Gr} {fl : Nat → Int} {T : Nat → Nat} (hT : ∀ e, e < 10 → gd w ≤ T e ∧ T e ≤ 1200) (hg : WG g) : ∀ {P : Nat} {n : Nat}, P ≤ g.1 → gd w * smN (fH g fl n) P ≤ smN (tH w g fl T n) P ∧ smN (tH w g fl T n) P ≤ 1200 * smN (fH g fl n) P
  | 0, _, _ => ⟨Nat.le_refl _, Nat.le_refl _⟩
  | P + 1, n, hP => by
    have ih := tH_le (fl := fl) (T := T) hT hg (P := P) (n := n) (by omega)
    show gd w * (smN (fH g fl n) P + fH g fl n P) ≤ smN (tH w g fl T n) P + tH w g fl T n P ∧ smN (tH w g fl T n) P + tH w g fl T n P ≤ 1200 * (smN (fH g fl n) P + fH g fl n P)
    have key : gd w * fH g fl n P ≤ tH w g fl T n P ∧ tH w g fl T n P ≤ 1200 * fH g fl n P := by
      unfold fH tH
      by_cases c : toO g fl P = some n
      · obtain ⟨e, e1, -⟩ := to_fr c
        rw [e1, if_pos c]
        show gd w * flN fl P ≤ (if toO g fl P = some n then flN fl P * thr w fl P (T e) else 0) ∧ (if toO g fl P = some n then flN fl P * thr w fl P (T e) else 0) ≤ 1200 * flN fl P
        rw [if_pos c]
        have he := (ac_lt hg (by omega : P < g.1) (fr_ac hg (by omega) e1 c))
        have ht := hT e he.2.1
        have hb := thr_bd (fl := fl) (p := P) ht.1
        rw [Nat.mul_comm (flN fl P)]
        exact ⟨Nat.mul_le_mul_right _ hb.1, Nat.mul_le_mul_right _ (by omega)⟩
      · rw [if_neg c]
        cases e1 : frO g fl P with
        | none => exact ⟨Nat.le_refl _, Nat.le_refl _⟩
        | some e =>
          show gd w * 0 ≤ (if toO g fl P = some n then flN fl P * thr w fl P (T e) else 0) ∧ (if toO g fl P = some n then flN fl P * thr w fl P (T e) else 0) ≤ 1200 * 0
          rw [if_neg c]; exact ⟨Nat.le_refl _, Nat.le_refl _⟩
    rw [Nat.mul_add, Nat.mul_add]
    omega
theorem tC_le {w : Nat → Int32} {g : Gr} {fl : Nat → Int} {T : Nat → Nat} (hT : ∀ e, e < 10 → gd w ≤ T e ∧ T e ≤ 1200) (hg : WG g) : ∀ {P : Nat} {n : Nat}, P ≤ g.1 → gd w * smN (fC g fl n) P ≤ smN (tC w g fl T n) P ∧ smN (tC w g fl T n) P ≤ 1200 * smN (fC g fl n) P
  | 0, _, _ => ⟨Nat.le_refl _, Nat.le_refl _⟩
  | P + 1, n, hP => by
    have ih := tC_le (fl := fl) (T := T) hT hg (P := P) (n := n) (by omega)
    show gd w * (smN (fC g fl n) P + fC g fl n P) ≤ smN (tC w g fl T n) P + tC w g fl T n P ∧ smN (tC w g fl T n) P + tC w g fl T n P ≤ 1200 * (smN (fC g fl n) P + fC g fl n P)
    have key : gd w * fC g fl n P ≤ tC w g fl T n P ∧ tC w g fl T n P ≤ 1200 * fC g fl n P := by
      unfold fC tC
      by_cases c : frO g fl P = some n
      · obtain ⟨e, e1, -⟩ := fr_to c
        rw [e1, if_pos c]
        show gd w * flN fl P ≤ (if frO g fl P = some n then flN fl P * thr w fl P (T e) else 0) ∧ (if frO g fl P = some n then flN fl P * thr w fl P (T e) else 0) ≤ 1200 * flN fl P
        rw [if_pos c]
        have he := (ac_lt hg (by omega : P < g.1) (fr_ac hg (by omega) c e1))
        have ht := hT e he.1
        have hb := thr_bd (fl := fl) (p := P) ht.1
        rw [Nat.mul_comm (flN fl P)]
        exact ⟨Nat.mul_le_mul_right _ hb.1, Nat.mul_le_mul_right _ (by omega)⟩
      · rw [if_neg c]
        cases e1 : toO g fl P with
        | none => exact ⟨Nat.le_refl _, Nat.le_refl _⟩
        | some e =>
          show gd w * 0 ≤ (if frO g fl P = some n then flN fl P * thr w fl P (T e) else 0) ∧ (if frO g fl P = some n then flN fl P * thr w fl P (T e) else 0) ≤ 1200 * 0
          rw [if_neg c]; exact ⟨Nat.le_refl _, Nat.le_refl _⟩
    rw [Nat.mul_add, Nat.mul_add]
    omega
theorem fH_le {g : Gr} {fl : Nat → Int} {rk : Nat → Nat} (h : FlOk g fl rk) (hg : WG g) (n : Nat) : flH g fl n ≤ 200000 := by
  have := smN_le (f := fH g fl n) (B := 20000) (n := g.1) (fun p hp => by
    unfold fH flN
    have := h.1 p hp
    split <;> omega)
  have := hg.1
  unfold flH
  have : g.1 * 20000 ≤ 10 * 20000 := Nat.mul_le_mul_right _ hg.1
  omega
theorem fC_le {g : Gr} {fl : Nat → Int} {rk : Nat → Nat} (h : FlOk g fl rk) (hg : WG g) (n : Nat) : smN (fC g fl n) g.1 ≤ 200000 := by
  have := smN_le (f := fC g fl n) (B := 20000) (n := g.1) (fun p hp => by
    unfold fC flN
    have := h.1 p hp
    split <;> omega)
  have : g.1 * 20000 ≤ 10 * 20000 := Nat.mul_le_mul_right _ hg.1
  omega
/-! ===== dividing whole numbers that aren't below 0 ===== -/
theorem lN_xor (a b : Nat) : lN a ^^^ lN b = lN (a ^^^ b) := by
  apply Int64.toBitVec_inj.1
  show BitVec.ofNat 64 a ^^^ BitVec.ofNat 64 b = BitVec.ofNat 64 (a ^^^ b)
  apply BitVec.eq_of_getLsbD_eq
  intro i hi
  rw [BitVec.getLsbD_xor, BitVec.getLsbD_ofNat, BitVec.getLsbD_ofNat, BitVec.getLsbD_ofNat, Nat.testBit_xor]
  simp [hi]
theorem i_fDiv {a b : Nat} {σ : Mem} {K : Int64 → Mem → Prop} {X : String → Mem → Prop} (ha : a < 2 ^ 62) (h0 : 0 < b) (hb : b < 2 ^ 62) (h : K (lN (a / b)) σ) : sp_J9_floorDiv_f86c9 (lN a) (lN b) σ K X := by
  have hx : a ^^^ b < 2 ^ 62 := Nat.xor_lt_two_pow ha hb
  have p1 : (2 : Nat) ^ 62 < 2 ^ 63 := by decide
  refine ⟨fun q => ?_, fun v3 e3 => ?_⟩
  · exact absurd ((pk_lEQ (a := b) (b := 0) (by omega) (by omega)).mp q) (by omega)
  · rw [e3, lN_xor, pk_lDiv (by omega) h0 (by omega)]
    exact ⟨fun _ => h, fun q => absurd ((pk_lLE (a := 0) (by omega) (by omega)).mpr (Nat.zero_le _)) q⟩
theorem i_fMod {a b : Nat} {σ : Mem} {K : Int64 → Mem → Prop} {X : String → Mem → Prop} (ha : a < 2 ^ 62) (h0 : 0 < b) (hb : b < 2 ^ 62) (h : K (lN (a % b)) σ) : sp_J9_floorMod_f86c9 (lN a) (lN b) σ K X := by
  have hx : a ^^^ b < 2 ^ 62 := Nat.xor_lt_two_pow ha hb
  have p1 : (2 : Nat) ^ 62 < 2 ^ 63 := by decide
  refine ⟨fun q => ?_, fun v3 e3 => ?_⟩
  · exact absurd ((pk_lEQ (a := b) (b := 0) (by omega) (by omega)).mp q) (by omega)
  · rw [e3, lN_xor, pk_lRem (by omega) h0 (by omega)]
    exact ⟨fun _ => h, fun q => absurd ((pk_lLE (a := 0) (by omega) (by omega)).mpr (Nat.zero_le _)) q⟩
theorem ab_N (z : Int) : ab z = ((z.natAbs : Nat) : Int) := by unfold ab; split <;> omega
theorem gd_bd {w : Nat → Int32} {g : Gr} (h : WFw w g) : w 1 = nI (gd w) ∧ gd w ≤ 200 := by
  obtain ⟨a, -, b⟩ := (h.2.2.2.2.2.2.1).val (by decide)
  exact ⟨a, b⟩
theorem sup_bd {w : Nat → Int32} {g : Gr} (h : WFw w g) : w 0 = nI (nV (w 0)) ∧ 600 ≤ nV (w 0) ∧ nV (w 0) ≤ 1200 := (h.2.2.2.2.2.1).val (by decide)
theorem los_bd {w : Nat → Int32} {g : Gr} (h : WFw w g) : w 3 = nI (nV (w 3)) ∧ nV (w 3) ≤ 99 := by
  obtain ⟨a, -, b⟩ := (h.2.2.2.2.2.2.2.2.1).val (by decide)
  exact ⟨a, b⟩
theorem len_bd {w : Nat → Int32} {g : Gr} (h : WFw w g) {p : Nat} (hp : p < g.1) : w (8 + 4 * p + 2) = nI (nV (w (8 + 4 * p + 2))) ∧ nV (w (8 + 4 * p + 2)) ≤ 99 := by
  obtain ⟨-, -, h1, -⟩ := h.2.2.2.2.1 p hp
  obtain ⟨a, -, b⟩ := h1.val (by decide)
  exact ⟨a, b⟩
theorem thr_num {x F l s : Nat} (hx : x ≤ 1200) (hF : F ≤ 20000) (hl : l ≤ 99) (hs : s ≤ 99) : x * (100 * F) < 2 ^ 62 ∧ 100 * F + l * s < 2 ^ 62 ∧ l * s ≤ 9801 := by
  have h1 : x * (100 * F) ≤ 1200 * (100 * 20000) := Nat.mul_le_mul hx (by omega)
  have h2 : l * s ≤ 99 * 99 := Nat.mul_le_mul hl hs
  have p : (2 : Nat) ^ 62 = 4611686018427387904 := rfl
  omega
theorem i_X0_cooled {a p T F : Nat} {w : Nat → Int32} {g : Gr} {fl : Nat → Int} {σ : Mem} {K : Int32 → Mem → Prop} {X : String → Mem → Prop} (ha : NetA a) (hw : WFw w g) (hN : NR σ a w g) (hp : p < g.1) (eF : F = flN fl p) (F0 : 0 < F) (F1 : F ≤ 20000) (hT : gd w ≤ T) (hT2 : T ≤ 1200) (h : K (nI (thr w fl p T)) σ) : sp_X0_cooled a (nI p) (nI F) (nI T) σ K X := by
  have hP := hw.2.1.1
  obtain ⟨g1, g2⟩ := gd_bd hw
  obtain ⟨s1, s2⟩ := los_bd hw
  obtain ⟨l1, l2⟩ := len_bd hw hp
  obtain ⟨n1, n2, n3⟩ := thr_num (x := T - gd w) (by omega) F1 l2 s2
  have p63 : (2 : Nat) ^ 62 < 2 ^ 63 := by decide
  refine ⟨ha, fun v6 e6 v14 e14 => ⟨n_inR (by omega) (by decide), fun v33 e33 => ?_⟩⟩
  rw [hN.1 1 (by decide), g1] at e6
  have e14 : v14 = lN (100 * F) := by rw [e14, nI_l (by omega)]; exact lN_mul 100 F
  rw [n_cl (by omega), (hN.2.2.1 p hp).1, hN.1 3 (by decide), l1, s1, nI_mul, nI_l (by omega), e14, lN_add] at e33
  rw [e33, e6, e14, pk_sub hT, nI_l (by omega), lN_mul, pk_lDiv (by omega) (by omega) (by omega), lN_i, nI_add]
  refine ⟨fun _ => ⟨fun q => ?_, ?_⟩, fun q => absurd ((pk_lLT (a := 0) (by omega) (by omega)).mpr (by omega)) q⟩
  · exact absurd ((pk_lEQ (b := 0) (by omega) (by omega)).mp q) (by omega)
  · unfold thr at h
    rw [← eF] at h
    exact h
theorem i_X5_through {p T : Nat} {w : Nat → Int32} {g : Gr} {fl : Nat → Int} {σ : Mem} {K : Int32 → Mem → Prop} {X : String → Mem → Prop} (hw : WFw w g) (hr : ∀ k, k < 108 → σ.1 210 k = w k) (hp : p < g.1) (hf : σ.1 228 p = zI (fl p)) (F0 : fl p ≠ 0) (F1 : -20000 ≤ fl p ∧ fl p ≤ 20000) (hT : gd w ≤ T) (hT2 : T ≤ 1200) (h : K (nI (thr w fl p T)) σ) : sp_X5_through (nI p) (nI T) σ K X := by
  have hP := hw.2.1.1
  obtain ⟨g1, g2⟩ := gd_bd hw
  obtain ⟨s1, s2⟩ := los_bd hw
  obtain ⟨l1, l2⟩ := len_bd hw hp
  have eF : flN fl p = (fl p).natAbs := rfl
  have F2 : 0 < flN fl p ∧ flN fl p ≤ 20000 := by omega
  obtain ⟨n1, n2, n3⟩ := thr_num (x := T - gd w) (by omega) F2.2 l2 s2
  have p63 : (2 : Nat) ^ 62 < 2 ^ 63 := by decide
  unfold sp_X5_through
  rw [n_cl (by omega), hf]
  refine ⟨n_inR (by omega) (by decide), i_abI (by omega) (by omega) (fun v10 e10 => i_X5_of (w := 2) (by omega) ?_)⟩
  have e10 : v10 = lN (flN fl p) := by rw [e10, ab_N, ← nI_z, nI_l (by omega)]; rfl
  rw [hr (8 + 4 * p + 2) (by omega), l1, hr 1 (by decide), g1, hr 3 (by decide), s1, pk_sub hT, nI_l (by omega), nI_l (by omega), nI_l (by omega), e10]
  show sp_J9_floorDiv_f86c9 (lN (T - gd w) * lN 100 * lN (flN fl p)) (lN 100 * lN (flN fl p) + lN (nV (w (8 + 4 * p + 2))) * lN (nV (w 3))) σ _ X
  rw [lN_mul, lN_mul, lN_mul, lN_mul, lN_add]
  have em : (T - gd w) * 100 * flN fl p = (T - gd w) * (100 * flN fl p) := Nat.mul_assoc _ _ _
  rw [em]
  refine i_fDiv n1 (by omega) n2 ?_
  rw [lN_i, nI_add]
  exact h
