/-! ===== a network's rows, and the class's network that says the same ===== -/
def rg (v : Int32) (lo hi : Nat) : Prop := ∃ x : Nat, lo ≤ x ∧ x ≤ hi ∧ v = nI x
def nV (v : Int32) : Nat := v.toNatClampNeg
theorem rg.val {v : Int32} {lo hi : Nat} (h : rg v lo hi) (hh : hi < 2147483648) : v = nI (nV v) ∧ lo ≤ nV v ∧ nV v ≤ hi := by
  obtain ⟨x, h1, h2, h3⟩ := h
  have : nV v = x := by
    unfold nV
    rw [h3]; exact n_cl (by omega)
  rw [this]
  exact ⟨h3, h1, h2⟩
def hasW (w : Nat → Int32) (n : Nat) : Prop := 1 ≤ n ∧ w (48 + 6 * n) = 1
def WFw (w : Nat → Int32) (g : Gr) : Prop := w 7 = nI g.1 ∧ WG g ∧ Own g ∧ NoPar g ∧ (∀ p, p < g.1 → w (8 + 4 * p) = nI (g.2.1 p) ∧ w (8 + 4 * p + 1) = nI (g.2.2 p) ∧ rg (w (8 + 4 * p + 2)) 1 99 ∧ rg (w (8 + 4 * p + 3)) 1 9) ∧ rg (w 0) 600 1200 ∧ rg (w 1) 0 200 ∧ (∃ z : Int, -300 ≤ z ∧ z ≤ 300 ∧ w 2 = zI z) ∧ rg (w 3) 0 99 ∧ rg (w 4) 1 999999999 ∧ rg (w 5) 0 999 ∧ rg (w 6) 0 99 ∧ (∀ n, n < 10 → hasW w n → rg (w (48 + 6 * n + 1)) 1 99 ∧ rg (w (48 + 6 * n + 2)) 200 600 ∧ rg (w (48 + 6 * n + 3)) 1 999 ∧ rg (w (48 + 6 * n + 4)) 0 2 ∧ rg (w (48 + 6 * n + 5)) 0 2000)
/-- the class's network at a says the rows w -/
def NR (σ : Mem) (a : Nat) (w : Nat → Int32) (g : Gr) : Prop := (∀ k, k < 7 → σ.1 (a + 1) k = w k) ∧ GC σ a g ∧ (∀ p, p < g.1 → σ.1 (a + 4) p = w (8 + 4 * p + 2) ∧ σ.1 (a + 5) p = w (8 + 4 * p + 3)) ∧ (∀ n, n < 10 → (hasW w n → σ.1 (a + 6) n = w (48 + 6 * n + 1) ∧ σ.1 (a + 7) n = w (48 + 6 * n + 2) ∧ σ.1 (a + 8) n = w (48 + 6 * n + 3) ∧ σ.1 (a + 9) n = w (48 + 6 * n + 4) ∧ σ.1 (a + 10) n = w (48 + 6 * n + 5)) ∧ (¬ hasW w n → σ.1 (a + 6) n = 0))
theorem NR.ch {σ τ : Mem} {a lo hi : Nat} {w : Nat → Int32} {g : Gr} (h : NR σ a w g) (hc : Ch lo hi σ τ) (hd : a + 13 < lo ∨ hi < a) : NR τ a w g := by
  obtain ⟨h1, h2, h3, h4⟩ := h
  refine ⟨fun k hk => by rw [(hc.1 (a + 1) k (by omega)).1]; exact h1 k hk, h2.ch hc (by omega), fun p hp => by rw [(hc.1 (a + 4) p (by omega)).1, (hc.1 (a + 5) p (by omega)).1]; exact h3 p hp, fun n hn => ?_⟩
  rw [(hc.1 (a + 6) n (by omega)).1, (hc.1 (a + 7) n (by omega)).1, (hc.1 (a + 8) n (by omega)).1, (hc.1 (a + 9) n (by omega)).1, (hc.1 (a + 10) n (by omega)).1]
  exact h4 n hn
theorem staA_is {t : Nat} (h : StaA t) : t = 53 ∨ t = 66 := by
  have h0 : kd t = .inr 4 := h 0 (by decide)
  have hl : t < 235 := kd_lt h0 (fun q => by cases q)
  exact (by decide +kernel : ∀ t, t < 235 → kd t = .inr 4 → (t = 53 ∨ t = 66)) t hl h0
theorem Shp.ch {σ τ : Mem} {lo hi : Nat} {g : Gr} {L : List Rec} {c : Lp} (h : Shp g L c σ) (hc : Ch lo hi σ τ) (hd : 52 < lo) : Shp g L c τ := by
  obtain ⟨h1, h2, h3, h4, h5, h6, h7, h8, h9, h10⟩ := h
  have e : ∀ b k, b < 53 → τ.1 b k = σ.1 b k := fun b k hb => (hc.1 b k (by omega)).1
  refine ⟨h1, ⟨by rw [e _ _ (by decide)]; exact h2.1, fun i hi => by rw [e _ _ (by decide), e _ _ (by decide)]; exact h2.2 i hi⟩, fun p hp => by rw [e _ _ (by decide)]; exact h3 p hp, by rw [e _ _ (by decide)]; exact h4, fun j hj => by rw [e _ _ (by decide)]; exact h5 j hj, fun i r hr => by rw [e _ _ (by decide)]; exact h6 i r hr, fun n a b d => by rw [e _ _ (by decide), e _ _ (by decide), e _ _ (by decide)]; exact h7 n a b d, fun i a b => by rw [e _ _ (by decide), e _ _ (by decide), e _ _ (by decide)]; exact h8 i a b, by rw [e _ _ (by decide)]; exact h9, by rw [e _ _ (by decide)]; exact h10.1, by rw [e _ _ (by decide)]; exact h10.2⟩
/-- the resistance of a pipe -/
def rsW (w : Nat → Int32) (p : Nat) : Int := ((nV (w (8 + 4 * p + 2)) * nV (w (8 + 4 * p + 3)) : Nat) : Int)
theorem rsW_bd {w : Nat → Int32} {g : Gr} (h : WFw w g) {p : Nat} (hp : p < g.1) : 1 ≤ rsW w p ∧ rsW w p ≤ 891 := by
  obtain ⟨-, -, h1, h2⟩ := h.2.2.2.2.1 p hp
  obtain ⟨-, a1, a2⟩ := h1.val (by decide)
  obtain ⟨-, b1, b2⟩ := h2.val (by decide)
  unfold rsW
  have l : nV (w (8 + 4 * p + 2)) * nV (w (8 + 4 * p + 3)) ≤ 99 * 9 := Nat.mul_le_mul a2 b2
  have m : 1 * 1 ≤ nV (w (8 + 4 * p + 2)) * nV (w (8 + 4 * p + 3)) := Nat.mul_le_mul a1 b1
  omega
theorem i_X0_dropOf {a p : Nat} {z : Int} {w : Nat → Int32} {g : Gr} {σ : Mem} {K : Int64 → Mem → Prop} {X : String → Mem → Prop} (ha : NetA a) (hw : WFw w g) (hN : NR σ a w g) (hp : p < g.1) (z1 : -100000 ≤ z) (z2 : z ≤ 100000) (h : K (zL (drop (rsW w p) z)) σ) : sp_X0_dropOf a (nI p) (zI z) σ K X := by
  have hP := hw.2.1.1
  obtain ⟨e1, e2⟩ := hN.2.2.1 p hp
  obtain ⟨-, -, h1, h2⟩ := hw.2.2.2.2.1 p hp
  obtain ⟨a0, a1, a2⟩ := h1.val (by decide)
  obtain ⟨b0, b1, b2⟩ := h2.val (by decide)
  have hb := rsW_bd hw hp
  refine ⟨ha, n_inR (by omega) (by decide), n_inR (by omega) (by decide), fun v14 e14 => i_abI (by omega) (by omega) ?_⟩
  rw [n_cl (by omega), e1, e2, a0, b0, nI_mul, nI_z] at e14
  have e14 : v14 = (zI (rsW w p)).toInt64 := e14
  have hab := ab_le z1 z2
  rw [e14, zI_L (by omega) (by omega), zI_L (by omega) (by omega), zI_L (by omega) (by omega), zL_mul, zL_mul]
  exact h
theorem i_X5_drop {p : Nat} {z : Int} {w : Nat → Int32} {g : Gr} {σ : Mem} {K : Int64 → Mem → Prop} {X : String → Mem → Prop} (hw : WFw w g) (hN : ∀ k, k < 108 → σ.1 210 k = w k) (hp : p < g.1) (z1 : -100000 ≤ z) (z2 : z ≤ 100000) (h : K (zL (drop (rsW w p) z)) σ) : sp_X5_drop (nI p) (zL z) σ K X := by
  have hP := hw.2.1.1
  obtain ⟨-, -, h1, h2⟩ := hw.2.2.2.2.1 p hp
  obtain ⟨a0, a1, a2⟩ := h1.val (by decide)
  obtain ⟨b0, b1, b2⟩ := h2.val (by decide)
  refine i_X5_of (w := 2) (by omega) (i_X5_of (w := 3) (by omega) (i_abL (by omega) (by omega) ?_))
  rw [hN _ (by omega), hN _ (by omega), a0, b0, nI_z, nI_z, zI_L (by omega) (by omega), zI_L (by omega) (by omega), zL_mul, zL_mul, zL_mul]
  have e : ((nV (w (8 + 4 * p + 2)) : Nat) : Int) * ((nV (w (8 + 4 * p + 3)) : Nat) : Int) = rsW w p := by unfold rsW; rw [Int.natCast_mul]
  rw [e]
  exact h
theorem i_X2_carry {t a p f : Nat} {z : Int} {g : Gr} {σ : Mem} {K : Mem → Prop} {X : String → Mem → Prop} (ht : StaA t) (ha : NetA a) (hg : WG g) (hG : GC σ a g) (hp : p < g.1) (hf : f < 10) (h : K (wi σ (t + 2) p (zI (sgn g p f z)))) : sp_X2_carry t a (nI p) (nI f) (zI z) σ K X := by
  have hP := hg.1
  obtain ⟨w1, w2, -⟩ := hg.2 p hp
  unfold sgn at h
  refine ⟨ht, ha, isPipe_br (pipe_in (p := p) (by omega)) ⟨fun q => absurd q (nI_pos (by omega)), fun _ => ?_⟩⟩
  rw [n_cl (by omega), (hG.2 p hp).1]
  refine ⟨n_inR (by omega) (by decide), fun c => ⟨n_inR (by omega) (by decide), fun σ23 e => ?_⟩, fun c => ⟨n_inR (by omega) (by decide), fun σ23 e => ?_⟩⟩
  · rw [if_neg (fun q => c (by rw [q]))] at h
    rw [e, zI_neg]; exact h
  · rw [if_pos (nI_eqP w1 hf c)] at h
    rw [e]; exact h
theorem i_carry_0 {t a : Nat} {f z : Int32} {σ : Mem} {K : Mem → Prop} {X : String → Mem → Prop} (ht : StaA t) (ha : NetA a) (h : K σ) : sp_X2_carry t a (-1) f z σ K X := ⟨ht, ha, isPipe_br (by decide) ⟨fun _ => h, fun q => absurd (by decide) q⟩⟩
theorem i_X5_carries {p f : Nat} {z : Int} {g : Gr} {σ : Mem} {K : Mem → Prop} {X : String → Mem → Prop} (hg : WG g) (hG : GM σ g) (hp : p < g.1) (hf : f < 10) (h : K (wi σ 228 p (zI (sgn g p f z)))) : sp_X5_carries (nI p) (nI f) (zL z) σ K X := by
  have hP := hg.1
  obtain ⟨w1, w2, -⟩ := hg.2 p hp
  unfold sgn at h
  refine i_X5_of (w := 0) (by omega) ?_
  rw [Nat.add_zero, (hG.2 p hp).1, n_cl (by omega)]
  refine ⟨fun c => ⟨n_inR (by omega) (by decide), fun σ22 e => ?_⟩, fun c => ⟨n_inR (by omega) (by decide), fun σ22 e => ?_⟩⟩
  · rw [if_neg (fun q => c (by rw [q]))] at h
    rw [e, zL_neg, zL_I]; exact h
  · rw [if_pos (nI_eqP w1 hf c)] at h
    rw [e, zL_I]; exact h
/-! ===== what the loop's flows are ===== -/
theorem smN_mono {f : Nat → Nat} {n : Nat} : ∀ {m : Nat}, n ≤ m → smN f n ≤ smN f m
  | 0, h => by rw [show n = 0 by omega]; exact Nat.le_refl _
  | m + 1, h => by
    by_cases c : n = m + 1
    · rw [c]; exact Nat.le_refl _
    · have := smN_mono (f := f) (n := n) (m := m) (by omega)
      show smN f n ≤ smN f m + f m
      omega
theorem EqB.lp {g : Gr} {L : List Rec} {c : Lp} {dr B : Nat → Nat} (h : EqB g L c dr B) (hL : LP0 g L c) {k : Nat} (hk : k < c.1) (k0 : k ≠ 0) : B (c.2.1 k) = outF g L c dr B (c.2.1 k) := by
  rw [h _ (hL.2.2.2.1 k hk), if_neg]
  · rfl
  · rintro ⟨q1, q2⟩
    have := hL.1 0 k q1 hk q2
    omega
theorem skF_le {g : Gr} {L : List Rec} {c : Lp} {dr B : Nat → Nat} (h : EqB g L c dr B) (hb : ∀ n, n ∈ nds L → B n ≤ 9990) (hL : LP0 g L c) {k : Nat} (hk : k < c.1) : skF g L c dr B k ≤ 9990 := by
  have h0 : 0 < c.1 := by omega
  have e := h _ (hL.2.2.2.1 0 h0)
  rw [if_pos ⟨h0, rfl⟩] at e
  have h1 := smN_mono (f := fun i => if i = 0 then 0 else outF g L c dr B (c.2.1 i)) (n := k + 1) (m := c.1) (by omega)
  have h2 := hb _ (hL.2.2.2.1 0 h0)
  unfold skF
  omega
theorem skF_0 {g : Gr} {L : List Rec} {c : Lp} {dr B : Nat → Nat} : skF g L c dr B 0 = 0 := rfl
theorem skF_s {g : Gr} {L : List Rec} {c : Lp} {dr B : Nat → Nat} (k : Nat) : skF g L c dr B (k + 1) = skF g L c dr B k + outF g L c dr B (c.2.1 (k + 1)) := by
  show skF g L c dr B k + (if k + 1 = 0 then 0 else outF g L c dr B (c.2.1 (k + 1))) = _
  rw [if_neg (by omega)]
theorem skF_m {g : Gr} {L : List Rec} {c : Lp} {dr B : Nat → Nat} {k m : Nat} (h : k ≤ m) : skF g L c dr B k ≤ skF g L c dr B m := smN_mono (by omega)
theorem smZ_bd {f : Nat → Int} {A : Int} (hA : 0 ≤ A) : ∀ {n : Nat}, n ≤ 10 → (∀ k, k < n → -A ≤ f k ∧ f k ≤ A) → -(10 * A) ≤ smZ f n ∧ smZ f n ≤ 10 * A := by
  have key : ∀ n : Nat, (∀ k, k < n → -A ≤ f k ∧ f k ≤ A) → -((n : Int) * A) ≤ smZ f n ∧ smZ f n ≤ (n : Int) * A := by
    intro n
    induction n with
    | zero => intro _; show -(((0 : Nat) : Int) * A) ≤ 0 ∧ 0 ≤ ((0 : Nat) : Int) * A; simp
    | succ n ih =>
      intro h
      have i1 := ih (fun k hk => h k (by omega))
      have i2 := h n (by omega)
      have e : ((n + 1 : Nat) : Int) * A = (n : Int) * A + A := by rw [Int.natCast_add, Int.add_mul]; simp
      rw [e]
      show -((n : Int) * A + A) ≤ smZ f n + f n ∧ smZ f n + f n ≤ (n : Int) * A + A
      omega
  intro n hn h
  have h1 := key n h
  have h2 : (n : Int) * A ≤ 10 * A := Int.mul_le_mul_of_nonneg_right (by omega) hA
  omega
theorem smZ_le {f f' : Nat → Int} : ∀ {n : Nat}, (∀ k, k < n → f k ≤ f' k) → smZ f n ≤ smZ f' n
  | 0, _ => Int.le_refl 0
  | n + 1, h => by
    have := smZ_le (f := f) (f' := f') (n := n) (fun k hk => h k (by omega))
    have := h n (by omega)
    show smZ f n + f n ≤ smZ f' n + f' n
    omega
theorem sq_mono {a b : Int} (h : a ≤ b) : a * ab a ≤ b * ab b := by
  unfold ab
  by_cases c : 0 ≤ a
  · rw [if_pos c, if_pos (by omega)]
    exact Int.mul_le_mul h h c (by omega)
  · rw [if_neg c]
    have n1 : a * -a = -(-a * -a) := by rw [Int.neg_mul]; simp
    by_cases d : 0 ≤ b
    · rw [if_pos d]
      have h1 : 0 ≤ -a * -a := Int.mul_nonneg (by omega) (by omega)
      have h2 : 0 ≤ b * b := Int.mul_nonneg d d
      rw [n1]; omega
    · rw [if_neg d]
      have n2 : b * -b = -(-b * -b) := by rw [Int.neg_mul]; simp
      have h1 : -b * -b ≤ -a * -a := Int.mul_le_mul (by omega) (by omega) (by omega) (by omega)
      rw [n1, n2]; omega
theorem drop_mono {R a b : Int} (hR : 0 ≤ R) (h : a ≤ b) : drop R a ≤ drop R b := by
  unfold drop
  rw [Int.mul_assoc, Int.mul_assoc]
  exact Int.mul_le_mul_of_nonneg_left (sq_mono h) hR
theorem drop_bd {R z : Int} (h0 : 0 ≤ R) (h1 : R ≤ 891) (z1 : -10000 ≤ z) (z2 : z ≤ 10000) : -89100000000 ≤ drop R z ∧ drop R z ≤ 89100000000 := by
  have a1 := drop_mono (R := R) h0 z1
  have a2 := drop_mono (R := R) h0 z2
  have e1 : drop R (-10000) = R * -100000000 := by unfold drop; rw [Int.mul_assoc]; rfl
  have e2 : drop R 10000 = R * 100000000 := by unfold drop; rw [Int.mul_assoc]; rfl
  rw [e1] at a1
  rw [e2] at a2
  omega
theorem drop_pos {R z : Int} (h0 : 0 ≤ R) (hz : 0 ≤ z) : 0 ≤ drop R z := by
  have a := drop_mono (R := R) h0 hz
  have e : drop R 0 = 0 := by unfold drop; simp
  rw [e] at a; exact a
/-- x, the first flow of the loop -/
def XS (g : Gr) (L : List Rec) (c : Lp) (dr B : Nat → Nat) (R : Nat → Int) (x : Int) : Prop := 0 ≤ x ∧ x ≤ 9990 ∧ 0 ≤ sumD g L c dr B R x ∧ ∀ y, 0 ≤ y → y < x → sumD g L c dr B R y < 0
theorem sumD_mono {g : Gr} {L : List Rec} {c : Lp} {dr B : Nat → Nat} {R : Nat → Int} (hR : ∀ k, k < c.1 → 0 ≤ R (c.2.2 k)) {x y : Int} (h : x ≤ y) : sumD g L c dr B R x ≤ sumD g L c dr B R y :=
  smZ_le (fun k hk => drop_mono (hR k hk) (by omega))
theorem sumD_bd {g : Gr} {L : List Rec} {c : Lp} {dr B : Nat → Nat} {R : Nat → Int} (hR : ∀ k, k < c.1 → 0 ≤ R (c.2.2 k) ∧ R (c.2.2 k) ≤ 891) (hs : ∀ k, k < c.1 → skF g L c dr B k ≤ 9990) (hl : c.1 ≤ 10) {x : Int} (h1 : 0 ≤ x) (h2 : x ≤ 10000) : -891000000000 ≤ sumD g L c dr B R x ∧ sumD g L c dr B R x ≤ 891000000000 := by
  have := smZ_bd (f := fun k => drop (R (c.2.2 k)) (x - skF g L c dr B k)) (A := 89100000000) (by omega) hl (fun k hk => by
    have := hs k hk
    exact drop_bd (hR k hk).1 (hR k hk).2 (by omega) (by omega))
  unfold sumD
  omega
