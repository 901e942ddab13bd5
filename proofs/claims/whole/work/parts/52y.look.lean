/-! ===== the reference's look ===== -/
def itC (w : Nat → Int32) (g : Gr) (fl : Nat → Int) (dr : Nat → Nat) : Nat → Nat → Nat
  | 0, _ => gd w
  | k + 1, n => if flC g fl dr n = 0 then gd w else smC w g fl dr (itC w g fl dr k) n / flC g fl dr n
theorem itC_bd {w : Nat → Int32} {g : Gr} {fl : Nat → Int} {dr : Nat → Nat} (hw : WFw w g) (hd : ∀ n, n < 10 → ¬ hasW w n → dr n = 0) : ∀ k n, n < 10 → gd w ≤ itC w g fl dr k n ∧ itC w g fl dr k n ≤ 1200
  | 0, n, _ => ⟨Nat.le_refl _, by have := (gd_bd hw).2; show gd w ≤ 1200; omega⟩
  | k + 1, n, hn => by
    have ih := itC_bd (fl := fl) hw hd k
    have h2 := (gd_bd hw).2
    have hle := tC_le (fl := fl) ih hw.2.1 (P := g.1) (n := n) (Nat.le_refl _)
    have hret : dr n * nV (w (48 + 6 * n + 2)) ≤ 1200 * dr n ∧ gd w * dr n ≤ dr n * nV (w (48 + 6 * n + 2)) := by
      by_cases q : hasW w n
      · obtain ⟨-, q2, -⟩ := hw.2.2.2.2.2.2.2.2.2.2.2.2 n hn q
        obtain ⟨-, a1, a2⟩ := q2.val (by decide)
        rw [Nat.mul_comm 1200, Nat.mul_comm (gd w)]
        exact ⟨Nat.mul_le_mul_left _ (by omega), Nat.mul_le_mul_left _ (by omega)⟩
      · rw [hd n hn q]; simp
    have hS1 : smC w g fl dr (itC w g fl dr k) n ≤ 1200 * flC g fl dr n := by unfold smC flC; rw [Nat.mul_add]; omega
    have hS2 : gd w * flC g fl dr n ≤ smC w g fl dr (itC w g fl dr k) n := by unfold smC flC; rw [Nat.mul_add]; omega
    show gd w ≤ (if flC g fl dr n = 0 then gd w else smC w g fl dr (itC w g fl dr k) n / flC g fl dr n) ∧ (if flC g fl dr n = 0 then gd w else smC w g fl dr (itC w g fl dr k) n / flC g fl dr n) ≤ 1200
    by_cases f0 : flC g fl dr n = 0
    · rw [if_pos f0]; omega
    · rw [if_neg f0]
      exact ⟨(Nat.le_div_iff_mul_le (by omega)).mpr hS2, Nat.div_le_of_le_mul (by rw [Nat.mul_comm]; exact hS1)⟩
theorem itC_st {w : Nat → Int32} {g : Gr} {fl : Nat → Int} {dr rk : Nat → Nat} (hg : WG g) (hok : FlOk g fl rk) : ∀ k n, n < 10 → 9 - rk n < k → itC w g fl dr (k + 1) n = itC w g fl dr k n
  | 0, _, _, h => absurd h (Nat.not_lt_zero _)
  | k + 1, n, hn, h => by
    show (if flC g fl dr n = 0 then gd w else smC w g fl dr (itC w g fl dr (k + 1)) n / flC g fl dr n) = (if flC g fl dr n = 0 then gd w else smC w g fl dr (itC w g fl dr k) n / flC g fl dr n)
    rw [smC_congr (fun p e hp he hfr => by
      have h1 := hok.2.2.1 p n e hp hfr he
      have he10 := toO_lt hg hp e he
      have h2 := hok.2.2.2 e he10
      exact itC_st hg hok k e he10 (by omega))]
theorem cool_is {w : Nat → Int32} {g : Gr} {fl : Nat → Int} {dr rk : Nat → Nat} (hw : WFw w g) (hok : FlOk g fl rk) (hd : ∀ n, n < 10 → ¬ hasW w n → dr n = 0) : ∃ S : Nat → Nat, ∀ n, n < 10 → EqC w g fl dr S n ∧ gd w ≤ S n ∧ S n ≤ 1200 := by
  refine ⟨itC w g fl dr 10, fun n hn => ⟨?_, itC_bd hw hd 10 n hn⟩⟩
  unfold EqC
  rw [← itC_st hw.2.1 hok 10 n hn (by omega)]
  rfl
theorem FlE.uniq {g : Gr} {L : List Rec} {c : Lp} {dr B : Nat → Nat} {z : Int} {f f' : Nat → Int32} (hL : LP0 g L c) (h : FlE g L c dr B z f) (k : FlE g L c dr B z f') {p : Nat} (hp : p < g.1) : f p = f' p := by
  by_cases c1 : g.2.1 p ∈ nds L
  · by_cases c2 : inQ c p
    · obtain ⟨i, i1, i2⟩ := c2
      rw [← i2, h.2.1 i i1, k.2.1 i i1]
    · obtain ⟨n, n1, n2, n3, n4⟩ := hL.2.2.2.2.2.1 p hp c1 c2
      rw [← n3, h.1 n n1 n2 n4, k.1 n n1 n2 n4]
  · rw [h.2.2 p hp c1, k.2.2 p hp c1]
/-- what a look leaves -/
def ReF (w : Nat → Int32) (g : Gr) (c : Lp) (R : Nat) (dr B T S : Nat → Nat) (z : Int) (f : Nat → Int32) (τ : Mem) : Prop :=
  FarM (bfs g 0) τ ∧ LoM c τ ∧ (∀ n, n < 10 → τ.1 225 n = nI (dr n)) ∧ (∀ e, e ∈ nds (bfs g 0) → τ.2.1 227 e = lN (B e)) ∧ τ.2.1 209 31 = zL (if c.1 = 0 then 0 else sumD g (bfs g 0) c dr B (rsW w) z) ∧ (∀ p, p < g.1 → τ.1 228 p = f p) ∧ (∀ n, n < 10 → τ.1 229 n = nI (T n) ∧ τ.1 230 n = nI (S n) ∧ τ.2.1 231 n = lN (rmH w g (flR f) T n + rmC w g (flR f) dr S n)) ∧ τ.1 209 32 = nI R
/-- what a look needs to know of its last round -/
def LkB (w : Nat → Int32) (g : Gr) (c : Lp) (dr B T S : Nat → Nat) (z : Int) (f : Nat → Int32) : Prop := FlB w g (bfs g 0) c dr B z f ∧ (∃ rk, FlOk g (flR f) rk) ∧ ∀ n, n < 10 → (EqH w g (flR f) T n ∧ gd w ≤ T n ∧ T n ≤ 1200) ∧ EqC w g (flR f) dr S n ∧ gd w ≤ S n ∧ S n ≤ 1200
