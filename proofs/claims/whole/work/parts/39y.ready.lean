/-! ===== the reference's ends of pipes ===== -/
theorem oI_ne {o : Option Nat} {n : Nat} (ho : ∀ d, o = some d → d < 10) (hn : n < 10) : fI o = nI n ↔ o = some n := fI_some hn ho
theorem frO_lt {g : Gr} {fl : Nat → Int} (hg : WG g) {p : Nat} (hp : p < g.1) : ∀ d, frO g fl p = some d → d < 10 := fun d h => by
  obtain ⟨n, h1, -⟩ := fr_to h
  exact (ac_lt hg hp (fr_ac hg hp h h1)).2.1
theorem toO_lt {g : Gr} {fl : Nat → Int} (hg : WG g) {p : Nat} (hp : p < g.1) : ∀ d, toO g fl p = some d → d < 10 := fun d h => by
  obtain ⟨e, h1, -⟩ := to_fr h
  exact (ac_lt hg hp (fr_ac hg hp h1 h)).1
theorem i_X5_from {p : Nat} {g : Gr} {fl : Nat → Int} {σ : Mem} {K : Int32 → Mem → Prop} {X : String → Mem → Prop} (hg : WG g) (hG : GM σ g) (hp : p < g.1) (hf : σ.1 228 p = zI (fl p)) (hb : -20000 ≤ fl p ∧ fl p ≤ 20000) (h : K (fI (frO g fl p)) σ) : sp_X5_from (nI p) σ K X := by
  have hP := hg.1
  have z0 : (0 : Int32) = zI 0 := rfl
  have hi := n_inR (n := p) (N := 10) (by omega) (by decide)
  unfold sp_X5_from
  unfold frO at h
  rw [n_cl (by omega), hf, z0, zI_le (by omega) (by omega) (by omega) (by omega), zI_le (by omega) (by omega) (by omega) (by omega)]
  refine ⟨hi, fun c => ⟨hi, fun d => ?_, fun d => i_X5_of (w := 1) (by omega) ?_⟩, fun c => i_X5_of (w := 0) (by omega) ?_⟩
  · rw [if_neg (by omega), if_neg (by omega)] at h; exact h
  · rw [if_neg (by omega), if_pos (by omega)] at h
    rw [(hG.2 p hp).2]; exact h
  · rw [if_pos (by omega)] at h
    rw [Nat.add_zero, (hG.2 p hp).1]; exact h
theorem i_X5_to {p : Nat} {g : Gr} {fl : Nat → Int} {σ : Mem} {K : Int32 → Mem → Prop} {X : String → Mem → Prop} (hg : WG g) (hG : GM σ g) (hp : p < g.1) (hf : σ.1 228 p = zI (fl p)) (hb : -20000 ≤ fl p ∧ fl p ≤ 20000) (h : K (fI (toO g fl p)) σ) : sp_X5_to (nI p) σ K X := by
  have hP := hg.1
  have z0 : (0 : Int32) = zI 0 := rfl
  have hi := n_inR (n := p) (N := 10) (by omega) (by decide)
  unfold sp_X5_to
  unfold toO at h
  rw [n_cl (by omega), hf, z0, zI_le (by omega) (by omega) (by omega) (by omega), zI_le (by omega) (by omega) (by omega) (by omega)]
  refine ⟨hi, fun c => ⟨hi, fun d => ?_, fun d => i_X5_of (w := 0) (by omega) ?_⟩, fun c => i_X5_of (w := 1) (by omega) ?_⟩
  · rw [if_neg (by omega), if_neg (by omega)] at h; exact h
  · rw [if_neg (by omega), if_pos (by omega)] at h
    rw [Nat.add_zero, (hG.2 p hp).1]; exact h
  · rw [if_pos (by omega)] at h
    rw [(hG.2 p hp).2]; exact h
/-- what the reference's temperatures stand on -/
def TBase (w : Nat → Int32) (g : Gr) (fl : Nat → Int) (dr : Nat → Nat) (rk : Nat → Nat) (σ : Mem) : Prop := WFw w g ∧ (∀ k, k < 108 → σ.1 210 k = w k) ∧ (∀ p, p < g.1 → σ.1 228 p = zI (fl p)) ∧ FlOk g fl rk ∧ (∀ n, n < 10 → σ.1 225 n = nI (dr n) ∧ dr n ≤ 999 ∧ (¬ hasW w n → dr n = 0))
/-- e is known before n: in the hot water's way, in that of the water that goes back -/
def prd (g : Gr) (fl : Nat → Int) (b : Bool) (e n : Nat) : Prop := ∃ p, p < g.1 ∧ (if b then toO g fl p = some e ∧ frO g fl p = some n else frO g fl p = some e ∧ toO g fl p = some n)
