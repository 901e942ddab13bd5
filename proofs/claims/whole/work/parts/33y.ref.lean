/-! ===== the reference's rows: graph, loop pipes ===== -/
theorem GM_of {w : Nat → Int32} {g : Gr} {σ : Mem} (hw : WFw w g) (hr : ∀ k, k < 108 → σ.1 210 k = w k) : GM σ g := by
  have hP := hw.2.1.1
  refine ⟨by rw [hr 7 (by decide)]; exact hw.1, fun p hp => ?_⟩
  obtain ⟨h1, h2, -⟩ := hw.2.2.2.2.1 p hp
  rw [hr _ (by omega), hr _ (by omega)]
  exact ⟨h1, h2⟩
theorem lpB_qB {g : Gr} {L : List Rec} {c : Lp} {τ : Mem} (hg : WG g) (hL : LP0 g L c) (hl : LoM c τ) {p : Nat} (hp : p < 10) : lpB τ (nI p) c.1 = qB c p := by
  have hP := hg.1
  unfold lpB qB
  rw [Bool.eq_iff_iff, List.any_eq_true, List.any_eq_true]
  constructor
  · rintro ⟨i, i1, i2⟩
    have hi := List.mem_range.mp i1
    have i2 := of_decide_eq_true i2
    rw [(hl.2 i hi).2] at i2
    have := (hL.2.1 i hi).1
    exact ⟨i, i1, decide_eq_true (nI_eqP (by omega) hp i2)⟩
  · rintro ⟨i, i1, i2⟩
    have hi := List.mem_range.mp i1
    have i2 := of_decide_eq_true i2
    exact ⟨i, i1, decide_eq_true (by rw [(hl.2 i hi).2, i2])⟩
theorem i_X5_isLoopPipe {g : Gr} {L : List Rec} {c : Lp} {σ : Mem} {K : Int32 → Mem → Prop} {X : String → Mem → Prop} (hg : WG g) (hT : Tre g 0 L) (hL : LP0 g L c) (hl : LoM c σ) {p : Nat} (hp : p < 10) (h : K (if qB c p = true then 1 else 0) σ) : sp_X5_isLoopPipe (nI p) σ K X := by
  refine ⟨c.1, hL.le hT, hl.1, ?_⟩
  rw [lpB_qB hg hL hl hp]
  exact h
theorem FarM.at {g : Gr} {L : List Rec} {σ : Mem} (hT : Tre g 0 L) (h : FarM L σ) {n : Nat} (hn : n ∈ nds L) : σ.1 219 n = nI (di L n) := by
  rw [h n (hT.lt hn), dOf_in hT hn]; rfl
theorem FarM.eq {g : Gr} {L : List Rec} {σ : Mem} (hT : Tre g 0 L) (h : FarM L σ) {n d : Nat} (hn : n < 10) (hd : d ≤ 10) : σ.1 219 n = nI d ↔ n ∈ nds L ∧ di L n = d := by
  by_cases c : n ∈ nds L
  · rw [h.at hT c, nI_eq (by have := hT.d10 c; omega) (by omega)]
    exact ⟨fun q => ⟨c, q⟩, fun q => q.2⟩
  · rw [h n hn, (Of_out c).1]
    refine ⟨fun q => ?_, fun q => absurd q.1 c⟩
    have h0 := nI_pos (n := d) (by omega)
    rw [← q] at h0
    exact absurd (by decide) h0
theorem tm_le {g : Gr} {L : List Rec} {c : Lp} {B : Nat → Nat} {n p : Nat} (hT : Tre g 0 L) (hb : ∀ e, e ∈ nds L → B e ≤ 9990) (hn : n ∈ nds L) (hp : p < g.1) : tm g L c B n p ≤ 9990 := by
  unfold tm
  cases e : ac g p n with
  | none => exact Nat.zero_le _
  | some y =>
    show (if qB c p = true ∨ di L y ≤ di L n then 0 else B y) ≤ 9990
    split
    · exact Nat.zero_le _
    · exact hb y (hT.2.2 n p y hn hp e)
/-- the pipes' flows, as a row -/
def FlE (g : Gr) (L : List Rec) (c : Lp) (dr B : Nat → Nat) (z : Int) (f : Nat → Int32) : Prop := (∀ n, n ∈ nds L → n ≠ 0 → ¬ inT c n → f (fp L n) = zI (sgn g (fp L n) (fe L n) (B n))) ∧ (∀ k, k < c.1 → f (c.2.2 k) = zI (sgn g (c.2.2 k) (c.2.1 k) (z - skF g L c dr B k))) ∧ (∀ p, p < g.1 → g.2.1 p ∉ nds L → f p = 0)
