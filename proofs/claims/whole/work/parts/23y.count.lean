/-! ===== counting; what a run of the reference's methods leaves as it was ===== -/
theorem ctB_one {f : Nat → Bool} : ∀ {n : Nat}, 1 ≤ ctB f n → ∃ p, p < n ∧ f p = true
  | 0, h => absurd h (Nat.not_succ_le_zero 0)
  | n + 1, h => by
    by_cases c : f n = true
    · exact ⟨n, by omega, c⟩
    · have h : 1 ≤ ctB f n + if f n = true then 1 else 0 := h
      rw [if_neg c] at h
      obtain ⟨p, p1, p2⟩ := ctB_one h
      exact ⟨p, by omega, p2⟩
theorem ctB_two {f : Nat → Bool} : ∀ {n : Nat}, 2 ≤ ctB f n → ∃ p q, p ≠ q ∧ p < n ∧ q < n ∧ f p = true ∧ f q = true
  | 0, h => absurd h (Nat.not_succ_le_zero 1)
  | n + 1, h => by
    have h : 2 ≤ ctB f n + if f n = true then 1 else 0 := h
    by_cases c : f n = true
    · rw [if_pos c] at h
      obtain ⟨p, p1, p2⟩ := ctB_one (f := f) (n := n) (by omega)
      exact ⟨p, n, by omega, by omega, by omega, p2, c⟩
    · rw [if_neg c] at h
      obtain ⟨p, q, h1, h2, h3, h4, h5⟩ := ctB_two h
      exact ⟨p, q, h1, by omega, by omega, h4, h5⟩
theorem ctB_ge1 {f : Nat → Bool} : ∀ {n p : Nat}, p < n → f p = true → 1 ≤ ctB f n
  | 0, p, h, _ => absurd h (Nat.not_lt_zero p)
  | n + 1, p, h, hp => by
    show 1 ≤ ctB f n + if f n = true then 1 else 0
    by_cases c : p = n
    · rw [← c, if_pos hp]; omega
    · have := ctB_ge1 (n := n) (p := p) (by omega) hp
      omega
theorem ctB_ge2 {f : Nat → Bool} : ∀ {n p q : Nat}, p ≠ q → p < n → q < n → f p = true → f q = true → 2 ≤ ctB f n
  | 0, p, _, _, h, _, _, _ => absurd h (Nat.not_lt_zero p)
  | n + 1, p, q, hne, hp, hq, fp, fq => by
    show 2 ≤ ctB f n + if f n = true then 1 else 0
    by_cases c : p = n
    · have := ctB_ge1 (f := f) (n := n) (p := q) (by omega) fq
      rw [← c, if_pos fp]; rw [← c] at this; omega
    · by_cases d : q = n
      · have := ctB_ge1 (f := f) (n := n) (p := p) (by omega) fp
        rw [← d, if_pos fq]; rw [← d] at this; omega
      · have := ctB_ge2 (f := f) (n := n) hne (by omega) (by omega) fp fq
        omega
theorem ctB_mono {f g : Nat → Bool} : ∀ {n : Nat}, (∀ k, k < n → f k = true → g k = true) → ctB f n ≤ ctB g n
  | 0, _ => Nat.le_refl 0
  | n + 1, h => by
    have ih := ctB_mono (f := f) (g := g) (n := n) (fun k hk => h k (by omega))
    show ctB f n + (if f n = true then 1 else 0) ≤ ctB g n + (if g n = true then 1 else 0)
    by_cases c : f n = true
    · rw [if_pos c, if_pos (h n (by omega) c)]; omega
    · rw [if_neg c]; omega
theorem ctB_lt {f g : Nat → Bool} : ∀ {n : Nat}, (∀ k, k < n → f k = true → g k = true) → (∃ k, k < n ∧ g k = true ∧ ¬ f k = true) → ctB f n < ctB g n
  | 0, _, ⟨k, hk, _⟩ => absurd hk (Nat.not_lt_zero k)
  | n + 1, h, ⟨k, hk, h1, h2⟩ => by
    show ctB f n + (if f n = true then 1 else 0) < ctB g n + (if g n = true then 1 else 0)
    by_cases d : k = n
    · have ih := ctB_mono (f := f) (g := g) (n := n) (fun k hk => h k (by omega))
      rw [← d, if_pos h1, if_neg h2]; rw [← d] at ih; omega
    · have ih := ctB_lt (f := f) (g := g) (n := n) (fun k hk => h k (by omega)) ⟨k, by omega, h1, h2⟩
      by_cases c : f n = true
      · rw [if_pos c, if_pos (h n (by omega) c)]; omega
      · rw [if_neg c]; omega
/-- of the reference only the rows of a look may have changed -/
def ChM (σ τ : Mem) : Prop := (∀ a k, a < 209 ∨ (209 < a ∧ a < 219) ∨ 232 < a → τ.1 a k = σ.1 a k ∧ τ.2.1 a k = σ.2.1 a k) ∧ (∀ k, k ≠ 22 → k ≠ 32 → τ.1 209 k = σ.1 209 k) ∧ (∀ k, k ≠ 31 → τ.2.1 209 k = σ.2.1 209 k) ∧ τ.2.2 = σ.2.2
theorem ChM.rfl' (σ : Mem) : ChM σ σ := ⟨fun _ _ _ => ⟨rfl, rfl⟩, fun _ _ _ => rfl, fun _ _ => rfl, rfl⟩
theorem ChM.trans {σ τ υ : Mem} (h : ChM σ τ) (k : ChM τ υ) : ChM σ υ :=
  ⟨fun a j q => ⟨(k.1 a j q).1.trans (h.1 a j q).1, (k.1 a j q).2.trans (h.1 a j q).2⟩, fun j h1 h2 => (k.2.1 j h1 h2).trans (h.2.1 j h1 h2), fun j h1 => (k.2.2.1 j h1).trans (h.2.2.1 j h1), k.2.2.2.trans h.2.2.2⟩
theorem ChM.swi {σ τ : Mem} (h : ChM σ τ) {a k : Nat} {v : Int32} (h1 : 219 ≤ a) (h2 : a ≤ 232) : ChM σ (wi τ a k v) :=
  ⟨fun b j q => ⟨by rw [wi_i, if_neg (fun w => by omega)]; exact (h.1 b j q).1, (h.1 b j q).2⟩, fun j q1 q2 => by rw [wi_i, if_neg (fun w => by omega)]; exact h.2.1 j q1 q2, h.2.2.1, h.2.2.2⟩
theorem ChM.swl {σ τ : Mem} (h : ChM σ τ) {a k : Nat} {v : Int64} (h1 : 219 ≤ a) (h2 : a ≤ 232) : ChM σ (wl τ a k v) :=
  ⟨fun b j q => ⟨(h.1 b j q).1, by rw [wl_l, if_neg (fun w => by omega)]; exact (h.1 b j q).2⟩, h.2.1, fun j q1 => by rw [wl_l, if_neg (fun w => by omega)]; exact h.2.2.1 j q1, h.2.2.2⟩
theorem ChM.w22 {σ τ : Mem} (h : ChM σ τ) {v : Int32} : ChM σ (wi τ 209 22 v) :=
  ⟨fun b j q => ⟨by rw [wi_i, if_neg (fun w => by omega)]; exact (h.1 b j q).1, (h.1 b j q).2⟩, fun j q1 q2 => by rw [wi_i, if_neg (fun w => q1 w.2)]; exact h.2.1 j q1 q2, h.2.2.1, h.2.2.2⟩
theorem ChM.w32 {σ τ : Mem} (h : ChM σ τ) {v : Int32} : ChM σ (wi τ 209 32 v) :=
  ⟨fun b j q => ⟨by rw [wi_i, if_neg (fun w => by omega)]; exact (h.1 b j q).1, (h.1 b j q).2⟩, fun j q1 q2 => by rw [wi_i, if_neg (fun w => q2 w.2)]; exact h.2.1 j q1 q2, h.2.2.1, h.2.2.2⟩
theorem ChM.w31 {σ τ : Mem} (h : ChM σ τ) {v : Int64} : ChM σ (wl τ 209 31 v) :=
  ⟨fun b j q => ⟨(h.1 b j q).1, by rw [wl_l, if_neg (fun w => by omega)]; exact (h.1 b j q).2⟩, h.2.1, fun j q1 => by rw [wl_l, if_neg (fun w => q1 w.2)]; exact h.2.2.1 j q1, h.2.2.2⟩
theorem ChM.i210 {σ τ : Mem} (h : ChM σ τ) (k : Nat) : τ.1 210 k = σ.1 210 k := (h.1 210 k (by omega)).1
theorem GM.ch {σ τ : Mem} {g : Gr} (h : GM σ g) (hc : ChM σ τ) : GM τ g :=
  ⟨by rw [hc.i210]; exact h.1, fun p hp => by rw [hc.i210, hc.i210]; exact h.2 p hp⟩
/-- the reference's distances and loop -/
def FarM (L : List Rec) (τ : Mem) : Prop := ∀ j, j < 10 → τ.1 219 j = fI (dOf L j)
def LoM (c : Lp) (τ : Mem) : Prop := τ.1 209 22 = nI c.1 ∧ ∀ i, i < c.1 → τ.1 223 i = nI (c.2.1 i) ∧ τ.1 224 i = nI (c.2.2 i)
/-- there is such a loop -/
theorem loop_is {g : Gr} (hg : WG g) (ho : Own g) (hn : NoPar g) : ∃ c, LPo g (bfs g 0) c := by
  have hT := bfs_tre hg (by decide : 0 < 10)
  generalize bfs g 0 = L at hT
  by_cases hx : ∃ q, q < g.1 ∧ g.2.1 q ∈ nds L ∧ Off L 0 q
  · obtain ⟨q, hq, hcq, hof⟩ := hx
    have key : ∀ (d l r a : Nat) (fA : Nat → Nat) (b : Nat) (fB : Nat → Nat), di L l + di L r ≤ d → UpI L (g.2.1 q) (g.2.2 q) l r a fA b fB → ∃ c, LPo g L c := by
      intro d
      induction d with
      | zero =>
        intro l r a fA b fB hd hU
        have e1 := hT.up0 hU.1 (by omega)
        have e2 := hT.up0 hU.2.1 (by omega)
        subst e1
        subst e2
        rcases (hU.done hg hT ho hn hq rfl rfl hof).orient with h | h
        · exact ⟨_, h⟩
        · exact ⟨_, h⟩
      | succ d ih =>
        intro l r a fA b fB hd hU
        by_cases e : l = r
        · subst e
          rcases (hU.done hg hT ho hn hq rfl rfl hof).orient with h | h
          · exact ⟨_, h⟩
          · exact ⟨_, h⟩
        · by_cases c : di L r ≤ di L l
          · obtain ⟨l0, hU'⟩ := hU.left hT e c
            have := (hT.up hU.1 l0).2.1
            exact ih _ _ _ _ _ _ (by omega) hU'
          · obtain ⟨r0, hU'⟩ := hU.right hT c
            have := (hT.up hU.2.1 r0).2.1
            exact ih _ _ _ _ _ _ (by omega) hU'
    exact key _ _ _ 0 (fun _ => 0) 0 (fun _ => 0) (Nat.le_refl _) (UpI.start hcq (ac_conn hT hg hq (ac_ends hg hq).1 hcq).2 _ _)
  · exact ⟨(0, fun _ => 0, fun _ => 0), LP0.none _ _ (fun p hp hcp => Classical.byContradiction fun w => hx ⟨p, hp, hcp, fun n hn h0 e => w ⟨n, hn, h0, e⟩⟩)⟩
