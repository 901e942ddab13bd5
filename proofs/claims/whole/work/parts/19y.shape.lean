/-! ===== what a run of a method leaves as it was; the class's graph ===== -/
/-- only cells from lo to hi may have changed -/
def Ch (lo hi : Nat) (σ τ : Mem) : Prop := (∀ a k, a < lo ∨ hi < a → τ.1 a k = σ.1 a k ∧ τ.2.1 a k = σ.2.1 a k) ∧ τ.2.2 = σ.2.2
theorem Ch.rfl' {lo hi : Nat} (σ : Mem) : Ch lo hi σ σ := ⟨fun _ _ _ => ⟨rfl, rfl⟩, rfl⟩
theorem Ch.trans {lo hi : Nat} {σ τ υ : Mem} (h : Ch lo hi σ τ) (k : Ch lo hi τ υ) : Ch lo hi σ υ :=
  ⟨fun a j q => ⟨(k.1 a j q).1.trans (h.1 a j q).1, (k.1 a j q).2.trans (h.1 a j q).2⟩, k.2.trans h.2⟩
theorem Ch.wider {lo hi lo' hi' : Nat} {σ τ : Mem} (h : Ch lo hi σ τ) (h1 : lo' ≤ lo) (h2 : hi ≤ hi') : Ch lo' hi' σ τ :=
  ⟨fun a j q => h.1 a j (by omega), h.2⟩
theorem Ch.wi {lo hi : Nat} {σ τ : Mem} (h : Ch lo hi σ τ) {a k : Nat} {v : Int32} (h1 : lo ≤ a) (h2 : a ≤ hi) : Ch lo hi σ (wi τ a k v) :=
  ⟨fun b j q => ⟨by rw [wi_i, if_neg (fun w => by omega)]; exact (h.1 b j q).1, (h.1 b j q).2⟩, h.2⟩
theorem Ch.wl {lo hi : Nat} {σ τ : Mem} (h : Ch lo hi σ τ) {a k : Nat} {v : Int64} (h1 : lo ≤ a) (h2 : a ≤ hi) : Ch lo hi σ (wl τ a k v) :=
  ⟨fun b j q => ⟨(h.1 b j q).1, by rw [wl_l, if_neg (fun w => by omega)]; exact (h.1 b j q).2⟩, h.2⟩
theorem Ch.fi {lo hi : Nat} {σ τ : Mem} (h : Ch lo hi σ τ) {a n : Nat} {v : Int32} (h1 : lo ≤ a) (h2 : a ≤ hi) : Ch lo hi σ (fi τ a n v) :=
  ⟨fun b j q => ⟨by rw [fi_i, if_neg (fun w => by omega)]; exact (h.1 b j q).1, (h.1 b j q).2⟩, h.2⟩
theorem Ch.fl {lo hi : Nat} {σ τ : Mem} (h : Ch lo hi σ τ) {a n : Nat} {v : Int64} (h1 : lo ≤ a) (h2 : a ≤ hi) : Ch lo hi σ (fl τ a n v) :=
  ⟨fun b j q => ⟨(h.1 b j q).1, by rw [fl_l, if_neg (fun w => by omega)]; exact (h.1 b j q).2⟩, h.2⟩
theorem Ch.ci {lo hi : Nat} {σ τ : Mem} (h : Ch lo hi σ τ) {a b sp dp n : Nat} (h1 : lo ≤ b) (h2 : b ≤ hi) : Ch lo hi σ (ci τ a b sp dp n) :=
  ⟨fun c j q => ⟨by rw [ci_i, if_neg (fun w => by omega)]; exact (h.1 c j q).1, (h.1 c j q).2⟩, h.2⟩
theorem netA_far {a : Nat} (h : NetA a) : a ≤ 29 ∨ (83 ≤ a ∧ a ≤ 195) := by
  have hl : a < 235 := kd_lt (net0 h) (fun q => by cases q)
  exact (by decide +kernel : ∀ a, a < 235 → kd a = .inr 2 → (a ≤ 29 ∨ (83 ≤ a ∧ a ≤ 195))) a hl (net0 h)
/-- the pipes of a class network are the graph g -/
def GC (σ : Mem) (a : Nat) (g : Gr) : Prop := σ.1 a 1 = nI g.1 ∧ ∀ p, p < g.1 → σ.1 (a + 2) p = nI (g.2.1 p) ∧ σ.1 (a + 3) p = nI (g.2.2 p)
theorem GC.ch {σ τ : Mem} {a lo hi : Nat} {g : Gr} (h : GC σ a g) (hc : Ch lo hi σ τ) (hd : a + 3 < lo ∨ hi < a) : GC τ a g :=
  ⟨by rw [(hc.1 a 1 (by omega)).1]; exact h.1, fun p hp => by rw [(hc.1 (a + 2) p (by omega)).1, (hc.1 (a + 3) p (by omega)).1]; exact h.2 p hp⟩
theorem fec_ac {σ : Mem} {a : Nat} {g : Gr} (hg : WG g) (h : GC σ a g) {p n : Nat} (hp : p < g.1) (hn : n < 10) : feC σ a p (nI n) = fI (ac g p n) := by
  obtain ⟨h1, h2⟩ := h.2 p hp
  obtain ⟨w1, w2, -⟩ := hg.2 p hp
  unfold feC ac
  rw [h1, h2]
  by_cases c : g.2.1 p = n
  · rw [if_pos c, if_pos ((nI_e10 w1 hn).mpr c)]; rfl
  · rw [if_neg c, if_neg (fun q => c ((nI_e10 w1 hn).mp q))]
    by_cases d : g.2.2 p = n
    · rw [if_pos d, if_pos ((nI_e10 w2 hn).mpr d)]; rfl
    · rw [if_neg d, if_neg (fun q => d ((nI_e10 w2 hn).mp q))]; rfl
/-- the feeder and the pipe of a node that isn't the plant -/
def fOf (L : List Rec) (j : Nat) : Option Nat := if j = 0 then none else (rOf L j).map (fun r => r.2.1)
def pOf (L : List Rec) (j : Nat) : Option Nat := if j = 0 then none else (rOf L j).map (fun r => r.2.2.1)
theorem fOf_app {L : List Rec} {r : Rec} (h : r.1 ∉ nds L) (h0 : r.1 ≠ 0) (j : Nat) : fOf (L ++ [r]) j = if j = r.1 then some r.2.1 else fOf L j := by
  unfold fOf
  rw [rOf_app h]
  by_cases c : j = r.1
  · rw [if_pos c, if_pos c, if_neg (by rw [c]; exact h0)]; rfl
  · rw [if_neg c, if_neg c]
theorem pOf_app {L : List Rec} {r : Rec} (h : r.1 ∉ nds L) (h0 : r.1 ≠ 0) (j : Nat) : pOf (L ++ [r]) j = if j = r.1 then some r.2.2.1 else pOf L j := by
  unfold pOf
  rw [rOf_app h]
  by_cases c : j = r.1
  · rw [if_pos c, if_pos c, if_neg (by rw [c]; exact h0)]; rfl
  · rw [if_neg c, if_neg c]
theorem fOf_in {g : Gr} {src : Nat} {L : List Rec} (h : Tre g src L) {n : Nat} (hn : n ∈ nds L) (h0 : n ≠ 0) : fOf L n = some (fe L n) ∧ pOf L n = some (fp L n) := by
  obtain ⟨i, hi⟩ := h.get hn
  have := rOf_get h.1.1 hi
  unfold fOf pOf
  rw [if_neg h0, if_neg h0, this]
  exact ⟨rfl, rfl⟩
theorem dOf_in {g : Gr} {src : Nat} {L : List Rec} (h : Tre g src L) {n : Nat} (hn : n ∈ nds L) : dOf L n = some (di L n) := by
  obtain ⟨i, hi⟩ := h.get hn
  have := rOf_get h.1.1 hi
  unfold dOf
  rw [this]
  rfl
theorem Of_out {L : List Rec} {n : Nat} (hn : n ∉ nds L) : dOf L n = none ∧ fOf L n = none ∧ pOf L n = none := by
  have := rOf_none.mpr hn
  unfold dOf fOf pOf
  rw [this]
  refine ⟨rfl, ?_, ?_⟩ <;> (split <;> rfl)
/-- the shape's rows, as the search lays them -/
def ShD (L : List Rec) (τ : Mem) : Prop := τ.1 44 2 = nI L.length ∧ (∀ j, j < 10 → τ.1 45 j = fI (dOf L j)) ∧ (∀ (i : Nat) (r : Rec), L[i]? = some r → τ.1 46 i = nI r.1) ∧ (∀ j, j < 10 → τ.1 47 j = fI (fOf L j)) ∧ (∀ j, j < 10 → τ.1 48 j = fI (pOf L j)) ∧ (∀ j, j < 10 → τ.1 49 j = -1)
theorem ShD.new {τ : Mem} {L : List Rec} (h : ShD L τ) {e n k d : Nat} (he : e ∉ nds L) (h0 : e ≠ 0) : ShD (L ++ [(e, n, k, d)]) (wi (wi (wi (wi (wi τ 45 e (nI d)) 47 e (nI n)) 48 e (nI k)) 46 L.length (nI e)) 44 2 (nI (L.length + 1))) := by
  obtain ⟨h1, h2, h3, h4, h5, h6⟩ := h
  refine ⟨?_, fun j hj => ?_, fun i r hr => ?_, fun j hj => ?_, fun j hj => ?_, fun j hj => ?_⟩
  · rw [wi_i, if_pos ⟨rfl, rfl⟩, List.length_append]; rfl
  · rw [wi_i, if_neg (fun q => absurd q.1 (by decide)), wi_i, if_neg (fun q => absurd q.1 (by decide)), wi_i, if_neg (fun q => absurd q.1 (by decide)), wi_i, if_neg (fun q => absurd q.1 (by decide)), wi_i, dOf_app he]
    by_cases c : j = e
    · rw [if_pos ⟨rfl, c⟩, if_pos c]; rfl
    · rw [if_neg (fun q => c q.2), if_neg c]; exact h2 j hj
  · rw [wi_i, if_neg (fun q => absurd q.1 (by decide)), wi_i]
    rcases get_app1 hr with c | ⟨c, d⟩
    · have hl := (List.getElem?_eq_some_iff.mp c).1
      rw [if_neg (fun q => by omega), wi_i, if_neg (fun q => absurd q.1 (by decide)), wi_i, if_neg (fun q => absurd q.1 (by decide)), wi_i, if_neg (fun q => absurd q.1 (by decide))]
      exact h3 i r c
    · rw [if_pos ⟨rfl, c⟩, d]
  · rw [wi_i, if_neg (fun q => absurd q.1 (by decide)), wi_i, if_neg (fun q => absurd q.1 (by decide)), wi_i, if_neg (fun q => absurd q.1 (by decide)), wi_i, fOf_app he h0]
    by_cases c : j = e
    · rw [if_pos ⟨rfl, c⟩, if_pos c]; rfl
    · rw [if_neg (fun q => c q.2), if_neg c, wi_i, if_neg (fun q => absurd q.1 (by decide))]; exact h4 j hj
  · rw [wi_i, if_neg (fun q => absurd q.1 (by decide)), wi_i, if_neg (fun q => absurd q.1 (by decide)), wi_i, pOf_app he h0]
    by_cases c : j = e
    · rw [if_pos ⟨rfl, c⟩, if_pos c]; rfl
    · rw [if_neg (fun q => c q.2), if_neg c, wi_i, if_neg (fun q => absurd q.1 (by decide)), wi_i, if_neg (fun q => absurd q.1 (by decide))]; exact h5 j hj
  · rw [wi_i, if_neg (fun q => absurd q.1 (by decide)), wi_i, if_neg (fun q => absurd q.1 (by decide)), wi_i, if_neg (fun q => absurd q.1 (by decide)), wi_i, if_neg (fun q => absurd q.1 (by decide)), wi_i, if_neg (fun q => absurd q.1 (by decide))]
    exact h6 j hj
theorem fI_lt10 {g : Gr} {src : Nat} {L : List Rec} (h : Tre g src L) (n : Nat) : (fI (dOf L n) < 0) ↔ n ∉ nds L := by
  rw [← dOf_none]
  refine fI_neg (fun d hd => ?_)
  by_cases c : n ∈ nds L
  · rw [dOf_in h c] at hd; cases hd; exact h.d10 c
  · rw [(Of_out c).1] at hd; cases hd
theorem nds_idx {g : Gr} {src : Nat} {L : List Rec} (h : Tre g src L) {n : Nat} (hn : n ∈ nds L) : ∃ i, i < L.length ∧ L[i]? = some (n, fe L n, fp L n, di L n) := by
  obtain ⟨i, hi⟩ := h.get hn
  exact ⟨i, (List.getElem?_eq_some_iff.mp hi).1, hi⟩
theorem nds_0 {g : Gr} {src : Nat} (i : Nat) : src ∈ nds (bs g src i) := by
  have h := (bs_tr (g := g) (src := src) i).1
  exact List.mem_map.mpr ⟨_, List.mem_of_getElem? h, rfl⟩
theorem nI_eqP {a b : Nat} (ha : a < 10) (hb : b < 10) (h : nI a = nI b) : a = b := (nI_e10 ha hb).mp h
theorem fI_some {a : Nat} {o : Option Nat} (ha : a < 10) (ho : ∀ d, o = some d → d < 10) : fI o = nI a ↔ o = some a := by
  cases o with
  | none =>
    refine ⟨fun q => ?_, fun q => by cases q⟩
    have h0 := nI_pos (n := a) (by omega)
    rw [← q] at h0
    exact absurd (by decide) h0
  | some d =>
    refine ⟨fun q => ?_, fun q => by cases q; rfl⟩
    rw [nI_eqP (ho d rfl) ha q]
