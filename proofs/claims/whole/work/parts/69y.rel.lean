/-! ===== both sides together: what is kept by each call ===== -/
/-- the class's network at a: rows w, pipes g, sums u -/
def NS (σ : Mem) (a : Nat) (w : Nat → Int32) (g : Gr) (u : Nat → Int64) : Prop := NR σ a w g ∧ (∀ n, n < 10 → hasW w n → σ.2.1 (a + 11) n = u n ∧ σ.2.1 (a + 12) n = u (10 + n) ∧ σ.2.1 (a + 13) n = u (20 + n)) ∧ σ.2.1 a 14 = u 30 ∧ σ.2.1 a 15 = u 31 ∧ σ.2.1 a 16 = u 32 ∧ σ.2.1 a 17 = u 33
/-- a kept network: the class's at a, the reference's at place i of row b, j of row d -/
def Sv (σ : Mem) (a b i d j : Nat) : Prop := ∃ (w : Nat → Int32) (g : Gr) (u : Nat → Int64), WFw w g ∧ NS σ a w g u ∧ (∀ k, k < 108 → σ.1 b (i + k) = w k) ∧ ∀ k, k < 34 → σ.2.1 d (j + k) = u k
def Und (σ : Mem) : Prop := ∃ n e : Nat, n ≤ 8 ∧ e < 9 ∧ σ.1 0 8 = nI e ∧ σ.1 0 9 = nI n ∧ σ.1 209 5 = nI n ∧ ∀ j, j < n → Sv σ (83 + 14 * ((e + 8 - j) % 9)) 212 (108 * (n - 1 - j)) 213 (34 * (n - 1 - j))
def Txt (σ : Mem) : Prop := ∃ (s : Nat → Nat) (m : Nat), TxC s m σ ∧ TxM s m σ
def Snp (σ : Mem) : Prop := (σ.1 0 10 = 0 ↔ σ.1 209 8 = 0) ∧ (¬ σ.1 0 10 = 0 → Sv σ 15 214 0 215 0)
/-- all but what is found anew when it is asked for -/
def Core (w : Nat → Int32) (g : Gr) (u : Nat → Int64) (σ : Mem) : Prop := WFw w g ∧ NS σ 1 w g u ∧ (∀ k, k < 108 → σ.1 210 k = w k) ∧ (∀ k, k < 34 → σ.2.1 211 k = u k) ∧ Snp σ ∧ Und σ ∧ Txt σ ∧ σ.1 0 12 = σ.1 209 14 ∧ σ.1 0 13 = σ.1 209 15
/-- a solution -/
def Sol (w : Nat → Int32) (g : Gr) (c : Lp) (R : Nat) (D T : Nat → Nat → Nat) (B S : Nat → Nat) (z : Int) (f : Nat → Int32) : Prop := LPo g (bfs g 0) c ∧ Hist w g c R D T ∧ LkB w g c (D R) B (T R) S z f
/-- the class's state is found -/
def Sett (w : Nat → Int32) (g : Gr) (c : Lp) (R : Nat) (D T : Nat → Nat → Nat) (B S : Nat → Nat) (z : Int) (σ : Mem) : Prop := Shp g (bfs g 0) c σ ∧ Hist w g c R D T ∧ StF w g c R (D R) B (T R) S z 53 σ
def SettE (w : Nat → Int32) (g : Gr) (σ : Mem) : Prop := ∃ c R D T B S z, Sett w g c R D T B S z σ
def Rel (σ : Mem) : Prop := ∃ (w : Nat → Int32) (g : Gr) (u : Nat → Int64), Core w g u σ ∧ (¬ σ.1 0 11 = 0 → SettE w g σ)
theorem StF.lk {w : Nat → Int32} {g : Gr} {c : Lp} {R t : Nat} {dr B T S : Nat → Nat} {z : Int} {τ : Mem} (h : StF w g c R dr B T S z t τ) : LkB w g c dr B T S z (fun p => τ.1 (t + 2) p) :=
  ⟨h.1.1, h.1.2, fun n hn => ⟨⟨(h.2.2.1 n hn).2.2, (h.2.2.1 n hn).2.1⟩, (h.2.2.2.1 n hn).2.2.1, (h.2.2.2.1 n hn).2.1⟩⟩
theorem Sett.sol {w : Nat → Int32} {g : Gr} {c : Lp} {R : Nat} {D T : Nat → Nat → Nat} {B S : Nat → Nat} {z : Int} {τ : Mem} (h : Sett w g c R D T B S z τ) : Sol w g c R D T B S z (fun p => τ.1 55 p) := ⟨h.1.1, h.2.1, h.2.2.lk⟩
/-- the cells that are kept -/
def Es (a k : Nat) : Prop := (a = 0 ∧ k ≠ 11) ∨ (1 ≤ a ∧ a ≤ 28) ∨ (a = 79 ∧ k = 1) ∨ a = 80 ∨ (83 ≤ a ∧ a ≤ 208) ∨ (a = 209 ∧ (k = 5 ∨ k = 8 ∨ k = 12 ∨ k = 14 ∨ k = 15)) ∨ (210 ≤ a ∧ a ≤ 215) ∨ a = 218
def Fr (σ τ : Mem) : Prop := (∀ a k, Es a k → τ.1 a k = σ.1 a k) ∧ ∀ a k, (1 ≤ a ∧ a ≤ 28) ∨ (83 ≤ a ∧ a ≤ 208) ∨ (210 ≤ a ∧ a ≤ 215) → τ.2.1 a k = σ.2.1 a k
theorem Fr.rfl' (σ : Mem) : Fr σ σ := ⟨fun _ _ _ => rfl, fun _ _ _ => rfl⟩
theorem Fr.trans {σ τ υ : Mem} (h : Fr σ τ) (k : Fr τ υ) : Fr σ υ := ⟨fun a j q => by rw [k.1 a j q, h.1 a j q], fun a j q => by rw [k.2 a j q, h.2 a j q]⟩
theorem NR.fr {σ τ : Mem} {a : Nat} {w : Nat → Int32} {g : Gr} (h : NR σ a w g) (e : ∀ o k, o ≤ 13 → τ.1 (a + o) k = σ.1 (a + o) k) : NR τ a w g := h.eq1 (fun b k h1 h2 => by
  have := e (b - a) k (by omega)
  rw [show a + (b - a) = b by omega] at this
  exact this)
theorem NS.fr {σ τ : Mem} {a : Nat} {w : Nat → Int32} {g : Gr} {u : Nat → Int64} (h : NS σ a w g u) (e : ∀ o k, o ≤ 13 → τ.1 (a + o) k = σ.1 (a + o) k) (e2 : ∀ o k, o ≤ 13 → τ.2.1 (a + o) k = σ.2.1 (a + o) k) : NS τ a w g u := by
  obtain ⟨h1, h2, h3, h4, h5, h6⟩ := h
  have e0 : ∀ k, τ.2.1 a k = σ.2.1 a k := fun k => e2 0 k (by omega)
  exact ⟨h1.fr e, fun n hn hh => by rw [e2 11 n (by omega), e2 12 n (by omega), e2 13 n (by omega)]; exact h2 n hn hh, by rw [e0]; exact h3, by rw [e0]; exact h4, by rw [e0]; exact h5, by rw [e0]; exact h6⟩
theorem Sv.fr {σ τ : Mem} {a b i d j : Nat} (h : Sv σ a b i d j) (e : ∀ o k, o ≤ 13 → τ.1 (a + o) k = σ.1 (a + o) k) (e2 : ∀ o k, o ≤ 13 → τ.2.1 (a + o) k = σ.2.1 (a + o) k) (e3 : ∀ k, τ.1 b k = σ.1 b k) (e4 : ∀ k, τ.2.1 d k = σ.2.1 d k) : Sv τ a b i d j := by
  obtain ⟨w, g, u, h1, h2, h3, h4⟩ := h
  exact ⟨w, g, u, h1, h2.fr e e2, fun k hk => by rw [e3]; exact h3 k hk, fun k hk => by rw [e4]; exact h4 k hk⟩
theorem Und.fr {σ τ : Mem} (h : Und σ) (f : Fr σ τ) : Und τ := by
  obtain ⟨n, e, h1, h2, h3, h4, h5, h6⟩ := h
  refine ⟨n, e, h1, h2, by rw [f.1 0 8 (.inl ⟨rfl, by decide⟩)]; exact h3, by rw [f.1 0 9 (.inl ⟨rfl, by decide⟩)]; exact h4, by rw [f.1 209 5 (.inr (.inr (.inr (.inr (.inr (.inl ⟨rfl, .inl rfl⟩))))))]; exact h5, fun j hj => ?_⟩
  have hm : (e + 8 - j) % 9 < 9 := Nat.mod_lt _ (by decide)
  exact (h6 j hj).fr (fun o k ho => f.1 _ k (by unfold Es; omega)) (fun o k ho => f.2 _ k (by omega)) (fun k => f.1 212 k (by unfold Es; omega)) (fun k => f.2 213 k (by omega))
theorem Snp.fr {σ τ : Mem} (h : Snp σ) (f : Fr σ τ) : Snp τ := by
  have e1 : τ.1 0 10 = σ.1 0 10 := f.1 0 10 (by unfold Es; omega)
  have e2 : τ.1 209 8 = σ.1 209 8 := f.1 209 8 (by unfold Es; omega)
  refine ⟨by rw [e1, e2]; exact h.1, fun q => ?_⟩
  rw [e1] at q
  exact (h.2 q).fr (fun o k ho => f.1 _ k (by unfold Es; omega)) (fun o k ho => f.2 _ k (by omega)) (fun k => f.1 214 k (by unfold Es; omega)) (fun k => f.2 215 k (by omega))
theorem Txt.fr {σ τ : Mem} (h : Txt σ) (f : Fr σ τ) : Txt τ := by
  obtain ⟨s, m, h1, h2⟩ := h
  exact ⟨s, m, h1.of (f.1 79 1 (by unfold Es; omega)) (fun j => f.1 80 j (by unfold Es; omega)), h2.of (f.1 209 12 (by unfold Es; omega)) (fun j => f.1 218 j (by unfold Es; omega))⟩
theorem Core.fr {w : Nat → Int32} {g : Gr} {u : Nat → Int64} {σ τ : Mem} (h : Core w g u σ) (f : Fr σ τ) : Core w g u τ := by
  obtain ⟨h1, h2, h3, h4, h5, h6, h7, h8, h9⟩ := h
  refine ⟨h1, h2.fr (fun o k ho => f.1 _ k (by unfold Es; omega)) (fun o k ho => f.2 _ k (by omega)), fun k hk => by rw [f.1 210 k (by unfold Es; omega)]; exact h3 k hk, fun k hk => by rw [f.2 211 k (by omega)]; exact h4 k hk, h5.fr f, h6.fr f, h7.fr f, ?_, ?_⟩
  · rw [f.1 0 12 (by unfold Es; omega), f.1 209 14 (by unfold Es; omega)]; exact h8
  · rw [f.1 0 13 (by unfold Es; omega), f.1 209 15 (by unfold Es; omega)]; exact h9
theorem StF.cg {w : Nat → Int32} {g : Gr} {c : Lp} {R t : Nat} {dr B T S : Nat → Nat} {z : Int} {σ τ : Mem} (h : StF w g c R dr B T S z t σ) (e1 : ∀ o k, o ≤ 12 → τ.1 (t + o) k = σ.1 (t + o) k) (e2 : ∀ o k, o ≤ 12 → τ.2.1 (t + o) k = σ.2.1 (t + o) k) : StF w g c R dr B T S z t τ := by
  have ef : (fun p => τ.1 (t + 2) p) = fun p => σ.1 (t + 2) p := funext fun p => e1 2 p (by omega)
  have e0 : ∀ k, τ.2.1 t k = σ.2.1 t k := fun k => e2 0 k (by omega)
  have e0' : ∀ k, τ.1 t k = σ.1 t k := fun k => e1 0 k (by omega)
  unfold StF at h ⊢
  rw [ef]
  obtain ⟨h1, h2, h3, h4, h5, h6, h7, h8, h9⟩ := h
  exact ⟨h1, fun n hn => by rw [e1 1 n (by omega)]; exact h2 n hn, fun n hn => by rw [e1 6 n (by omega)]; exact h3 n hn, fun n hn => by rw [e1 7 n (by omega), e2 10 n (by omega)]; exact h4 n hn, fun p hp => by rw [e2 11 p (by omega)]; exact h5 p hp, by rw [e2 8 0 (by omega)]; exact h6, fun n hn => by rw [e2 12 n (by omega)]; exact h7 n hn, by rw [e0]; exact h8, by rw [e0']; exact h9⟩
theorem Shp.cg {g : Gr} {L : List Rec} {c : Lp} {σ τ : Mem} (h : Shp g L c σ) (e : ∀ b k, 44 ≤ b → b ≤ 52 → τ.1 b k = σ.1 b k) : Shp g L c τ := by
  obtain ⟨h1, h2, h3, h4, h5, h6, h7, h8, h9, h10⟩ := h
  refine ⟨h1, ⟨by rw [e _ _ (by decide) (by decide)]; exact h2.1, fun i hi => by rw [e _ _ (by decide) (by decide), e _ _ (by decide) (by decide)]; exact h2.2 i hi⟩, fun p hp => by rw [e _ _ (by decide) (by decide)]; exact h3 p hp, by rw [e _ _ (by decide) (by decide)]; exact h4, fun j hj => by rw [e _ _ (by decide) (by decide)]; exact h5 j hj, fun i r hr => by rw [e _ _ (by decide) (by decide)]; exact h6 i r hr, fun n a b d => by rw [e _ _ (by decide) (by decide), e _ _ (by decide) (by decide), e _ _ (by decide) (by decide)]; exact h7 n a b d, fun i a b => by rw [e _ _ (by decide) (by decide), e _ _ (by decide) (by decide), e _ _ (by decide) (by decide)]; exact h8 i a b, by rw [e _ _ (by decide) (by decide)]; exact h9, by rw [e _ _ (by decide) (by decide)]; exact h10.1, by rw [e _ _ (by decide) (by decide)]; exact h10.2⟩
/-- what the state is found in -/
def Fs (σ τ : Mem) : Prop := τ.1 0 11 = σ.1 0 11 ∧ (∀ a k, 44 ≤ a → a ≤ 65 → τ.1 a k = σ.1 a k) ∧ ∀ a k, 44 ≤ a → a ≤ 65 → τ.2.1 a k = σ.2.1 a k
theorem Fs.trans {σ τ υ : Mem} (h : Fs σ τ) (k : Fs τ υ) : Fs σ υ := ⟨by rw [k.1, h.1], fun a j p q => by rw [k.2.1 a j p q, h.2.1 a j p q], fun a j p q => by rw [k.2.2 a j p q, h.2.2 a j p q]⟩
theorem Sett.fs {w : Nat → Int32} {g : Gr} {c : Lp} {R : Nat} {D T : Nat → Nat → Nat} {B S : Nat → Nat} {z : Int} {σ τ : Mem} (h : Sett w g c R D T B S z σ) (f : Fs σ τ) : Sett w g c R D T B S z τ :=
  ⟨h.1.cg (fun b k p q => f.2.1 b k p (by omega)), h.2.1, h.2.2.cg (fun o k ho => f.2.1 _ k (by omega) (by omega)) (fun o k ho => f.2.2 _ k (by omega) (by omega))⟩
theorem SettE.fs {w : Nat → Int32} {g : Gr} {σ τ : Mem} (h : SettE w g σ) (f : Fs σ τ) : SettE w g τ := by
  obtain ⟨c, R, D, T, B, S, z, h⟩ := h
  exact ⟨c, R, D, T, B, S, z, h.fs f⟩
theorem Rel.fr {σ τ : Mem} (h : Rel σ) (f : Fr σ τ) (k : Fs σ τ) : Rel τ := by
  obtain ⟨w, g, u, h1, h2⟩ := h
  exact ⟨w, g, u, h1.fr f, fun q => (h2 (by rw [← k.1]; exact q)).fs k⟩
/-- what the reference's calls leave that change nothing -/
def FM (σ τ : Mem) : Prop := Fr σ τ ∧ Fs σ τ
theorem FM.rfl' (σ : Mem) : FM σ σ := ⟨Fr.rfl' σ, rfl, fun _ _ _ _ => rfl, fun _ _ _ _ => rfl⟩
theorem FM.trans {σ τ υ : Mem} (h : FM σ τ) (k : FM τ υ) : FM σ υ := ⟨h.1.trans k.1, h.2.trans k.2⟩
theorem FM.w0 (σ : Mem) (v : Int32) : FM σ (wi σ 209 0 v) := ⟨⟨fun a k q => by rw [wi_i, if_neg (fun h => by unfold Es at q; omega)], fun _ _ _ => rfl⟩, by rw [wi_i, if_neg (by omega)], fun a k p q => by rw [wi_i, if_neg (by omega)], fun _ _ _ _ => rfl⟩
theorem FM.wo (σ : Mem) (k : Nat) (v : Int64) : FM σ (wl σ 233 k v) := ⟨⟨fun _ _ _ => rfl, fun a k q => by rw [wl_l, if_neg (by omega)]⟩, rfl, fun _ _ _ _ => rfl, fun a k p q => by rw [wl_l, if_neg (by omega)]⟩
theorem FM.wd (σ : Mem) (k : Nat) (v : UInt64) : FM σ (wd σ 234 k v) := ⟨⟨fun _ _ _ => rfl, fun _ _ _ => rfl⟩, rfl, fun _ _ _ _ => rfl, fun _ _ _ _ => rfl⟩
theorem ChM.fm {σ τ : Mem} (h : ChM σ τ) : FM σ τ := by
  refine ⟨⟨fun a k q => ?_, fun a k q => (h.1 a k (by omega)).2⟩, (h.1 0 11 (by omega)).1, fun a k p q => (h.1 a k (by omega)).1, fun a k p q => (h.1 a k (by omega)).2⟩
  by_cases c : a = 209
  · subst c; exact h.2.1 k (by unfold Es at q; omega) (by unfold Es at q; omega)
  · exact (h.1 a k (by unfold Es at q; omega)).1
theorem Rel.fm {σ τ : Mem} (h : Rel σ) (f : FM σ τ) : Rel τ := h.fr f.1 f.2
