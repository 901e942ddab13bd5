/-! ===== the class's state is found when it is asked for; networks taken over ===== -/
def ChS (σ τ : Mem) : Prop := (∀ a k, a < 44 ∨ 65 < a → ¬ (a = 0 ∧ k = 11) → τ.1 a k = σ.1 a k) ∧ (∀ a k, a < 44 ∨ 65 < a → τ.2.1 a k = σ.2.1 a k) ∧ τ.2.2 = σ.2.2
theorem ChS.rfl' (σ : Mem) : ChS σ σ := ⟨fun _ _ _ _ => rfl, fun _ _ _ => rfl, rfl⟩
theorem ChS.fr {σ τ : Mem} (h : ChS σ τ) : Fr σ τ := ⟨fun a k q => h.1 a k (by unfold Es at q; omega) (by unfold Es at q; omega), fun a k q => h.2.1 a k (by omega)⟩
theorem i_settle {w : Nat → Int32} {g : Gr} {σ : Mem} {K : Mem → Prop} {X : String → Mem → Prop} (hw : WFw w g) (hN : NR σ 1 w g) (hS : ¬ σ.1 0 11 = 0 → SettE w g σ) (h : ∀ (τ : Mem) (c : Lp) (R : Nat) (D T : Nat → Nat → Nat) (B S : Nat → Nat) (z : Int), ChS σ τ → Sett w g c R D T B S z τ → ¬ τ.1 0 11 = 0 → K τ) : sp_X4_settle σ K X := by
  refine ⟨fun c => ?_, fun _ => ⟨netA_1, g, hw.2.1, hw.2.2.1, hw.2.2.2.1, hN.2.1, fun τ c hC hP => ⟨staA_53, netA_1, w, g, c, hw, hN.ch hC (.inl (by decide)), hP, fun υ R D T B S z hC2 hH hF σ35 e35 => ?_⟩⟩⟩
  · obtain ⟨c', R, D, T, B, S, z, hs⟩ := hS c
    exact h σ c' R D T B S z (ChS.rfl' σ) hs c
  · have hP2 := hP.ch hC2 (by decide)
    refine h σ35 c R D T B S z ⟨fun a k q1 q2 => ?_, fun a k q1 => ?_, ?_⟩ ⟨hP2.cg (fun b k p q => ?_), hH, hF.cg (fun o k ho => ?_) (fun o k ho => ?_)⟩ ?_
    · rw [e35, wi_i, if_neg q2, (hC2.1 a k (by omega)).1, (hC.1 a k (by omega)).1]
    · rw [e35, wi_l, (hC2.1 a k (by omega)).2, (hC.1 a k (by omega)).2]
    · rw [e35, show (wi υ 0 11 1).2.2 = υ.2.2 from rfl, hC2.2, hC.2]
    · rw [e35, wi_i, if_neg (by omega)]
    · rw [e35, wi_i, if_neg (by omega)]
    · rw [e35, wi_l]
    · rw [e35, wi_at]; decide
/-- the network at a is the one that stood at b -/
def TkO (a b : Nat) (σ τ : Mem) : Prop := (∀ c k, c < a ∨ a + 13 < c → τ.1 c k = σ.1 c k ∧ τ.2.1 c k = σ.2.1 c k) ∧ τ.2.2 = σ.2.2 ∧ (∀ k, k < 7 → τ.1 (a + 1) k = σ.1 (b + 1) k) ∧ τ.1 a 1 = σ.1 b 1 ∧ (∀ o k, 2 ≤ o → o ≤ 10 → k < 10 → τ.1 (a + o) k = σ.1 (b + o) k) ∧ (∀ o k, 11 ≤ o → o ≤ 13 → k < 10 → τ.2.1 (a + o) k = σ.2.1 (b + o) k) ∧ ∀ k, 14 ≤ k → k ≤ 17 → τ.2.1 a k = σ.2.1 b k
theorem i_takeOver {a b : Nat} {σ : Mem} {K : Mem → Prop} {X : String → Mem → Prop} (ha : NetA a) (hb : NetA b) (hd : a + 13 < b ∨ b + 13 < a) (h : ∀ τ : Mem, TkO a b σ τ → K τ) : sp_X0_takeOver a b σ K X := by
  refine ⟨ha, hb, fun σ12 e12 σ20 e20 σ35 e35 σ50 e50 σ65 e65 σ80 e80 σ95 e95 σ110 e110 σ125 e125 σ140 e140 σ155 e155 σ170 e170 σ185 e185 σ200 e200 σ208 e208 σ216 e216 σ224 e224 σ232 e232 => h σ232 ?_⟩
  have f0 : ∀ c k, (c < a ∨ a + 13 < c) → σ.1 c k = σ.1 c k := fun _ _ _ => rfl
  have f12 : ∀ c k, (c < a ∨ a + 13 < c) → σ12.1 c k = σ.1 c k := fun c k q => by rw [e12, ci_i, if_neg (by omega)]
  have f20 : ∀ c k, (c < a ∨ a + 13 < c) → σ20.1 c k = σ.1 c k := fun c k q => by rw [e20, wi_i, if_neg (by omega)]; exact f12 c k q
  have f35 : ∀ c k, (c < a ∨ a + 13 < c) → σ35.1 c k = σ.1 c k := fun c k q => by rw [e35, ci_i, if_neg (by omega)]; exact f20 c k q
  have f50 : ∀ c k, (c < a ∨ a + 13 < c) → σ50.1 c k = σ.1 c k := fun c k q => by rw [e50, ci_i, if_neg (by omega)]; exact f35 c k q
  have f65 : ∀ c k, (c < a ∨ a + 13 < c) → σ65.1 c k = σ.1 c k := fun c k q => by rw [e65, ci_i, if_neg (by omega)]; exact f50 c k q
  have f80 : ∀ c k, (c < a ∨ a + 13 < c) → σ80.1 c k = σ.1 c k := fun c k q => by rw [e80, ci_i, if_neg (by omega)]; exact f65 c k q
  have f95 : ∀ c k, (c < a ∨ a + 13 < c) → σ95.1 c k = σ.1 c k := fun c k q => by rw [e95, ci_i, if_neg (by omega)]; exact f80 c k q
  have f110 : ∀ c k, (c < a ∨ a + 13 < c) → σ110.1 c k = σ.1 c k := fun c k q => by rw [e110, ci_i, if_neg (by omega)]; exact f95 c k q
  have f125 : ∀ c k, (c < a ∨ a + 13 < c) → σ125.1 c k = σ.1 c k := fun c k q => by rw [e125, ci_i, if_neg (by omega)]; exact f110 c k q
  have f140 : ∀ c k, (c < a ∨ a + 13 < c) → σ140.1 c k = σ.1 c k := fun c k q => by rw [e140, ci_i, if_neg (by omega)]; exact f125 c k q
  have f155 : ∀ c k, (c < a ∨ a + 13 < c) → σ155.1 c k = σ.1 c k := fun c k q => by rw [e155, ci_i, if_neg (by omega)]; exact f140 c k q
  have hI : σ232.1 = σ155.1 := by rw [e232]; show σ224.1 = _; rw [e224]; show σ216.1 = _; rw [e216]; show σ208.1 = _; rw [e208]; show σ200.1 = _; rw [e200]; show σ185.1 = _; rw [e185]; show σ170.1 = _; rw [e170]; rfl
  have hL : σ155.2 = σ.2 := by rw [e155]; show σ140.2 = _; rw [e140]; show σ125.2 = _; rw [e125]; show σ110.2 = _; rw [e110]; show σ95.2 = _; rw [e95]; show σ80.2 = _; rw [e80]; show σ65.2 = _; rw [e65]; show σ50.2 = _; rw [e50]; show σ35.2 = _; rw [e35]; show σ20.2 = _; rw [e20]; show σ12.2 = _; rw [e12]; rfl
  have g155 : ∀ c k, (c < a ∨ a + 13 < c) → σ155.2.1 c k = σ.2.1 c k := fun c k _ => by rw [hL]
  have g170 : ∀ c k, (c < a ∨ a + 13 < c) → σ170.2.1 c k = σ.2.1 c k := fun c k q => by rw [e170, cl_l, if_neg (by omega)]; exact g155 c k q
  have g185 : ∀ c k, (c < a ∨ a + 13 < c) → σ185.2.1 c k = σ.2.1 c k := fun c k q => by rw [e185, cl_l, if_neg (by omega)]; exact g170 c k q
  have g200 : ∀ c k, (c < a ∨ a + 13 < c) → σ200.2.1 c k = σ.2.1 c k := fun c k q => by rw [e200, cl_l, if_neg (by omega)]; exact g185 c k q
  have g208 : ∀ c k, (c < a ∨ a + 13 < c) → σ208.2.1 c k = σ.2.1 c k := fun c k q => by rw [e208, wl_l, if_neg (by omega)]; exact g200 c k q
  have g216 : ∀ c k, (c < a ∨ a + 13 < c) → σ216.2.1 c k = σ.2.1 c k := fun c k q => by rw [e216, wl_l, if_neg (by omega)]; exact g208 c k q
  have g224 : ∀ c k, (c < a ∨ a + 13 < c) → σ224.2.1 c k = σ.2.1 c k := fun c k q => by rw [e224, wl_l, if_neg (by omega)]; exact g216 c k q
  have g232 : ∀ c k, (c < a ∨ a + 13 < c) → σ232.2.1 c k = σ.2.1 c k := fun c k q => by rw [e232, wl_l, if_neg (by omega)]; exact g224 c k q
  have hD : σ232.2.2 = σ.2.2 := by rw [e232]; show σ224.2.2 = _; rw [e224]; show σ216.2.2 = _; rw [e216]; show σ208.2.2 = _; rw [e208]; show σ200.2.2 = _; rw [e200]; show σ185.2.2 = _; rw [e185]; show σ170.2.2 = _; rw [e170]; show σ155.2.2 = _; rw [hL]
  have r1 : ∀ k, k < 7 → σ232.1 (a + 1) k = σ.1 (b + 1) k := fun k q => by rw [hI]; rw [e155, ci_i, if_neg (by omega)]; rw [e140, ci_i, if_neg (by omega)]; rw [e125, ci_i, if_neg (by omega)]; rw [e110, ci_i, if_neg (by omega)]; rw [e95, ci_i, if_neg (by omega)]; rw [e80, ci_i, if_neg (by omega)]; rw [e65, ci_i, if_neg (by omega)]; rw [e50, ci_i, if_neg (by omega)]; rw [e35, ci_i, if_neg (by omega)]; rw [e20, wi_i, if_neg (by omega)]; rw [e12, ci_i, if_pos (by omega), show 0 + (k - 0) = k by omega]
  have r0 : σ232.1 a 1 = σ.1 b 1 := by rw [hI]; rw [e155, ci_i, if_neg (by omega)]; rw [e140, ci_i, if_neg (by omega)]; rw [e125, ci_i, if_neg (by omega)]; rw [e110, ci_i, if_neg (by omega)]; rw [e95, ci_i, if_neg (by omega)]; rw [e80, ci_i, if_neg (by omega)]; rw [e65, ci_i, if_neg (by omega)]; rw [e50, ci_i, if_neg (by omega)]; rw [e35, ci_i, if_neg (by omega)]; rw [e20, wi_at]; exact f12 _ _ (by omega)
  have r2 : ∀ k, k < 10 → σ232.1 (a + 2) k = σ.1 (b + 2) k := fun k q => by rw [hI]; rw [e155, ci_i, if_neg (by omega)]; rw [e140, ci_i, if_neg (by omega)]; rw [e125, ci_i, if_neg (by omega)]; rw [e110, ci_i, if_neg (by omega)]; rw [e95, ci_i, if_neg (by omega)]; rw [e80, ci_i, if_neg (by omega)]; rw [e65, ci_i, if_neg (by omega)]; rw [e50, ci_i, if_neg (by omega)]; rw [e35, ci_i, if_pos (by omega), show 0 + (k - 0) = k by omega]; exact f20 _ _ (by omega)
  have r3 : ∀ k, k < 10 → σ232.1 (a + 3) k = σ.1 (b + 3) k := fun k q => by rw [hI]; rw [e155, ci_i, if_neg (by omega)]; rw [e140, ci_i, if_neg (by omega)]; rw [e125, ci_i, if_neg (by omega)]; rw [e110, ci_i, if_neg (by omega)]; rw [e95, ci_i, if_neg (by omega)]; rw [e80, ci_i, if_neg (by omega)]; rw [e65, ci_i, if_neg (by omega)]; rw [e50, ci_i, if_pos (by omega), show 0 + (k - 0) = k by omega]; exact f35 _ _ (by omega)
  have r4 : ∀ k, k < 10 → σ232.1 (a + 4) k = σ.1 (b + 4) k := fun k q => by rw [hI]; rw [e155, ci_i, if_neg (by omega)]; rw [e140, ci_i, if_neg (by omega)]; rw [e125, ci_i, if_neg (by omega)]; rw [e110, ci_i, if_neg (by omega)]; rw [e95, ci_i, if_neg (by omega)]; rw [e80, ci_i, if_neg (by omega)]; rw [e65, ci_i, if_pos (by omega), show 0 + (k - 0) = k by omega]; exact f50 _ _ (by omega)
  have r5 : ∀ k, k < 10 → σ232.1 (a + 5) k = σ.1 (b + 5) k := fun k q => by rw [hI]; rw [e155, ci_i, if_neg (by omega)]; rw [e140, ci_i, if_neg (by omega)]; rw [e125, ci_i, if_neg (by omega)]; rw [e110, ci_i, if_neg (by omega)]; rw [e95, ci_i, if_neg (by omega)]; rw [e80, ci_i, if_pos (by omega), show 0 + (k - 0) = k by omega]; exact f65 _ _ (by omega)
  have r6 : ∀ k, k < 10 → σ232.1 (a + 6) k = σ.1 (b + 6) k := fun k q => by rw [hI]; rw [e155, ci_i, if_neg (by omega)]; rw [e140, ci_i, if_neg (by omega)]; rw [e125, ci_i, if_neg (by omega)]; rw [e110, ci_i, if_neg (by omega)]; rw [e95, ci_i, if_pos (by omega), show 0 + (k - 0) = k by omega]; exact f80 _ _ (by omega)
  have r7 : ∀ k, k < 10 → σ232.1 (a + 7) k = σ.1 (b + 7) k := fun k q => by rw [hI]; rw [e155, ci_i, if_neg (by omega)]; rw [e140, ci_i, if_neg (by omega)]; rw [e125, ci_i, if_neg (by omega)]; rw [e110, ci_i, if_pos (by omega), show 0 + (k - 0) = k by omega]; exact f95 _ _ (by omega)
  have r8 : ∀ k, k < 10 → σ232.1 (a + 8) k = σ.1 (b + 8) k := fun k q => by rw [hI]; rw [e155, ci_i, if_neg (by omega)]; rw [e140, ci_i, if_neg (by omega)]; rw [e125, ci_i, if_pos (by omega), show 0 + (k - 0) = k by omega]; exact f110 _ _ (by omega)
  have r9 : ∀ k, k < 10 → σ232.1 (a + 9) k = σ.1 (b + 9) k := fun k q => by rw [hI]; rw [e155, ci_i, if_neg (by omega)]; rw [e140, ci_i, if_pos (by omega), show 0 + (k - 0) = k by omega]; exact f125 _ _ (by omega)
  have r10 : ∀ k, k < 10 → σ232.1 (a + 10) k = σ.1 (b + 10) k := fun k q => by rw [hI];  rw [e155, ci_i, if_pos (by omega), show 0 + (k - 0) = k by omega]; exact f140 _ _ (by omega)
  have r11 : ∀ k, k < 10 → σ232.2.1 (a + 11) k = σ.2.1 (b + 11) k := fun k q => by rw [e232, wl_l, if_neg (by omega)]; rw [e224, wl_l, if_neg (by omega)]; rw [e216, wl_l, if_neg (by omega)]; rw [e208, wl_l, if_neg (by omega)]; rw [e200, cl_l, if_neg (by omega)]; rw [e185, cl_l, if_neg (by omega)]; rw [e170, cl_l, if_pos (by omega), show 0 + (k - 0) = k by omega]; exact g155 _ _ (by omega)
  have r12 : ∀ k, k < 10 → σ232.2.1 (a + 12) k = σ.2.1 (b + 12) k := fun k q => by rw [e232, wl_l, if_neg (by omega)]; rw [e224, wl_l, if_neg (by omega)]; rw [e216, wl_l, if_neg (by omega)]; rw [e208, wl_l, if_neg (by omega)]; rw [e200, cl_l, if_neg (by omega)]; rw [e185, cl_l, if_pos (by omega), show 0 + (k - 0) = k by omega]; exact g170 _ _ (by omega)
  have r13 : ∀ k, k < 10 → σ232.2.1 (a + 13) k = σ.2.1 (b + 13) k := fun k q => by rw [e232, wl_l, if_neg (by omega)]; rw [e224, wl_l, if_neg (by omega)]; rw [e216, wl_l, if_neg (by omega)]; rw [e208, wl_l, if_neg (by omega)]; rw [e200, cl_l, if_pos (by omega), show 0 + (k - 0) = k by omega]; exact g185 _ _ (by omega)
  have r14 : σ232.2.1 a 14 = σ.2.1 b 14 := by rw [e232, wl_l, if_neg (by omega)]; rw [e224, wl_l, if_neg (by omega)]; rw [e216, wl_l, if_neg (by omega)]; rw [e208, wl_l, if_pos ⟨rfl, rfl⟩]; exact g200 _ _ (by omega)
  have r15 : σ232.2.1 a 15 = σ.2.1 b 15 := by rw [e232, wl_l, if_neg (by omega)]; rw [e224, wl_l, if_neg (by omega)]; rw [e216, wl_l, if_pos ⟨rfl, rfl⟩]; exact g208 _ _ (by omega)
  have r16 : σ232.2.1 a 16 = σ.2.1 b 16 := by rw [e232, wl_l, if_neg (by omega)]; rw [e224, wl_l, if_pos ⟨rfl, rfl⟩]; exact g216 _ _ (by omega)
  have r17 : σ232.2.1 a 17 = σ.2.1 b 17 := by  rw [e232, wl_l, if_pos ⟨rfl, rfl⟩]; exact g224 _ _ (by omega)
  refine ⟨fun c k q => ⟨by rw [hI]; exact f155 c k q, g232 c k q⟩, hD, r1, r0, fun o k q1 q2 q3 => ?_, fun o k q1 q2 q3 => ?_, fun k q1 q2 => ?_⟩
  · have : o = 2 ∨ o = 3 ∨ o = 4 ∨ o = 5 ∨ o = 6 ∨ o = 7 ∨ o = 8 ∨ o = 9 ∨ o = 10 := by omega
    rcases this with e | e | e | e | e | e | e | e | e <;> subst e
    · exact r2 k q3
    · exact r3 k q3
    · exact r4 k q3
    · exact r5 k q3
    · exact r6 k q3
    · exact r7 k q3
    · exact r8 k q3
    · exact r9 k q3
    · exact r10 k q3
  · have : o = 11 ∨ o = 12 ∨ o = 13 := by omega
    rcases this with e | e | e <;> subst e
    · exact r11 k q3
    · exact r12 k q3
    · exact r13 k q3
  · have : k = 14 ∨ k = 15 ∨ k = 16 ∨ k = 17 := by omega
    rcases this with e | e | e | e <;> subst e
    · exact r14
    · exact r15
    · exact r16
    · exact r17
theorem NR.tk {a b : Nat} {σ τ : Mem} {w : Nat → Int32} {g : Gr} (h : NR σ b w g) (hg : g.1 ≤ 10) (t : TkO a b σ τ) : NR τ a w g := by
  obtain ⟨h1, h2, h3, h4⟩ := h
  obtain ⟨-, -, t1, t2, t3, -, -⟩ := t
  refine ⟨fun k hk => by rw [t1 k hk]; exact h1 k hk, ⟨by rw [t2]; exact h2.1, fun p hp => by rw [t3 2 p (by decide) (by decide) (by omega), t3 3 p (by decide) (by decide) (by omega)]; exact h2.2 p hp⟩, fun p hp => by rw [t3 4 p (by decide) (by decide) (by omega), t3 5 p (by decide) (by decide) (by omega)]; exact h3 p hp, fun n hn => ?_⟩
  rw [t3 6 n (by decide) (by decide) hn, t3 7 n (by decide) (by decide) hn, t3 8 n (by decide) (by decide) hn, t3 9 n (by decide) (by decide) hn, t3 10 n (by decide) (by decide) hn]
  exact h4 n hn
theorem NS.tk {a b : Nat} {σ τ : Mem} {w : Nat → Int32} {g : Gr} {u : Nat → Int64} (h : NS σ b w g u) (hg : g.1 ≤ 10) (t : TkO a b σ τ) : NS τ a w g u := by
  obtain ⟨h1, h2, h3, h4, h5, h6⟩ := h
  have t' := t
  obtain ⟨-, -, -, -, -, t4, t5⟩ := t
  exact ⟨h1.tk hg t', fun n hn hh => by rw [t4 11 n (by decide) (by decide) hn, t4 12 n (by decide) (by decide) hn, t4 13 n (by decide) (by decide) hn]; exact h2 n hn hh, by rw [t5 14 (by decide) (by decide)]; exact h3, by rw [t5 15 (by decide) (by decide)]; exact h4, by rw [t5 16 (by decide) (by decide)]; exact h5, by rw [t5 17 (by decide) (by decide)]; exact h6⟩
/-- the rows with another return temperature at n -/
def wr (w : Nat → Int32) (n : Nat) (t : Int32) : Nat → Int32 := fun k => if k = 48 + 6 * n + 2 then t else w k
theorem wr_ne {w : Nat → Int32} {n k : Nat} {t : Int32} (h : k ≠ 48 + 6 * n + 2) : wr w n t k = w k := if_neg h
theorem wr_at {w : Nat → Int32} {n : Nat} {t : Int32} : wr w n t (48 + 6 * n + 2) = t := if_pos rfl
theorem wr_has {w : Nat → Int32} {n m : Nat} {t : Int32} : hasW (wr w n t) m ↔ hasW w m := by unfold hasW; rw [wr_ne (by omega)]
theorem WFw.wr {w : Nat → Int32} {g : Gr} {n : Nat} {t : Int32} (h : WFw w g) (ht : rg t 200 600) : WFw (wr w n t) g := by
  obtain ⟨h1, h2, h3, h4, h5, h6, h7, h8, h9, h10, h11, h12, h13⟩ := h
  have hp := h2.1
  refine ⟨by rw [wr_ne (by omega)]; exact h1, h2, h3, h4, fun p hp => ?_, by rw [wr_ne (by omega)]; exact h6, by rw [wr_ne (by omega)]; exact h7, by rw [wr_ne (by omega)]; exact h8, by rw [wr_ne (by omega)]; exact h9, by rw [wr_ne (by omega)]; exact h10, by rw [wr_ne (by omega)]; exact h11, by rw [wr_ne (by omega)]; exact h12, fun m hm hh => ?_⟩
  · rw [wr_ne (by omega), wr_ne (by omega), wr_ne (by omega), wr_ne (by omega)]; exact h5 p hp
  · rw [wr_has] at hh
    obtain ⟨a1, a2, a3, a4, a5⟩ := h13 m hm hh
    rw [wr_ne (k := 48 + 6 * m + 1) (by omega), wr_ne (k := 48 + 6 * m + 3) (by omega), wr_ne (k := 48 + 6 * m + 4) (by omega), wr_ne (k := 48 + 6 * m + 5) (by omega)]
    refine ⟨a1, ?_, a3, a4, a5⟩
    by_cases c : m = n
    · subst c; rw [wr_at]; exact ht
    · rw [wr_ne (by omega)]; exact a2
theorem NR.wr {σ : Mem} {a n : Nat} {w : Nat → Int32} {g : Gr} {t : Int32} (h : NR σ a w g) (hg : g.1 ≤ 10) : NR (wi σ (a + 7) n t) a (wr w n t) g := by
  obtain ⟨h1, h2, h3, h4⟩ := h
  refine ⟨fun k hk => by rw [wi_i, if_neg (by omega), wr_ne (by omega)]; exact h1 k hk, ⟨by rw [wi_i, if_neg (by omega)]; exact h2.1, fun p hp => by rw [wi_i, if_neg (by omega), wi_i, if_neg (by omega)]; exact h2.2 p hp⟩, fun p hp => by rw [wi_i, if_neg (by omega), wi_i, if_neg (by omega), wr_ne (by omega), wr_ne (by omega)]; exact h3 p hp, fun m hm => ?_⟩
  have e : ∀ o, o ≠ 7 → (wi σ (a + 7) n t).1 (a + o) m = σ.1 (a + o) m := fun o ho => by rw [wi_i, if_neg (by omega)]
  rw [wr_has, e 6 (by decide), e 8 (by decide), e 9 (by decide), e 10 (by decide), wr_ne (k := 48 + 6 * m + 1) (by omega), wr_ne (k := 48 + 6 * m + 3) (by omega), wr_ne (k := 48 + 6 * m + 4) (by omega), wr_ne (k := 48 + 6 * m + 5) (by omega)]
  refine ⟨fun hh => ?_, (h4 m hm).2⟩
  obtain ⟨a1, a2, a3, a4, a5⟩ := (h4 m hm).1 hh
  refine ⟨a1, ?_, a3, a4, a5⟩
  by_cases c : m = n
  · subst c; rw [wi_at, wr_at]
  · rw [wi_i, if_neg (fun q => c q.2), wr_ne (by omega)]; exact a2
/-- what a trial leaves as it was -/
def ChT (σ τ : Mem) : Prop := (∀ a k, a < 29 ∨ (42 < a ∧ a < 66) ∨ 78 < a → τ.1 a k = σ.1 a k ∧ τ.2.1 a k = σ.2.1 a k) ∧ τ.2.2 = σ.2.2
theorem ChT.fm {σ τ : Mem} (h : ChT σ τ) : FM σ τ := ⟨⟨fun a k q => (h.1 a k (by unfold Es at q; omega)).1, fun a k q => (h.1 a k (by omega)).2⟩, (h.1 0 11 (by omega)).1, fun a k p q => (h.1 a k (by omega)).1, fun a k p q => (h.1 a k (by omega)).2⟩
theorem ChT.trans {σ τ υ : Mem} (h : ChT σ τ) (k : ChT τ υ) : ChT σ υ := ⟨fun a j q => ⟨by rw [(k.1 a j q).1, (h.1 a j q).1], by rw [(k.1 a j q).2, (h.1 a j q).2]⟩, by rw [k.2, h.2]⟩
theorem i_tryReturn {n : Nat} {t : Int32} {w : Nat → Int32} {g : Gr} {c : Lp} {σ : Mem} {K : Mem → Prop} {X : String → Mem → Prop} (hw : WFw w g) (hN : NR σ 1 w g) (hP : Shp g (bfs g 0) c σ) (hn : n < 10) (ht : rg t 200 600) (h : ∀ (τ : Mem) (R : Nat) (D T : Nat → Nat → Nat) (B S : Nat → Nat) (z : Int), ChT σ τ → NR τ 29 (wr w n t) g → Hist (wr w n t) g c R D T → StF (wr w n t) g c R (D R) B (T R) S z 66 τ → K τ) : sp_X4_tryReturn (nI n) t σ K X := by
  have hg := hw.2.1.1
  refine i_takeOver netA_29 netA_1 (.inr (by decide)) (fun τ hT => ⟨n_inR hn (by decide), fun σ20 e20 => ?_⟩)
  rw [n_cl (by omega)] at e20
  have hN2 : NR σ20 29 (wr w n t) g := by rw [e20]; exact (hN.tk hg hT).wr hg
  refine ⟨staA_66, netA_29, wr w n t, g, c, hw.wr ht, hN2, hP.cg (fun b k p q => ?_), fun υ R D T B S z hC hH hF => ?_⟩
  · rw [e20, wi_i, if_neg (by omega), (hT.1 b k (by omega)).1]
  · refine h υ R D T B S z ⟨fun a k q => ?_, ?_⟩ (hN2.ch hC (.inl (by decide))) hH hF
    · rw [(hC.1 a k (by omega)).1, (hC.1 a k (by omega)).2, e20, wi_i, if_neg (by omega), wi_l, (hT.1 a k (by omega)).1, (hT.1 a k (by omega)).2]; exact ⟨rfl, rfl⟩
    · rw [hC.2, e20, show (wi τ 36 n t).2.2 = τ.2.2 from rfl, hT.2.1]
