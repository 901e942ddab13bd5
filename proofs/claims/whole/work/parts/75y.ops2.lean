/-! ===== pipes ===== -/
def apW (w : Nat → Int32) (P : Nat) (a b l r : Int32) : Nat → Int32 := uw (uw (uw (uw (uw w (8 + 4 * P) a) (8 + 4 * P + 1) b) (8 + 4 * P + 2) l) (8 + 4 * P + 3) r) 7 (nI (P + 1))
theorem apW_ne {w : Nat → Int32} {P k : Nat} {a b l r : Int32} (h7 : k ≠ 7) (h : k < 8 + 4 * P ∨ 8 + 4 * P + 3 < k) : apW w P a b l r k = w k := by
  unfold apW
  rw [uw_ne h7, uw_ne (by omega), uw_ne (by omega), uw_ne (by omega), uw_ne (by omega)]
theorem apW_at {w : Nat → Int32} {P : Nat} {a b l r : Int32} : apW w P a b l r 7 = nI (P + 1) ∧ apW w P a b l r (8 + 4 * P) = a ∧ apW w P a b l r (8 + 4 * P + 1) = b ∧ apW w P a b l r (8 + 4 * P + 2) = l ∧ apW w P a b l r (8 + 4 * P + 3) = r := by
  unfold apW
  refine ⟨uw_at, ?_, ?_, ?_, ?_⟩
  · rw [uw_ne (by omega), uw_ne (by omega), uw_ne (by omega), uw_ne (by omega), uw_at]
  · rw [uw_ne (by omega), uw_ne (by omega), uw_ne (by omega), uw_at]
  · rw [uw_ne (by omega), uw_ne (by omega), uw_at]
  · rw [uw_ne (by omega), uw_at]
theorem apW_has {w : Nat → Int32} {P m : Nat} {a b l r : Int32} (hP : P < 10) : hasW (apW w P a b l r) m ↔ hasW w m := by unfold hasW; rw [apW_ne (by omega) (by omega)]
def apG (g : Gr) (a b : Int32) : Gr := addG g a.toNatClampNeg b.toNatClampNeg
theorem WFw.ap {w : Nat → Int32} {g : Gr} {a b l r : Int32} (hw : WFw w g) (h : prN g a b l r = 0) : g.1 < 10 ∧ WFw (apW w g.1 a b l r) (apG g a b) ∧ ∃ un vn, un < 10 ∧ vn < 10 ∧ a = nI un ∧ b = nI vn ∧ apG g a b = addG g un vn := by
  obtain ⟨a1, a2, a3, a4, a5, a6, a7, a8, a9, a10, a11, a12, a13⟩ := hw
  obtain ⟨un, vn, ln, rn, u10, v10, eu, ev, l1, l2, el, r1, r2, er, g10, g1, g2, g3⟩ := prN_0 a3 a4 a2 h
  have eG : apG g a b = addG g un vn := by unfold apG; rw [eu, ev, n_cl (by omega), n_cl (by omega)]
  have o : ∀ k, k ≠ 7 → k < 8 + 4 * g.1 ∨ 8 + 4 * g.1 + 3 < k → apW w g.1 a b l r k = w k := fun k q1 q2 => apW_ne q1 q2
  obtain ⟨b0, b1, b2, b3, b4⟩ := apW_at (w := w) (P := g.1) (a := a) (b := b) (l := l) (r := r)
  refine ⟨g10, ?_, un, vn, u10, v10, eu, ev, eG⟩
  rw [eG]
  refine ⟨b0, g1, g2, g3, fun p hp => ?_, by rw [o _ (by omega) (by omega)]; exact a6, by rw [o _ (by omega) (by omega)]; exact a7, by rw [o _ (by omega) (by omega)]; exact a8, by rw [o _ (by omega) (by omega)]; exact a9, by rw [o _ (by omega) (by omega)]; exact a10, by rw [o _ (by omega) (by omega)]; exact a11, by rw [o _ (by omega) (by omega)]; exact a12, fun m hm hh => ?_⟩
  · have hp' : p < g.1 + 1 := hp
    show _ = nI (if p = g.1 then un else g.2.1 p) ∧ _ = nI (if p = g.1 then vn else g.2.2 p) ∧ _ ∧ _
    by_cases c : p = g.1
    · rw [if_pos c, if_pos c, c, b1, b2, b3, b4]
      exact ⟨eu, ev, ⟨ln, l1, l2, el⟩, ⟨rn, r1, r2, er⟩⟩
    · rw [if_neg c, if_neg c, o _ (by omega) (by omega), o _ (by omega) (by omega), o _ (by omega) (by omega), o _ (by omega) (by omega)]
      exact a5 p (by omega)
  · rw [apW_has g10] at hh
    rw [o _ (by omega) (by omega), o _ (by omega) (by omega), o _ (by omega) (by omega), o _ (by omega) (by omega), o _ (by omega) (by omega)]
    exact a13 m hm hh
theorem i_putPipe {a b l r : Int32} {un vn : Nat} {w : Nat → Int32} {g : Gr} {u : Nat → Int64} {σ : Mem} {K : Mem → Prop} {X : String → Mem → Prop} (g10 : g.1 < 10) (ea : a = nI un) (eb : b = nI vn) (hN : NS σ 1 w g u) (h : ∀ τ : Mem, ChN σ τ → NS τ 1 (apW w g.1 a b l r) (addG g un vn) u → K τ) : sp_X0_putPipe 1 a b l r σ K X := by
  obtain ⟨⟨h1, h2, h3, h4⟩, h5, h6, h7, h8, h9⟩ := hN
  have hin := n_inR (n := g.1) (N := 10) g10 (by decide)
  have hP := h2.1
  unfold sp_X0_putPipe
  rw [hP, n_cl (by omega)]
  refine ⟨netA_1, hin, fun σ9 e9 => ?_⟩
  have p9 : σ9.1 1 1 = nI g.1 := by rw [e9, wi_i, if_neg (by omega)]; exact hP
  rw [p9, n_cl (by omega)]
  refine ⟨hin, fun σ19 e19 => ?_⟩
  have p19 : σ19.1 1 1 = nI g.1 := by rw [e19, wi_i, if_neg (by omega)]; exact p9
  rw [p19, n_cl (by omega)]
  refine ⟨hin, fun σ29 e29 => ?_⟩
  have p29 : σ29.1 1 1 = nI g.1 := by rw [e29, wi_i, if_neg (by omega)]; exact p19
  rw [p29, n_cl (by omega)]
  refine ⟨hin, fun σ40 e40 σ48 e48 => ?_⟩
  have p40 : σ40.1 1 1 = nI g.1 := by rw [e40, wi_i, if_neg (by omega)]; exact p29
  rw [p40, nI_1] at e48
  have i : ∀ c k, ¬ (c = 1 ∧ k = 1) → ¬ (3 ≤ c ∧ c ≤ 6 ∧ k = g.1) → σ48.1 c k = σ.1 c k := fun c k q1 q2 => by
    rw [e48, wi_i, if_neg q1, e40, wi_i, if_neg (by omega), e29, wi_i, if_neg (by omega), e19, wi_i, if_neg (by omega), e9, wi_i, if_neg (by omega)]
  have hL : σ48.2 = σ.2 := by rw [e48]; show σ40.2 = _; rw [e40]; show σ29.2 = _; rw [e29]; show σ19.2 = _; rw [e19]; show σ9.2 = _; rw [e9]; rfl
  obtain ⟨b0, b1, b2, b3, b4⟩ := apW_at (w := w) (P := g.1) (a := a) (b := b) (l := l) (r := r)
  refine h σ48 ?_ ⟨⟨fun k hk => by rw [i _ _ (by omega) (by omega), apW_ne (by omega) (by omega)]; exact h1 k hk, ⟨?_, fun p hp => ?_⟩, fun p hp => ?_, fun m hm => ?_⟩, fun m hm hh => ?_, by rw [hL]; exact h6, by rw [hL]; exact h7, by rw [hL]; exact h8, by rw [hL]; exact h9⟩
  · rw [e48, e40, e29, e19, e9]
    exact (((((ChN.rfl' σ).wi (by decide) (by decide)).wi (by decide) (by decide)).wi (by decide) (by decide)).wi (by decide) (by decide)).wi (by decide) (by decide)
  · rw [e48]; exact wi_at _ _ _ _
  · have hp' : p < g.1 + 1 := hp
    show _ = nI (if p = g.1 then un else g.2.1 p) ∧ _ = nI (if p = g.1 then vn else g.2.2 p)
    by_cases c : p = g.1
    · rw [if_pos c, if_pos c, c]
      refine ⟨?_, ?_⟩
      · rw [e48, wi_i, if_neg (by omega), e40, wi_i, if_neg (by omega), e29, wi_i, if_neg (by omega), e19, wi_i, if_neg (by omega), e9, wi_at]; exact ea
      · rw [e48, wi_i, if_neg (by omega), e40, wi_i, if_neg (by omega), e29, wi_i, if_neg (by omega), e19, wi_at]; exact eb
    · rw [if_neg c, if_neg c, i _ _ (by omega) (by omega), i _ _ (by omega) (by omega)]
      exact h2.2 p (by omega)
  · have hp' : p < g.1 + 1 := hp
    by_cases c : p = g.1
    · rw [c, b3, b4]
      refine ⟨?_, ?_⟩
      · rw [e48, wi_i, if_neg (by omega), e40, wi_i, if_neg (by omega), e29, wi_at]
      · rw [e48, wi_i, if_neg (by omega), e40, wi_at]
    · rw [i _ _ (by omega) (by omega), i _ _ (by omega) (by omega), apW_ne (by omega) (by omega), apW_ne (by omega) (by omega)]
      exact h3 p (by omega)
  · rw [apW_has g10, i _ _ (by omega) (by omega), i _ _ (by omega) (by omega), i _ _ (by omega) (by omega), i _ _ (by omega) (by omega), i _ _ (by omega) (by omega), apW_ne (by omega) (by omega), apW_ne (by omega) (by omega), apW_ne (by omega) (by omega), apW_ne (by omega) (by omega), apW_ne (by omega) (by omega)]
    exact h4 m hm
  · rw [apW_has g10] at hh
    rw [hL]; exact h5 m hm hh
theorem i_apM {a b l r : Int32} {w : Nat → Int32} {g : Gr} {σ : Mem} {K : Int32 → Mem → Prop} {X : String → Mem → Prop} (hw : WFw w g) (hr : ∀ k, k < 108 → σ.1 210 k = w k) (h0 : prN g a b l r = 0 → ∀ τ : Mem, OpM σ τ → (∀ k, k < 108 → τ.1 210 k = apW w g.1 a b l r k) → (∀ k, τ.2.1 211 k = σ.2.1 211 k) → K 0 τ) (h1 : prN g a b l r ≠ 0 → ∀ τ : Mem, OpM σ τ → (∀ k, k < 108 → k < 8 + 4 * g.1 ∨ 48 ≤ k → τ.1 210 k = w k) → (∀ k, τ.2.1 211 k = σ.2.1 211 k) → K (nI (prN g a b l r)) τ) : sp_X5_pipeBy a b l r σ K X := by
  refine ⟨g, hw.2.1, GM_of hw hr, fun τ hτ => ?_⟩
  rcases hτ with ⟨q1, q2, e⟩ | ⟨q1, q2, q3, q4⟩ | ⟨q1, q2, q3, q4, q5, q6, q7, q8⟩
  · subst e
    exact h1 q1 τ (OpM.rfl' τ) (fun k hk _ => hr k hk) (fun _ => rfl)
  · refine h1 (by omega) τ q3.op (fun k hk q => ?_) (fun k => (q3.1 211 k (by omega)).2)
    by_cases c : k = 7
    · rw [c, q4]; exact hw.1.symm
    · rw [q3.2.2.2.1 k c (by omega)]; exact hr k hk
  · rw [q2]
    refine h0 q2 τ q3.op (fun k hk => ?_) (fun k => (q3.1 211 k (by omega)).2)
    obtain ⟨b0, b1, b2, b3, b4⟩ := apW_at (w := w) (P := g.1) (a := a) (b := b) (l := l) (r := r)
    by_cases c : k = 7
    · rw [c, q4, b0]
    · by_cases d : k < 8 + 4 * g.1 ∨ 8 + 4 * g.1 + 3 < k
      · rw [q3.2.2.2.1 k c (by omega), apW_ne c d]; exact hr k hk
      · have : k = 8 + 4 * g.1 ∨ k = 8 + 4 * g.1 + 1 ∨ k = 8 + 4 * g.1 + 2 ∨ k = 8 + 4 * g.1 + 3 := by omega
        rcases this with e | e | e | e
        · rw [e, q5, b1]
        · rw [e, q6, b2]
        · rw [e, q7, b3]
        · rw [e, q8, b4]
/-- rows that differ only where nothing is said -/
theorem WFw.cg {w w' : Nat → Int32} {g : Gr} (h : WFw w g) (e : ∀ k, k < 108 → k < 8 + 4 * g.1 ∨ 48 ≤ k → w' k = w k) : WFw w' g := by
  obtain ⟨a1, a2, a3, a4, a5, a6, a7, a8, a9, a10, a11, a12, a13⟩ := h
  have hp := a2.1
  refine ⟨by rw [e 7 (by omega) (by omega)]; exact a1, a2, a3, a4, fun p hp => by rw [e _ (by omega) (by omega), e _ (by omega) (by omega), e _ (by omega) (by omega), e _ (by omega) (by omega)]; exact a5 p hp, by rw [e _ (by omega) (by omega)]; exact a6, by rw [e _ (by omega) (by omega)]; exact a7, by rw [e _ (by omega) (by omega)]; exact a8, by rw [e _ (by omega) (by omega)]; exact a9, by rw [e _ (by omega) (by omega)]; exact a10, by rw [e _ (by omega) (by omega)]; exact a11, by rw [e _ (by omega) (by omega)]; exact a12, fun m hm hh => ?_⟩
  have hh' : hasW w m := ⟨hh.1, by rw [← e _ (by omega) (by omega)]; exact hh.2⟩
  rw [e _ (by omega) (by omega), e _ (by omega) (by omega), e _ (by omega) (by omega), e _ (by omega) (by omega), e _ (by omega) (by omega)]
  exact a13 m hm hh'
theorem NS.cgw {σ : Mem} {c : Nat} {w w' : Nat → Int32} {g : Gr} {u : Nat → Int64} (h : NS σ c w g u) (hg : g.1 ≤ 10) (e : ∀ k, k < 108 → k < 8 + 4 * g.1 ∨ 48 ≤ k → w' k = w k) : NS σ c w' g u := by
  obtain ⟨⟨h1, h2, h3, h4⟩, h5, h6⟩ := h
  have eh : ∀ m, m < 10 → (hasW w' m ↔ hasW w m) := fun m hm => by unfold hasW; rw [e _ (by omega) (by omega)]
  refine ⟨⟨fun k hk => by rw [e _ (by omega) (by omega)]; exact h1 k hk, h2, fun p hp => by rw [e _ (by omega) (by omega), e _ (by omega) (by omega)]; exact h3 p hp, fun m hm => ?_⟩, fun m hm hh => h5 m hm ((eh m hm).mp hh), h6⟩
  rw [eh m hm, e _ (by omega) (by omega), e _ (by omega) (by omega), e _ (by omega) (by omega), e _ (by omega) (by omega), e _ (by omega) (by omega)]
  exact h4 m hm
/-- the rows without the pipe p -/
def dpW (w : Nat → Int32) (P p : Nat) : Nat → Int32 := fun k => if k = 7 then nI P else if 8 + 4 * p ≤ k ∧ k < 8 + 4 * P then w (k + 4) else w k
theorem dpW_ne {w : Nat → Int32} {P p k : Nat} (h7 : k ≠ 7) (h : k < 8 + 4 * p ∨ 8 + 4 * P ≤ k) : dpW w P p k = w k := by unfold dpW; rw [if_neg h7, if_neg (by omega)]
theorem dpW_sh {w : Nat → Int32} {P p k : Nat} (h1 : 8 + 4 * p ≤ k) (h2 : k < 8 + 4 * P) : dpW w P p k = w (k + 4) := by unfold dpW; rw [if_neg (by omega), if_pos ⟨h1, h2⟩]
theorem WFw.dp {w : Nat → Int32} {g : Gr} {P p : Nat} (hw : WFw w g) (hP : g.1 = P + 1) (hp : p ≤ P) : WFw (dpW w P p) (delG g p) := by
  obtain ⟨a1, a2, a3, a4, a5, a6, a7, a8, a9, a10, a11, a12, a13⟩ := hw
  have h10 := a2.1
  have o : ∀ k, k ≠ 7 → k < 8 ∨ 48 ≤ k → dpW w P p k = w k := fun k q1 q2 => dpW_ne q1 (by omega)
  have eh : ∀ m, hasW (dpW w P p) m ↔ hasW w m := fun m => by unfold hasW; rw [o _ (by omega) (by omega)]
  refine ⟨?_, del_wg a2, del_own a3, del_nopar a4, fun q hq => ?_, by rw [o _ (by omega) (by omega)]; exact a6, by rw [o _ (by omega) (by omega)]; exact a7, by rw [o _ (by omega) (by omega)]; exact a8, by rw [o _ (by omega) (by omega)]; exact a9, by rw [o _ (by omega) (by omega)]; exact a10, by rw [o _ (by omega) (by omega)]; exact a11, by rw [o _ (by omega) (by omega)]; exact a12, fun m hm hh => ?_⟩
  · show dpW w P p 7 = nI (g.1 - 1)
    unfold dpW; rw [if_pos rfl, hP]; rfl
  · have hq' : q < g.1 - 1 := hq
    show _ = nI (if q < p then g.2.1 q else g.2.1 (q + 1)) ∧ _ = nI (if q < p then g.2.2 q else g.2.2 (q + 1)) ∧ _ ∧ _
    by_cases c : q < p
    · rw [if_pos c, if_pos c, dpW_ne (by omega) (by omega), dpW_ne (by omega) (by omega), dpW_ne (by omega) (by omega), dpW_ne (by omega) (by omega)]
      exact a5 q (by omega)
    · rw [if_neg c, if_neg c, dpW_sh (by omega) (by omega), dpW_sh (by omega) (by omega), dpW_sh (by omega) (by omega), dpW_sh (by omega) (by omega)]
      have := a5 (q + 1) (by omega)
      rw [show 8 + 4 * (q + 1) = 8 + 4 * q + 4 by omega] at this
      exact this
  · rw [eh] at hh
    rw [o _ (by omega) (by omega), o _ (by omega) (by omega), o _ (by omega) (by omega), o _ (by omega) (by omega), o _ (by omega) (by omega)]
    exact a13 m hm hh
theorem i_dropPipe {w : Nat → Int32} {g : Gr} {u : Nat → Int64} {P p : Nat} {σ : Mem} {K : Mem → Prop} {X : String → Mem → Prop} (hg : g.1 ≤ 10) (hP : g.1 = P + 1) (hp : p ≤ P) (hN : NS σ 1 w g u) (h : ∀ τ : Mem, ChN σ τ → NS τ 1 (dpW w P p) (delG g p) u → K τ) : sp_X0_dropPipe 1 (nI p) σ K X := by
  obtain ⟨⟨h1, h2, h3, h4⟩, h5, h6⟩ := hN
  have dn : ∀ b j, 3 ≤ b → b ≤ 6 → j < p ∨ P ≤ j → (drK σ 1 p P P).1 b j = σ.1 b j := fun b j q1 q2 q3 => by rw [drK_i, if_neg (by omega), if_neg (by omega)]
  have ds : ∀ b j, 3 ≤ b → b ≤ 6 → p ≤ j → j < P → (drK σ 1 p P P).1 b j = σ.1 b (j + 1) := fun b j q1 q2 q3 q4 => by rw [drK_i, if_neg (by omega), if_pos (by omega)]
  refine ⟨netA_1, p, P, rfl, hp, by omega, by rw [← hP]; exact h2.1, h _ ⟨fun a k q => ⟨?_, rfl⟩, rfl⟩ ⟨⟨fun k hk => ?_, ⟨?_, fun q hq => ?_⟩, fun q hq => ?_, fun m hm => ?_⟩, fun m hm hh => ?_, h6⟩⟩
  · rw [drK_i, if_neg (by omega), if_neg (by omega)]
  · rw [drK_i, if_neg (by omega), if_neg (by omega), dpW_ne (by omega) (by omega)]; exact h1 k hk
  · rw [drK_i, if_pos ⟨rfl, rfl⟩]
    show nI P = nI (g.1 - 1)
    rw [hP]; rfl
  · have hq' : q < g.1 - 1 := hq
    show _ = nI (if q < p then g.2.1 q else g.2.1 (q + 1)) ∧ _ = nI (if q < p then g.2.2 q else g.2.2 (q + 1))
    by_cases c : q < p
    · rw [if_pos c, if_pos c, dn _ _ (by omega) (by omega) (.inl c), dn _ _ (by omega) (by omega) (.inl c)]; exact h2.2 q (by omega)
    · rw [if_neg c, if_neg c, ds _ _ (by omega) (by omega) (by omega) (by omega), ds _ _ (by omega) (by omega) (by omega) (by omega)]; exact h2.2 (q + 1) (by omega)
  · have hq' : q < g.1 - 1 := hq
    by_cases c : q < p
    · rw [dn _ _ (by omega) (by omega) (.inl c), dn _ _ (by omega) (by omega) (.inl c), dpW_ne (by omega) (by omega), dpW_ne (by omega) (by omega)]; exact h3 q (by omega)
    · rw [ds _ _ (by omega) (by omega) (by omega) (by omega), ds _ _ (by omega) (by omega) (by omega) (by omega), dpW_sh (by omega) (by omega), dpW_sh (by omega) (by omega)]
      have := h3 (q + 1) (by omega)
      rw [show 8 + 4 * (q + 1) = 8 + 4 * q + 4 by omega] at this
      exact this
  · have eh : hasW (dpW w P p) m ↔ hasW w m := by unfold hasW; rw [dpW_ne (by omega) (by omega)]
    rw [eh, drK_i, if_neg (by omega), if_neg (by omega), drK_i, if_neg (by omega), if_neg (by omega), drK_i, if_neg (by omega), if_neg (by omega), drK_i, if_neg (by omega), if_neg (by omega), drK_i, if_neg (by omega), if_neg (by omega), dpW_ne (by omega) (by omega), dpW_ne (by omega) (by omega), dpW_ne (by omega) (by omega), dpW_ne (by omega) (by omega), dpW_ne (by omega) (by omega)]
    exact h4 m hm
  · have eh : hasW (dpW w P p) m ↔ hasW w m := by unfold hasW; rw [dpW_ne (by omega) (by omega)]
    exact h5 m hm (eh.mp hh)
theorem NS.wr {σ : Mem} {w : Nat → Int32} {g : Gr} {u : Nat → Int64} {n : Nat} {t : Int32} (h : NS σ 1 w g u) (hg : g.1 ≤ 10) : NS (wi σ 8 n t) 1 (wr w n t) g u :=
  ⟨NR.wr (a := 1) h.1 hg, fun m hm hh => h.2.1 m hm (wr_has.mp hh), h.2.2⟩
/-- the rows with another meter's fault at n -/
def meW (w : Nat → Int32) (n : Nat) (f t : Int32) : Nat → Int32 := uw (uw w (48 + 6 * n + 4) f) (48 + 6 * n + 5) t
theorem meW_ne {w : Nat → Int32} {n k : Nat} {f t : Int32} (h1 : k ≠ 48 + 6 * n + 4) (h2 : k ≠ 48 + 6 * n + 5) : meW w n f t k = w k := by unfold meW; rw [uw_ne h2, uw_ne h1]
theorem meW_at {w : Nat → Int32} {n : Nat} {f t : Int32} : meW w n f t (48 + 6 * n + 4) = f ∧ meW w n f t (48 + 6 * n + 5) = t := by
  unfold meW
  exact ⟨by rw [uw_ne (by omega), uw_at], uw_at⟩
theorem meW_has {w : Nat → Int32} {n m : Nat} {f t : Int32} : hasW (meW w n f t) m ↔ hasW w m := by unfold hasW; rw [meW_ne (by omega) (by omega)]
theorem WFw.me {w : Nat → Int32} {g : Gr} {n : Nat} {f t : Int32} (hw : WFw w g) (h1 : bt3 f 0 2) (h2 : bt3 t 0 2000) : WFw (meW w n f t) g := by
  obtain ⟨a1, a2, a3, a4, a5, a6, a7, a8, a9, a10, a11, a12, a13⟩ := hw
  have hp := a2.1
  have o : ∀ j, j < 48 → meW w n f t j = w j := fun j hj => meW_ne (by omega) (by omega)
  refine ⟨by rw [o 7 (by omega)]; exact a1, a2, a3, a4, fun p hp => by rw [o _ (by omega), o _ (by omega), o _ (by omega), o _ (by omega)]; exact a5 p hp, by rw [o _ (by omega)]; exact a6, by rw [o _ (by omega)]; exact a7, by rw [o _ (by omega)]; exact a8, by rw [o _ (by omega)]; exact a9, by rw [o _ (by omega)]; exact a10, by rw [o _ (by omega)]; exact a11, by rw [o _ (by omega)]; exact a12, fun m hm hh => ?_⟩
  rw [meW_has] at hh
  obtain ⟨b1, b2, b3, b4, b5⟩ := a13 m hm hh
  by_cases c : m = n
  · subst c
    obtain ⟨c4, c5⟩ := meW_at (w := w) (n := m) (f := f) (t := t)
    rw [c4, c5, meW_ne (by omega) (by omega), meW_ne (by omega) (by omega), meW_ne (by omega) (by omega)]
    exact ⟨b1, b2, b3, rg_of (lo := 0) (hi := 2) (by decide) (by decide) h1, rg_of (lo := 0) (hi := 2000) (by decide) (by decide) h2⟩
  · rw [meW_ne (by omega) (by omega), meW_ne (by omega) (by omega), meW_ne (by omega) (by omega), meW_ne (by omega) (by omega), meW_ne (by omega) (by omega)]
    exact ⟨b1, b2, b3, b4, b5⟩
theorem NS.me {σ : Mem} {w : Nat → Int32} {g : Gr} {u : Nat → Int64} {n : Nat} {f t : Int32} (h : NS σ 1 w g u) (hg : g.1 ≤ 10) : NS (wi (wi σ 10 n f) 11 n t) 1 (meW w n f t) g u := by
  obtain ⟨⟨h1, h2, h3, h4⟩, h5, h6⟩ := h
  have i : ∀ a j, ¬ (a = 10 ∧ j = n) → ¬ (a = 11 ∧ j = n) → (wi (wi σ 10 n f) 11 n t).1 a j = σ.1 a j := fun a j q1 q2 => by rw [wi_i, if_neg q2, wi_i, if_neg q1]
  refine ⟨⟨fun j hj => by rw [i _ _ (by omega) (by omega), meW_ne (by omega) (by omega)]; exact h1 j hj, ⟨by rw [i _ _ (by omega) (by omega)]; exact h2.1, fun p hp => by rw [i _ _ (by omega) (by omega), i _ _ (by omega) (by omega)]; exact h2.2 p hp⟩, fun p hp => by rw [i _ _ (by omega) (by omega), i _ _ (by omega) (by omega), meW_ne (by omega) (by omega), meW_ne (by omega) (by omega)]; exact h3 p hp, fun m hm => ?_⟩, fun m hm hh => h5 m hm (meW_has.mp hh), h6⟩
  rw [meW_has, i (1 + 6) _ (by omega) (by omega), i (1 + 7) _ (by omega) (by omega), i (1 + 8) _ (by omega) (by omega), meW_ne (k := 48 + 6 * m + 1) (by omega) (by omega), meW_ne (k := 48 + 6 * m + 2) (by omega) (by omega), meW_ne (k := 48 + 6 * m + 3) (by omega) (by omega)]
  refine ⟨fun hh => ?_, (h4 m hm).2⟩
  obtain ⟨b1, b2, b3, b4, b5⟩ := (h4 m hm).1 hh
  by_cases c : m = n
  · subst c
    obtain ⟨c4, c5⟩ := meW_at (w := w) (n := m) (f := f) (t := t)
    rw [c4, c5]
    refine ⟨b1, b2, b3, ?_, ?_⟩
    · rw [wi_i, if_neg (by omega), wi_i, if_pos ⟨rfl, rfl⟩]
    · rw [wi_i, if_pos ⟨rfl, rfl⟩]
  · rw [i _ _ (by omega) (by omega), i _ _ (by omega) (by omega), meW_ne (by omega) (by omega), meW_ne (by omega) (by omega)]
    exact ⟨b1, b2, b3, b4, b5⟩
/-! ===== hours ===== -/
/-- the sums after some hours -/
def HrU (w : Nat → Int32) (u : Nat → Int64) (dr T : Nat → Nat) (b s : Nat) (p : Int32) (u' : Nat → Int64) : Prop := (∀ n, n < 10 → hasW w n → u' n = u n + cnW w n (zL (htZ w dr T n)) * p.toInt64 ∧ u' (10 + n) = u (10 + n) + zL (htZ w dr T n) * p.toInt64 ∧ u' (20 + n) = u (20 + n) + pyW w n (cnW w n (zL (htZ w dr T n))) * p.toInt64) ∧ u' 30 = u 30 + p.toInt64 ∧ u' 31 = u 31 + lN b * (w 0 - nI s).toInt64 * p.toInt64 ∧ u' 32 = u 32 + zL (smZ (htZ w dr T) 10) * p.toInt64 ∧ u' 33 = u 33 + smL (pyN w dr T) 10 * p.toInt64
theorem i_passH {p : Int32} {w : Nat → Int32} {g : Gr} {u : Nat → Int64} {c : Lp} {R : Nat} {D T : Nat → Nat → Nat} {B S : Nat → Nat} {z : Int} {σ : Mem} {K : Mem → Prop} {X : String → Mem → Prop} (hw : WFw w g) (hN : NS σ 1 w g u) (hP : LPo g (bfs g 0) c) (hS : StF w g c R (D R) B (T R) S z 53 σ) (h : ∀ τ : Mem, ChN σ τ → τ.1 = σ.1 → (∀ u', HrU w u (D R) (T R) (B 0) (S 0) p u' → NS τ 1 w g u') → K τ) : sp_X4_passHours p σ K X := by
  have hT := bfs_tre hw.2.1 (src := 0) (by decide)
  have hB := B0_is hw hT hP.1 hS.1.1
  obtain ⟨h1, h2, h3, h4, h5, h6⟩ := hN
  refine ⟨w, g, D R, T R, hw, h1, fun n hn => ⟨⟨(hS.2.1 n hn).1, (hS.2.1 n hn).2.1⟩, (hS.2.2.1 n hn).1, (hS.2.2.1 n hn).2.1.2⟩, fun l l1 l2 l3 l4 l5 l6 => h _ ⟨fun a k q => ⟨rfl, ?_⟩, rfl⟩ rfl (fun u' hu => ?_)⟩
  · exact l1 a k (by omega) (by omega) (by omega) (by omega)
  · obtain ⟨k1, k2, k3, k4, k5⟩ := hu
    refine ⟨h1.fr (fun _ _ _ => rfl), fun n hn hh => ?_, ?_, ?_, ?_, ?_⟩
    · obtain ⟨q1, q2, q3⟩ := l2 n hn hh
      obtain ⟨r1, r2, r3⟩ := k1 n hn hh
      obtain ⟨s1, s2, s3⟩ := h2 n hn hh
      refine ⟨?_, ?_, ?_⟩
      · show l 12 n = _; rw [q1, r1, ← s1]
      · show l 13 n = _; rw [q2, r2, ← s2]
      · show l 14 n = _; rw [q3, r3, ← s3]
    · show l 1 14 = _; rw [l3, k2, h3]
    · show l 1 15 = _
      have e61 : σ.2.1 61 0 = lN (B 0) := by rw [hB]; exact hS.2.2.2.2.2.1
      rw [l4, k3, h4, e61, h1.1 0 (by decide), (hS.2.2.2.1 0 (by decide)).1]
    · show l 1 16 = _; rw [l5, k4, h5]
    · show l 1 17 = _; rw [l6, k5, h6]
theorem GMx.cgh {S S' : Nat → Prop} {h h' : Nat → Int64} {v : Int64} (e : ∀ n, S n ↔ S' n) (e' : ∀ n, S' n → h n = h' n) (A : GMx S h v) : GMx S' h' v := by
  obtain ⟨h1, h2⟩ := A
  refine ⟨fun n hn => by rw [← e' n hn]; exact h1 n ((e n).mpr hn), ?_⟩
  rcases h2 with ⟨n, a, b⟩ | ⟨a, b⟩
  · exact .inl ⟨n, (e n).mp a, by rw [b]; exact e' n ((e n).mp a)⟩
  · exact .inr ⟨fun n q => a n ((e n).mpr q), b⟩
/-- the greatest head of those that draw -/
def Need (w : Nat → Int32) (g : Gr) (c : Lp) (dr B : Nat → Nat) (z : Int) (v : Int64) : Prop := GMx (fun n => n < 10 ∧ hasW w n ∧ dr n ≠ 0) (fun n => zL (hdN w (bfs g 0) c B (lf g (bfs g 0) c dr B z) n)) v
theorem i_great {w : Nat → Int32} {g : Gr} {c : Lp} {R : Nat} {D T : Nat → Nat → Nat} {B S : Nat → Nat} {z : Int} {σ : Mem} {K : Int64 → Mem → Prop} {X : String → Mem → Prop} (hw : WFw w g) (hS : Sett w g c R D T B S z σ) (h : ∀ v, Need w g c (D R) B z v → K v σ) : sp_X2_greatestHead 53 σ K X := by
  have hT := bfs_tre hw.2.1 (src := 0) (by decide)
  obtain ⟨hP, hH, hF⟩ := hS
  obtain ⟨-, -, -, p4, -, p6, -⟩ := hP
  have hl : (bfs g 0).length ≤ 10 := hT.1.len
  refine ⟨staA_53, (bfs g 0).length, ndAt (bfs g 0), hl, p4, fun k hk => ?_, fun v hv => h v (hv.cgh (fun n => ⟨fun q => ?_, fun q => ?_⟩) (fun n q => ?_))⟩
  · obtain ⟨r, hr⟩ : ∃ r, (bfs g 0)[k]? = some r := ⟨_, List.getElem?_eq_getElem hk⟩
    rw [ndAt_some hr]
    exact ⟨p6 k r hr, hT.lt (hT.at hr).1⟩
  · obtain ⟨⟨k, hk, e⟩, q2⟩ := q
    have hn : n ∈ nds (bfs g 0) := by rw [← e]; exact ndAt_mem hk
    have h10 := hT.lt hn
    have hd := hF.2.1 n h10
    have q3 : ¬ σ.1 54 n ≤ 0 := q2
    rw [hd.1] at q3
    have hne : D R n ≠ 0 := fun q => q3 (by rw [q]; decide)
    refine ⟨h10, ?_, hne⟩
    apply Classical.byContradiction
    intro q
    exact hne (hd.2.2.1 q)
  · obtain ⟨h10, hh, hne⟩ := q
    have hd := hF.2.1 n h10
    have hn : n ∈ nds (bfs g 0) := by
      apply Classical.byContradiction
      intro q
      exact hne (hd.2.2.2 q)
    refine ⟨⟨ixr (bfs g 0) n, ixr_lt hT hn, ndAt_ix hT hn⟩, ?_⟩
    show ¬ σ.1 54 n ≤ 0
    rw [hd.1]
    exact nI_nle (by omega) (by omega)
  · obtain ⟨h10, hh, hne⟩ := q
    have hd := hF.2.1 n h10
    have hn : n ∈ nds (bfs g 0) := by
      apply Classical.byContradiction
      intro q
      exact hne (hd.2.2.2 q)
    exact hF.2.2.2.2.2.2.1 n hn
theorem i_hoursR {w : Nat → Int32} {g : Gr} {c : Lp} {R : Nat} {D T : Nat → Nat → Nat} {B S : Nat → Nat} {z : Int} {σ : Mem} {K : Int32 → Mem → Prop} {X : String → Mem → Prop} (hw : WFw w g) (hN : NR σ 1 w g) (hS : Sett w g c R D T B S z σ) (h : ∀ v, Need w g c (D R) B z v → (v ≤ (w 4).toInt64 → K 0 σ) ∧ (¬ v ≤ (w 4).toInt64 → K 7 σ)) : sp_X4_hoursReason σ K X := by
  refine i_great hw hS (fun v hv => ?_)
  rw [hN.1 4 (by decide)]
  exact h v hv
theorem drD {w : Nat → Int32} {g : Gr} {c : Lp} {R : Nat} {D T : Nat → Nat → Nat} (hw : WFw w g) (hH : Hist w g c R D T) {n : Nat} (hn : n < 10) : D R n ≤ 999 ∧ (¬ hasW w n → D R n = 0) ∧ (D R n ≠ 0 → n ∈ nds (bfs g 0)) := by
  have := drNx_bd hw (T := T) (j := R) hn
  rw [(hH.2.2.1 R hH.1 (Nat.le_refl R)).1]
  refine ⟨this.1, this.2.1, fun q => ?_⟩
  apply Classical.byContradiction
  intro z
  exact q (this.2.2 z)
theorem i_hrM {p : Int32} {w : Nat → Int32} {g : Gr} {c : Lp} {R : Nat} {D T : Nat → Nat → Nat} {B S : Nat → Nat} {z : Int} {f : Nat → Int32} {σ : Mem} {K : Int32 → Mem → Prop} {X : String → Mem → Prop} (hw : WFw w g) (hr : ∀ k, k < 108 → σ.1 210 k = w k) (hS : bt3 p 1 24 → Sol w g c R D T B S z f) (h2 : ¬ bt3 p 1 24 → K 2 σ) (h : bt3 p 1 24 → ∀ v, Need w g c (D R) B z v → (v ≤ (w 4).toInt64 → ∀ τ : Mem, OpM σ τ → (∀ k, k < 108 → τ.1 210 k = w k) → HrU w (σ.2.1 211) (D R) (T R) (B 0) (S 0) p (τ.2.1 211) → K 0 τ) ∧ (¬ v ≤ (w 4).toInt64 → ∀ τ : Mem, OpM σ τ → (∀ k, k < 108 → τ.1 210 k = w k) → (∀ k, τ.2.1 211 k = σ.2.1 211 k) → K 7 τ)) : sp_X5_hoursBy p σ K X := by
  refine ⟨h2, fun hb => ?_⟩
  obtain ⟨m, m1, m2, em⟩ := of_rng (m := 24) rfl (by decide) hb
  obtain ⟨s1, s2, s3⟩ := hS hb
  have hT := bfs_tre hw.2.1 (src := 0) (by decide)
  refine ⟨m, em, m2, w, g, c, R, D, T, B, S, z, f, hw, hr, s1, s2, s3, fun τ hM hR => ?_⟩
  have hrt : ∀ k, k < 108 → τ.1 210 k = w k := fun k hk => by rw [hM.i210]; exact hr k hk
  refine ⟨w, g, c, R, D R, B, T R, S, z, f, hw, hrt, s1, s3, hR, fun n hn => ⟨(drD hw s2 hn).1, (drD hw s2 hn).2.2⟩, fun v hv => ⟨fun q l hl => (h hb v hv).1 q _ ?_ hrt ?_, fun q => (h hb v hv).2 q τ hM.op hrt (fun k => (hM.1 211 k (by omega)).2)⟩⟩
  · obtain ⟨l1, -⟩ := hl
    exact ⟨fun a k q => ⟨(hM.1 a k (by omega)).1, by show l a k = _; rw [l1 a k (by omega), (hM.1 a k (by omega)).2]⟩, fun k q2 q3 => hM.2.1 k q2 q3, hM.2.2.2⟩
  · obtain ⟨-, l2, ⟨l3, l4, l5⟩, l6⟩ := hl
    have ep : p.toInt64 = zL (m : Int) := by rw [em, nI_l (by omega), lN_z]
    have e211 : ∀ k, τ.2.1 211 k = σ.2.1 211 k := fun k => (hM.1 211 k (by omega)).2
    unfold HrU
    rw [ep]
    refine ⟨fun n hn hh => ?_, ?_, ?_, ?_, ?_⟩
    · obtain ⟨a1, a2, a3⟩ := l2 n hn hh
      rw [e211] at a1 a2 a3
      exact ⟨a1, a2, a3⟩
    · rw [e211] at l3; exact l3
    · rw [e211, hR.2.2.2.1 0 hT.src.1, hrt 0 (by decide), (hR.2.2.2.2.2.2.1 0 (by decide)).2.1] at l4; exact l4
    · rw [e211] at l5; exact l5
    · rw [e211] at l6; exact l6
