/-! ===== the reference carries out a definition ===== -/
theorem uEq.cg {w w' : Nat → Int32} {u x y : Nat → Int64} (h : uEq w u x) (e : ∀ n, n < 10 → hasW w' n → hasW w n) (e' : ∀ k, y k = x k) : uEq w' u y :=
  ⟨fun n hn hh => by rw [e', e', e']; exact h.1 n hn (e n hn hh), by rw [e']; exact h.2.1, by rw [e']; exact h.2.2.1, by rw [e']; exact h.2.2.2.1, by rw [e']; exact h.2.2.2.2⟩
theorem uEq.rfl' (w : Nat → Int32) (u : Nat → Int64) : uEq w u u := ⟨fun _ _ _ => ⟨rfl, rfl, rfl⟩, rfl, rfl, rfl, rfl⟩
theorem uEq_u0 {w : Nat → Int32} {u x y : Nat → Int64} {n : Nat} {s r f : Int32} (h : uEq w u x) (hn : n < 10) (e : ∀ k, y k = u0 x n k) : uEq (stW w n s r f) (u0 u n) y := by
  refine ⟨fun m hm hh => ?_, ?_, ?_, ?_, ?_⟩
  · rw [e, e, e]
    unfold u0
    by_cases c : m = n
    · rw [if_pos (by omega), if_pos (by omega), if_pos (by omega), if_pos (by omega), if_pos (by omega), if_pos (by omega)]
      exact ⟨rfl, rfl, rfl⟩
    · rw [if_neg (by omega), if_neg (by omega), if_neg (by omega), if_neg (by omega), if_neg (by omega), if_neg (by omega)]
      exact h.1 m hm ((stW_has c).mp hh)
  · rw [e]; unfold u0; rw [if_neg (by omega), if_neg (by omega)]; exact h.2.1
  · rw [e]; unfold u0; rw [if_neg (by omega), if_neg (by omega)]; exact h.2.2.1
  · rw [e]; unfold u0; rw [if_neg (by omega), if_neg (by omega)]; exact h.2.2.2.1
  · rw [e]; unfold u0; rw [if_neg (by omega), if_neg (by omega)]; exact h.2.2.2.2
theorem uEq.hr {w : Nat → Int32} {u u' x x' : Nat → Int64} {dr T : Nat → Nat} {b s : Nat} {p : Int32} (h : uEq w u x) (h1 : HrU w u dr T b s p u') (h2 : HrU w x dr T b s p x') : uEq w u' x' := by
  obtain ⟨a1, a2, a3, a4, a5⟩ := h1
  obtain ⟨b1, b2, b3, b4, b5⟩ := h2
  obtain ⟨c1, c2, c3, c4, c5⟩ := h
  refine ⟨fun n hn hh => ?_, by rw [b2, a2, c2], by rw [b3, a3, c3], by rw [b4, a4, c4], by rw [b5, a5, c5]⟩
  obtain ⟨x1, x2, x3⟩ := a1 n hn hh
  obtain ⟨y1, y2, y3⟩ := b1 n hn hh
  obtain ⟨z1, z2, z3⟩ := c1 n hn hh
  exact ⟨by rw [y1, x1, z1], by rw [y2, x2, z2], by rw [y3, x3, z3]⟩
theorem uw_cg {x w : Nat → Int32} {j k : Nat} {v : Int32} (h : x k = w k) : uw x j v k = uw w j v k := by
  unfold uw
  by_cases c : k = j
  · rw [if_pos c, if_pos c]
  · rw [if_neg c, if_neg c]; exact h
theorem stW_cg {x w : Nat → Int32} {n k : Nat} {s r f : Int32} (h : x k = w k) : stW x n s r f k = stW w n s r f k := uw_cg (uw_cg (uw_cg (uw_cg (uw_cg (uw_cg h)))))
theorem wi_row {σ : Mem} {w : Nat → Int32} {j k : Nat} {v : Int32} (h : σ.1 210 k = w k) : (wi σ 210 j v).1 210 k = uw w j v k := by
  rw [wi_i]; unfold uw
  by_cases c : k = j
  · rw [if_pos ⟨rfl, c⟩, if_pos c]
  · rw [if_neg (fun q => c q.2), if_neg c]; exact h
theorem i_spBy {d : Df} {w w' : Nat → Int32} {g g' : Gr} {u u' : Nat → Int64} {q : Nat} {σ : Mem} {K : Int32 → Mem → Prop} {X : String → Mem → Prop} (hk : kdB d.1) (hw : WFw w g) (hr : ∀ k, k < 108 → σ.1 210 k = w k) (hu : uEq w u (σ.2.1 211)) (hE : Ex1 d w g u q w' g' u') (h0 : q = 0 → ∀ τ : Mem, OpM σ τ → (∀ k, k < 108 → τ.1 210 k = w' k) → uEq w' u' (τ.2.1 211) → K 0 τ) (h1 : q ≠ 0 → ∀ τ : Mem, OpM σ τ → K (nI q) τ) : spBy d.1 d.2 σ K X := by
  obtain ⟨e1, e2, e3, e4, e5⟩ := hE
  refine ⟨fun e => ?_, fun e => ?_, fun e => ?_, fun e => ?_, fun e => ?_⟩
  · obtain ⟨a, b⟩ := e1 e
    refine i_apM hw hr (fun z τ hO hr' hs => ?_) (fun z τ hO _ _ => ?_)
    · obtain ⟨b1, b2, b3⟩ := b (by rw [a, z])
      have g10 := (hw.ap z).1
      refine h0 (by rw [a, z]) τ hO (by rw [b1]; exact hr') ?_
      rw [b1, b3]
      exact hu.cg (fun n hn hh => (apW_has g10).mp hh) hs
    · rw [← a] at z ⊢; exact h1 z τ hO
  · obtain ⟨a, b⟩ := e2 e
    refine i_srM hr (fun n n1 n2 n3 z => ?_) (fun z => ?_)
    · obtain ⟨b1, b2, b3⟩ := b (by rw [a, z])
      have en : (d.2 0).toNatClampNeg = n := by rw [n3]; exact n_cl (by omega)
      rw [en] at b1 b3
      obtain ⟨c1, c2, c3⟩ := stM_is (n := n) (s := d.2 1) (r := d.2 2) (f := d.2 3) (σ := σ)
      refine h0 (by rw [a, z]) _ c1 (fun k hk => ?_) ?_
      · rw [c2, b1]; exact stW_cg (hr k hk)
      · rw [b1, b3]; exact uEq_u0 hu n2 c3
    · rw [← a] at z ⊢; exact h1 z σ (OpM.rfl' σ)
  · obtain ⟨a, b⟩ := e3 e
    refine i_rmM hr (fun n n2 n3 hh z => ?_) (fun z => ?_)
    · obtain ⟨b1, b2, b3⟩ := b (by rw [a, z])
      have en : (d.2 0).toNatClampNeg = n := by rw [n3]; exact n_cl (by omega)
      rw [en] at b1
      refine h0 (by rw [a, z]) _ ((OpM.rfl' σ).wi (.inl rfl)) (fun k hk => ?_) ?_
      · rw [b1]; exact wi_row (hr k hk)
      · rw [b1, b3]
        refine hu.cg (fun m hm hh' => ?_) (fun _ => rfl)
        by_cases c : m = n
        · have := hh'.2
          rw [c, uw_at] at this
          exact absurd this (by decide)
        · exact (hs_uw (by omega)).mp hh'
    · rw [← a] at z ⊢; exact h1 z σ (OpM.rfl' σ)
  · obtain ⟨a, b⟩ := e4 e
    refine i_seM (fun k k1 k2 z => ?_) (fun z => ?_)
    · obtain ⟨b1, b2, b3⟩ := b (by rw [a, z])
      have en : (d.2 0).toNatClampNeg = k := by rw [k2]; exact n_cl (by omega)
      rw [en] at b1
      refine h0 (by rw [a, z]) _ ((OpM.rfl' σ).wi (.inl rfl)) (fun j hj => ?_) ?_
      · rw [b1]; exact wi_row (hr j hj)
      · rw [b1, b3]
        exact hu.cg (fun m hm hh' => (hs_uw (by omega)).mp hh') (fun _ => rfl)
    · rw [← a] at z ⊢; exact h1 z σ (OpM.rfl' σ)
  · rcases e5 e with ⟨b, hq⟩ | ⟨b, c, R, D, T, B, S, z, f, v, hS, hv, hd⟩
    · obtain ⟨c, R, D, T, B, S, z, f, hS⟩ := sol_is hw
      exact i_hrM hw hr (fun _ => hS) (fun _ => by subst hq; exact h1 (by decide) σ (OpM.rfl' σ)) (fun q => absurd q b)
    · refine i_hrM hw hr (fun _ => hS) (fun q => absurd b q) (fun _ v' hv' => ?_)
      rw [hv'.uniq hv]
      rcases hd with ⟨t, q0, w0, g0, hH⟩ | ⟨t, q7⟩
      · refine ⟨fun _ τ hO hr' hH' => h0 q0 τ hO (by rw [w0]; exact hr') ?_, fun q => absurd t q⟩
        rw [w0]; exact hu.hr hH hH'
      · refine ⟨fun q => absurd q t, fun _ τ hO _ _ => ?_⟩
        subst q7; exact h1 (by decide) τ hO
/-- what is read only grows -/
theorem pT_pre {s : Nat → Nat} {n : Nat} : ∀ (f i : Nat) (l : List Df), ∃ r, (pT s n f i l).2.2 = l ++ r
  | 0, i, l => ⟨[], by simp [pT]⟩
  | f + 1, i, l => by
    unfold pT
    by_cases c : (pD s n i).1 = true
    · rw [if_pos c]
      by_cases t : (pD s n i).2.1 = n
      · rw [if_pos t]; exact ⟨_, rfl⟩
      · rw [if_neg t]
        obtain ⟨r, hr⟩ := pT_pre f (pD s n i).2.1 (l ++ [dfO (chT s n i) (pD s n i).2.2])
        exact ⟨dfO (chT s n i) (pD s n i).2.2 :: r, by rw [hr]; simp⟩
    · rw [if_neg c]; exact ⟨[], by simp⟩
/-- as OpM, but for where the reference reads -/
def Op13 (σ τ : Mem) : Prop := (∀ a k, a < 209 ∨ (211 < a ∧ a < 219) ∨ 232 < a → τ.1 a k = σ.1 a k ∧ τ.2.1 a k = σ.2.1 a k) ∧ (∀ k, k ≠ 13 → k ≠ 22 → k ≠ 32 → τ.1 209 k = σ.1 209 k) ∧ τ.2.2 = σ.2.2
theorem Op13.rfl' (σ : Mem) : Op13 σ σ := ⟨fun _ _ _ => ⟨rfl, rfl⟩, fun _ _ _ _ => rfl, rfl⟩
theorem Op13.op {σ τ υ : Mem} (h : Op13 σ τ) (k : OpM τ υ) : Op13 σ υ := ⟨fun a j q => ⟨by rw [(k.1 a j q).1, (h.1 a j q).1], by rw [(k.1 a j q).2, (h.1 a j q).2]⟩, fun j q1 q2 q3 => by rw [k.2.1 j q2 q3, h.2.1 j q1 q2 q3], by rw [k.2.2, h.2.2]⟩
theorem op13_w {σ τ : Mem} (h : Op13 σ τ) (v : Int32) : Op13 σ (wi τ 209 13 v) := ⟨fun a j q => ⟨by rw [wi_i, if_neg (by omega)]; exact (h.1 a j q).1, (h.1 a j q).2⟩, fun j q1 q2 q3 => by rw [wi_i, if_neg (by omega)]; exact h.2.1 j q1 q2 q3, h.2.2⟩
theorem Op13.r {σ τ : Mem} (h : Op13 σ τ) : OpR σ τ := ⟨h.1, fun k q => h.2.1 k (by omega) (by omega) (by omega), h.2.2⟩
