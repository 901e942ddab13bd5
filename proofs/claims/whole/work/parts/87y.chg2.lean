/-! ===== text, undo, snapshot ===== -/
theorem Und.f2 {σ τ : Mem} (h : Und σ) (e0 : ∀ k, k = 8 ∨ k = 9 → τ.1 0 k = σ.1 0 k) (e5 : τ.1 209 5 = σ.1 209 5) (ei : ∀ a k, 83 ≤ a → a ≤ 208 → τ.1 a k = σ.1 a k ∧ τ.2.1 a k = σ.2.1 a k) (e12 : ∀ k, τ.1 212 k = σ.1 212 k) (e13 : ∀ k, τ.2.1 213 k = σ.2.1 213 k) : Und τ := by
  obtain ⟨n, e, h1, h2, h3, h4, h5, h6⟩ := h
  refine ⟨n, e, h1, h2, by rw [e0 8 (.inl rfl)]; exact h3, by rw [e0 9 (.inr rfl)]; exact h4, by rw [e5]; exact h5, fun j hj => ?_⟩
  have hm : (e + 8 - j) % 9 < 9 := Nat.mod_lt _ (by decide)
  exact (h6 j hj).fr (fun o k ho => (ei _ k (by omega) (by omega)).1) (fun o k ho => (ei _ k (by omega) (by omega)).2) e12 e13
theorem Snp.f2 {σ τ : Mem} (h : Snp σ) (e0 : τ.1 0 10 = σ.1 0 10) (e8 : τ.1 209 8 = σ.1 209 8) (ei : ∀ a k, 15 ≤ a → a ≤ 28 → τ.1 a k = σ.1 a k ∧ τ.2.1 a k = σ.2.1 a k) (e14 : ∀ k, τ.1 214 k = σ.1 214 k) (e15 : ∀ k, τ.2.1 215 k = σ.2.1 215 k) : Snp τ := by
  refine ⟨by rw [e0, e8]; exact h.1, fun q => ?_⟩
  rw [e0] at q
  exact (h.2 q).fr (fun o k ho => (ei _ k (by omega) (by omega)).1) (fun o k ho => (ei _ k (by omega) (by omega)).2) e14 e15
theorem NS.f2 {w : Nat → Int32} {g : Gr} {u : Nat → Int64} {σ τ : Mem} (h : NS σ 1 w g u) (e : ∀ a k, 1 ≤ a → a ≤ 14 → τ.1 a k = σ.1 a k ∧ τ.2.1 a k = σ.2.1 a k) : NS τ 1 w g u := h.fr (fun o k ho => (e _ k (by omega) (by omega)).1) (fun o k ho => (e _ k (by omega) (by omega)).2)
theorem ch_of : ∀ x : Nat, x < 127 → ((nI x).toUInt32 % 65536).toInt32 = nI x := by decide +kernel
theorem q_append {p : Int32} {σ : Mem} {K : Int32 → Mem → Prop} {X : String → Mem → Prop} (hR : Rel σ) (hK : ∀ r τ, AnI (sp_X5_append p) 0 r τ → K r τ) (hX1 : ∀ τ, AnI (sp_X5_append p) 1 0 τ → X xIAE τ) (hX2 : ∀ τ, AnI (sp_X5_append p) 2 0 τ → X xISE τ) : sp_X4_append p σ K X := by
  have hR0 := hR
  obtain ⟨w, g, u, hC, hS⟩ := hR
  obtain ⟨s, m, t1, t2⟩ := hC.2.2.2.2.2.2.1
  have m60 := t1.1
  refine i_needRg (fun cv => ?_) (fun cv => hX1 σ (fun τ' hF K2 X2 hK2 σ2 e2 => i_inN cv ⟨fun q => absurd rfl q, fun _ => i_X5_raises ?_⟩))
  · obtain ⟨x, hx, ex⟩ : ∃ x, x ≤ 126 ∧ p = nI x := by
      have c1 := cv.1
      have c2 := cv.2
      rw [Int32.lt_iff_toInt_lt, show (32 : Int32).toInt = 32 from rfl] at c1
      rw [Int32.lt_iff_toInt_lt, show (126 : Int32).toInt = 126 from rfl] at c2
      refine ⟨p.toInt.toNat, by omega, ?_⟩
      apply Int32.toInt_inj.mp
      rw [nI_toInt (by omega)]
      omega
    subst ex
    rw [t1.2.1, ch_of x (by omega), show (60 : Int32) = nI 60 from rfl, nI_ltI (by omega) (by omega)]
    refine ⟨fun q => ⟨n_inR q (by decide), nar_chI hx, fun σ46 e46 σ57 e57 => ?_⟩, fun q => hX2 σ (fun τ' hF K2 X2 hK2 σ2 e2 => i_inY cv ⟨fun _ => ?_, fun z => absurd z (by decide)⟩)⟩
    · rw [n_cl (by omega)] at e46
      have l46 : σ46.1 79 1 = nI m := by rw [e46, wi_i, if_neg (by omega)]; exact t1.2.1
      rw [l46, nI_1] at e57
      have v57 : σ57.1 79 1 = nI (m + 1) := by rw [e57, wi_at]
      rw [v57]
      have i57 : ∀ a k, ¬ (a = 79 ∧ k = 1) → ¬ (a = 80 ∧ k = m) → σ57.1 a k = σ.1 a k := fun a k q1 q2 => by rw [e57, wi_i, if_neg q1, e46, wi_i, if_neg q2]
      have l57 : σ57.2 = σ.2 := by rw [e57]; show σ46.2 = _; rw [e46]; rfl
      refine hK _ σ57 (fun τ' hF K2 X2 hK2 σ2 e2 => i_inY cv ⟨fun _ => ?_, fun z => absurd z (by decide)⟩)
      have f12 : σ2.1 209 12 = nI m := by rw [e2, wi_i, if_neg (by omega), (hF 209 12 (by omega)).1, i57 _ _ (by omega) (by omega)]; exact t2.2.1
      rw [f12]
      refine ⟨fun _ σ49 e49 => ?_, fun z => absurd z (by rw [show (60 : Int32) = nI 60 from rfl, nI_eq (by omega) (by omega)]; omega)⟩
      rw [nI_1] at e49
      rw [n_cl (by omega)]
      refine ⟨n_inR q (by decide), fun σ53 e53 => ?_⟩
      have j53 : ∀ a k, ¬ (a = 209 ∧ (k = 0 ∨ k = 12)) → ¬ (a = 218 ∧ k = m) → σ53.1 a k = τ'.1 a k := fun a k q1 q2 => by rw [e53, wi_i, if_neg q2, e49, wi_i, if_neg (by omega), e2, wi_i, if_neg (by omega)]
      have k53 : σ53.2 = τ'.2 := by rw [e53]; show σ49.2 = _; rw [e49]; show σ2.2 = _; rw [e2]; rfl
      have g12 : σ53.1 209 12 = nI (m + 1) := by rw [e53, wi_i, if_neg (by omega), e49, wi_at]
      have all : ∀ a k, a < 233 → ¬ (a = 209 ∧ (k = 0 ∨ k = 12)) → ¬ (a = 218 ∧ k = m) → ¬ (a = 79 ∧ k = 1) → ¬ (a = 80 ∧ k = m) → σ53.1 a k = σ.1 a k := fun a k q0 q1 q2 q3 q4 => by rw [j53 a k q1 q2, (hF a k q0).1, i57 a k q3 q4]
      have alL : ∀ a k, a < 233 → σ53.2.1 a k = σ.2.1 a k := fun a k q0 => by rw [k53, (hF a k q0).2, l57]
      rw [g12]
      refine hK2 _ _ (by rw [e53, wi_i, if_neg (by omega), e49, wi_i, if_neg (by omega), e2, wi_at]) (fun _ => rfl) ⟨⟨w, g, u, ⟨hC.1, hC.2.1.f2 (fun a k q1 q2 => ⟨all a k (by omega) (by omega) (by omega) (by omega) (by omega), alL a k (by omega)⟩), fun k hk => by rw [all 210 k (by omega) (by omega) (by omega) (by omega) (by omega)]; exact hC.2.2.1 k hk, fun k hk => by rw [alL 211 k (by omega)]; exact hC.2.2.2.1 k hk, hC.2.2.2.2.1.f2 (all _ _ (by omega) (by omega) (by omega) (by omega) (by omega)) (all _ _ (by omega) (by omega) (by omega) (by omega) (by omega)) (fun a k q1 q2 => ⟨all a k (by omega) (by omega) (by omega) (by omega) (by omega), alL a k (by omega)⟩) (fun k => all 214 k (by omega) (by omega) (by omega) (by omega) (by omega)) (fun k => alL 215 k (by omega)), hC.2.2.2.2.2.1.f2 (fun k q => all 0 k (by omega) (by omega) (by omega) (by omega) (by omega)) (all _ _ (by omega) (by omega) (by omega) (by omega) (by omega)) (fun a k q1 q2 => ⟨all a k (by omega) (by omega) (by omega) (by omega) (by omega), alL a k (by omega)⟩) (fun k => all 212 k (by omega) (by omega) (by omega) (by omega) (by omega)) (fun k => alL 213 k (by omega)), ⟨fun i => if i = m then x else s i, m + 1, ⟨by omega, ?_, fun i hi => ?_⟩, ⟨by omega, g12, fun i hi => ?_⟩⟩, ?_, ?_⟩, fun q => ?_⟩, by rw [k53]⟩
      · rw [j53 79 1 (by omega) (by omega), (hF 79 1 (by omega)).1]; exact v57
      · by_cases c : i = m
        · show σ53.1 80 i = nI (if i = m then x else s i) ∧ (if i = m then x else s i) ≤ 126
          rw [if_pos c, c, j53 80 m (by omega) (by omega), (hF 80 m (by omega)).1, e57, wi_i, if_neg (by omega), e46, wi_at]
          exact ⟨rfl, hx⟩
        · show σ53.1 80 i = nI (if i = m then x else s i) ∧ (if i = m then x else s i) ≤ 126
          rw [if_neg c, all 80 i (by omega) (by omega) (by omega) (by omega) (by omega)]
          exact t1.2.2 i (by omega)
      · by_cases c : i = m
        · show σ53.1 218 i = nI (if i = m then x else s i) ∧ (if i = m then x else s i) ≤ 126
          rw [if_pos c, c, e53, wi_at]
          exact ⟨rfl, hx⟩
        · show σ53.1 218 i = nI (if i = m then x else s i) ∧ (if i = m then x else s i) ≤ 126
          rw [if_neg c, all 218 i (by omega) (by omega) (by omega) (by omega) (by omega)]
          exact t2.2.2 i (by omega)
      · rw [all 0 12 (by omega) (by omega) (by omega) (by omega) (by omega), all 209 14 (by omega) (by omega) (by omega) (by omega) (by omega)]; exact hC.2.2.2.2.2.2.2.1
      · rw [all 0 13 (by omega) (by omega) (by omega) (by omega) (by omega), all 209 15 (by omega) (by omega) (by omega) (by omega) (by omega)]; exact hC.2.2.2.2.2.2.2.2
      · rw [all 0 11 (by omega) (by omega) (by omega) (by omega) (by omega)] at q
        exact (hS q).fs ⟨all 0 11 (by omega) (by omega) (by omega) (by omega) (by omega), fun a k p q => all a k (by omega) (by omega) (by omega) (by omega) (by omega), fun a k p q => alL a k (by omega)⟩
    · have f12 : σ2.1 209 12 = nI m := by rw [e2, wi_i, if_neg (by omega), (hF 209 12 (by omega)).1]; exact t2.2.1
      rw [f12]
      refine ⟨fun z => absurd (by rw [show m = 60 by omega]; rfl) z, fun _ => i_X5_raises ?_⟩
      rw [e2]
      exact hK2 _ _ (wi_at _ _ _ _) (fun q => absurd q ne20) (rel1 hR0 hF 0 2)
  · rw [e2]
    exact hK2 _ _ (wi_at _ _ _ _) (fun q => absurd q ne10) (rel1 hR0 hF 0 1)
theorem KpO.cgw {n : Nat} {w w2 : Nat → Int32} {u u2 : Nat → Int64} {σ υ : Mem} (h : KpO n w u σ υ) (e1 : ∀ k, k < 108 → w k = w2 k) (e2 : ∀ k, k < 34 → u k = u2 k) : KpO n w2 u2 σ υ := ⟨h.1, fun k hk => by rw [← e1 k hk]; exact h.2.1 k hk, fun k hk => by rw [← e2 k hk]; exact h.2.2.1 k hk, h.2.2.2.1, h.2.2.2.2⟩
theorem MdK.cgw {n : Nat} {w w2 : Nat → Int32} {u u2 : Nat → Int64} {σ υ : Mem} (h : MdK n w u σ υ) (e1 : ∀ k, k < 108 → w k = w2 k) (e2 : ∀ k, k < 34 → u k = u2 k) : MdK n w2 u2 σ υ := ⟨h.1.cgw e1 e2, h.2⟩
theorem tx0 {σ : Mem} (h1 : σ.1 79 1 = 0) (h2 : σ.1 209 12 = 0) : Txt σ := ⟨fun _ => 0, 0, ⟨by decide, h1, fun i hi => absurd hi (Nat.not_lt_zero i)⟩, ⟨by decide, h2, fun i hi => absurd hi (Nat.not_lt_zero i)⟩⟩
theorem q_run {σ : Mem} {K : Int32 → Mem → Prop} {X : String → Mem → Prop} (hR : Rel σ) (hK : ∀ r τ, AnI sp_X5_run 0 r τ → K r τ) (hX1 : ∀ τ, AnI sp_X5_run 1 0 τ → X xIAE τ) (hX2 : ∀ τ, AnI sp_X5_run 2 0 τ → X xUOE τ) : sp_X4_run σ K X := by
  obtain ⟨w, g, u, hC, hS⟩ := hR
  obtain ⟨n, e, hn, he, h8, h9, h5, hj⟩ := hC.2.2.2.2.2.1
  obtain ⟨s, m, t1, t2⟩ := hC.2.2.2.2.2.2.1
  have kds : ∀ {b : Bool} {j : Nat} {l : List Df}, pT s m 20 0 [] = (b, j, l) → ∀ d ∈ l, kdB d.1 := fun {b j l} hp d hd => pT_kd (s := s) (n := m) 20 0 [] (Nat.zero_le m) (fun d hd => by cases hd) d (by rw [hp]; exact hd)
  refine ⟨s, m, w, g, u, e, n, t1, hC.1, hC.2.1, hS, h8, he, h9, hn, fun j l τ hp hF0 => hX1 τ (fun τ' hF K2 X2 hK2 => ?_), fun l q w' g' u' τ hp q0 q7 hE hRx => hX2 τ (fun τ' hF K2 X2 hK2 => ?_), fun l w' g' u' τ hp hE hcl l79 l12 l13 => hK _ τ (fun τ' hF K2 X2 hK2 => ?_)⟩
  · -- a fault
    obtain ⟨q, w', g', u', hE⟩ := ExL_is (u := u) hC.1 (kds hp)
    obtain ⟨f12, f79, fi, fl⟩ := hF0
    have i1 : ∀ a k, a < 233 → a ≠ 79 → a ≠ 81 → a ≠ 82 → ¬ (a = 0 ∧ k = 12) → τ'.1 a k = σ.1 a k := fun a k q0 q1 q2 q3 q4 => by rw [(hF a k q0).1, fi a k q1 q2 q3 q4]
    have i2 : ∀ a k, a < 233 → τ'.2.1 a k = σ.2.1 a k := fun a k q0 => by rw [(hF a k q0).2, fl]
    refine ⟨s, m, w, g, u, n, false, j, l, q, w', g', u', t2.of (i1 _ _ (by omega) (by omega) (by omega) (by omega) (by omega)) (fun k => i1 _ _ (by omega) (by omega) (by omega) (by omega) (by omega)), hC.1, fun k hk => by rw [i1 210 k (by omega) (by omega) (by omega) (by omega) (by omega)]; exact hC.2.2.1 k hk, uEq_of (fun k hk => by rw [i2 211 k (by omega)]; exact hC.2.2.2.1 k hk), by rw [i1 209 5 (by omega) (by omega) (by omega) (by omega) (by omega)]; exact h5, hn, hp, hE, ExL.le (kds hp) hE, fun _ υ hRm h0 h14 h12 h15 => hK2 _ _ h0 (fun z => absurd z ne10) ?_, fun z => (by cases z), fun z => (by cases z)⟩
    obtain ⟨m1, m2, m3, m4, m5⟩ := hRm
    have a1 : ∀ a k, a < 209 ∨ (211 < a ∧ a < 216) ∨ a = 218 → a ≠ 79 → a ≠ 81 → a ≠ 82 → ¬ (a = 0 ∧ k = 12) → υ.1 a k = σ.1 a k := fun a k q0 q1 q2 q3 q4 => by rw [(m1 a k (by omega)).1, i1 a k (by omega) q1 q2 q3 q4]
    have a2 : ∀ a k, a < 209 ∨ (211 < a ∧ a < 216) ∨ a = 218 → υ.2.1 a k = σ.2.1 a k := fun a k q0 => by rw [(m1 a k (by omega)).2, i2 a k (by omega)]
    refine ⟨⟨w, g, u, ⟨hC.1, hC.2.1.f2 (fun a k q1 q2 => ⟨a1 a k (by omega) (by omega) (by omega) (by omega) (by omega), a2 a k (by omega)⟩), fun k hk => by rw [m2 k hk, i1 210 k (by omega) (by omega) (by omega) (by omega) (by omega)]; exact hC.2.2.1 k hk, fun k hk => by rw [m3 k hk, i2 211 k (by omega)]; exact hC.2.2.2.1 k hk, hC.2.2.2.2.1.f2 (a1 _ _ (by omega) (by omega) (by omega) (by omega) (by omega)) (by rw [m5, i1 209 8 (by omega) (by omega) (by omega) (by omega) (by omega)]) (fun a k q1 q2 => ⟨a1 a k (by omega) (by omega) (by omega) (by omega) (by omega), a2 a k (by omega)⟩) (fun k => a1 214 k (by omega) (by omega) (by omega) (by omega) (by omega)) (fun k => a2 215 k (by omega)), hC.2.2.2.2.2.1.f2 (fun k q => a1 0 k (by omega) (by omega) (by omega) (by omega) (by omega)) (by rw [m4, i1 209 5 (by omega) (by omega) (by omega) (by omega) (by omega)]) (fun a k q1 q2 => ⟨a1 a k (by omega) (by omega) (by omega) (by omega) (by omega), a2 a k (by omega)⟩) (fun k => a1 212 k (by omega) (by omega) (by omega) (by omega) (by omega)) (fun k => a2 213 k (by omega)), tx0 (by rw [(m1 79 1 (by omega)).1, (hF 79 1 (by omega)).1]; exact f79) h12, by rw [(m1 0 12 (by omega)).1, (hF 0 12 (by omega)).1, f12, h14], by rw [a1 0 13 (by omega) (by omega) (by omega) (by omega) (by omega), h15, i1 209 15 (by omega) (by omega) (by omega) (by omega) (by omega)]; exact hC.2.2.2.2.2.2.2.2⟩, fun z => ?_⟩, (m1 233 0 (by omega)).2⟩
    rw [a1 0 11 (by omega) (by omega) (by omega) (by omega) (by omega)] at z
    exact (hS z).fs ⟨a1 0 11 (by omega) (by omega) (by omega) (by omega) (by omega), fun a k p q => a1 a k (by omega) (by omega) (by omega) (by omega) (by omega), fun a k p q => a2 a k (by omega)⟩
  · -- refused
    obtain ⟨x12, x79, x13, x11, xN, x0, xi⟩ := hRx
    have i9 : ∀ k, τ'.1 209 k = σ.1 209 k := fun k => by rw [(hF 209 k (by omega)).1, (xi 209 k (by omega)).1]
    refine ⟨s, m, w, g, u, n, true, m, l, q, w', g', u', t2.of (i9 12) (fun k => by rw [(hF 218 k (by omega)).1, (xi 218 k (by omega)).1]), hC.1, fun k hk => by rw [(hF 210 k (by omega)).1, (xi 210 k (by omega)).1]; exact hC.2.2.1 k hk, uEq_of (fun k hk => by rw [(hF 211 k (by omega)).2, (xi 211 k (by omega)).2]; exact hC.2.2.2.1 k hk), by rw [i9]; exact h5, hn, hp, hE, q7, fun z => (by cases z), fun _ _ υ hRm h0 h14 h12 h15 => hK2 _ _ h0 (fun z => absurd z ne20) ?_, fun _ z => absurd z q0⟩
    obtain ⟨m1, m2, m3, m4, m5⟩ := hRm
    have b1 : ∀ a k, a < 209 ∨ (211 < a ∧ a < 216) → υ.1 a k = τ.1 a k ∧ υ.2.1 a k = τ.2.1 a k := fun a k q0 => ⟨by rw [(m1 a k (by omega)).1, (hF a k (by omega)).1], by rw [(m1 a k (by omega)).2, (hF a k (by omega)).2]⟩
    have b2 : ∀ a k, (15 ≤ a ∧ a ≤ 28) ∨ (83 ≤ a ∧ a ≤ 208 ∧ (a < 83 + 14 * e ∨ 83 + 14 * e + 13 < a)) ∨ (211 < a ∧ a < 216) → υ.1 a k = σ.1 a k ∧ υ.2.1 a k = σ.2.1 a k := fun a k q0 => ⟨by rw [(b1 a k (by omega)).1, (xi a k (by omega)).1], by rw [(b1 a k (by omega)).2, (xi a k (by omega)).2]⟩
    refine ⟨⟨w, g, u, ⟨hC.1, xN.f2 (fun a k q1 q2 => b1 a k (by omega)), fun k hk => by rw [m2 k hk, (hF 210 k (by omega)).1, (xi 210 k (by omega)).1]; exact hC.2.2.1 k hk, fun k hk => by rw [m3 k hk, (hF 211 k (by omega)).2, (xi 211 k (by omega)).2]; exact hC.2.2.2.1 k hk, hC.2.2.2.2.1.f2 (by rw [(b1 0 10 (by omega)).1, x0 10 (by omega)]) (by rw [m5, i9]) (fun a k q1 q2 => b2 a k (by omega)) (fun k => (b2 214 k (by omega)).1) (fun k => (b2 215 k (by omega)).2), ⟨n, e, hn, he, by rw [(b1 0 8 (by omega)).1, x0 8 (by omega)]; exact h8, by rw [(b1 0 9 (by omega)).1, x0 9 (by omega)]; exact h9, by rw [m4, i9]; exact h5, fun j hj' => ?_⟩, tx0 (by rw [(b1 79 1 (by omega)).1]; exact x79) h12, by rw [(b1 0 12 (by omega)).1, x12, h14], by rw [(b1 0 13 (by omega)).1, x13, h15]⟩, fun z => absurd (by rw [(b1 0 11 (by omega)).1]; exact x11) z⟩, (m1 233 0 (by omega)).2⟩
    have hlt : (e + 8 - j) % 9 < 9 := Nat.mod_lt _ (by decide)
    have hne : (e + 8 - j) % 9 ≠ e := by omega
    have h0' := hj j hj'
    generalize (e + 8 - j) % 9 = bb at *
    exact h0'.fr (fun o k ho => (b2 _ k (by omega)).1) (fun o k ho => (b2 _ k (by omega)).2) (fun k => (b2 212 k (by omega)).1) (fun k => (b2 213 k (by omega)).2)
  · -- done
    obtain ⟨r1, r2, r3⟩ := cl_rows hC hcl hF
    have hc8 := hcl.2.2.2.2.2.2.2
    have i9 : ∀ k, τ'.1 209 k = σ.1 209 k := fun k => by rw [(hF 209 k (by omega)).1, (hc8 209 k (by omega)).1]
    refine ⟨s, m, w, g, u, n, true, m, l, 0, w', g', u', t2.of (i9 12) (fun k => by rw [(hF 218 k (by omega)).1, (hc8 218 k (by omega)).1]), hC.1, r1, uEq_of r2, by rw [r3]; exact h5, hn, hp, hE, by decide, fun z => (by cases z), fun _ z => absurd rfl z, fun _ _ υ hM a1 a2 h0 h14 h12 h15 => hK2 _ _ h0 (fun _ => rfl) ?_⟩
    refine ⟨Rel.ch hC hn he hj hcl hF (hM.cgw r1 r2) a1 a2 (tx0 ?_ h12) ?_ ?_, (hM.2.1 233 0 (by omega)).2⟩
    · rw [(hM.2.1 79 1 (by omega)).1, (hF 79 1 (by omega)).1]; exact l79
    · rw [(hM.2.1 0 12 (by omega)).1, (hF 0 12 (by omega)).1, l12, h14]
    · rw [(hM.2.1 0 13 (by omega)).1, (hF 0 13 (by omega)).1, l13, h15, i9]; exact hC.2.2.2.2.2.2.2.2
theorem q_undo {σ : Mem} {K : Int32 → Mem → Prop} {X : String → Mem → Prop} (hR : Rel σ) (hK : ∀ r τ, AnI sp_X5_undo 0 r τ → K r τ) (hX : ∀ τ, AnI sp_X5_undo 1 0 τ → X xISE τ) : sp_X4_undo σ K X := by
  have hR0 := hR
  obtain ⟨w, g, u, hC, hS⟩ := hR
  obtain ⟨n, e, hn, he, h8, h9, h5, hj⟩ := hC.2.2.2.2.2.1
  have bad : n = 0 → X xISE σ := fun n0 => hX σ (fun τ' hF K2 X2 hK2 => ⟨0, by decide, by rw [(hF 209 5 (by omega)).1, h5, n0], fun _ => hK2 _ _ (wi_at _ _ _ _) (fun q => absurd q ne10) (rel1 hR0 hF 0 1), fun z => absurd z (by decide)⟩)
  have good : 0 < n → ∀ σ37 : Mem, σ37 = wi σ 0 8 (nI ((e + 8) % 9)) → (vp_in (σ37.1 0 8) 9) ∧ (sp_X0_takeOver 1 (83 + 14 * ((σ37.1 0 8)).toNatClampNeg) σ37 (fun σ53 => ∀ σ58 : Mem, σ58 = wi σ53 0 11 0 → ∀ σ68 : Mem, σ68 = wi σ58 0 9 ((σ58.1 0 9) - 1) → K (σ68.1 0 9) σ68) X) := by
    intro n0 σ37 e37
    have hlt : (e + 8) % 9 < 9 := Nat.mod_lt _ (by decide)
    rw [e37, wi_at, n_cl (by omega)]
    refine ⟨n_inR hlt (by decide), i_takeOver netA_1 (earl_netN _ hlt) (.inl (by omega)) (fun σ53 hT σ58 e58 σ68 e68 => ?_)⟩
    have s53 : ∀ a k, a = 0 ∨ 14 < a → ¬ (a = 0 ∧ k = 8) → σ53.1 a k = σ.1 a k ∧ σ53.2.1 a k = σ.2.1 a k := fun a k q z => ⟨by rw [(hT.1 a k (by omega)).1, wi_i, if_neg z], by rw [(hT.1 a k (by omega)).2, wi_l]⟩
    have l58 : σ58.1 0 9 = nI n := by rw [e58, wi_i, if_neg (by omega), (s53 0 9 (by omega) (by omega)).1]; exact h9
    obtain ⟨n', en⟩ : ∃ n', n = n' + 1 := ⟨n - 1, by omega⟩
    rw [l58, en, nI_pred] at e68
    have v68 : σ68.1 0 9 = nI n' := by rw [e68, wi_at]
    rw [v68]
    have s68 : ∀ a k, a = 0 ∨ 14 < a → ¬ (a = 0 ∧ (k = 8 ∨ k = 9 ∨ k = 11)) → σ68.1 a k = σ.1 a k := fun a k q z => by rw [e68, wi_i, if_neg (by omega), e58, wi_i, if_neg (by omega)]; exact (s53 a k q (by omega)).1
    have l68 : ∀ a k, σ68.2.1 a k = σ53.2.1 a k := fun a k => by rw [e68, wi_l, e58, wi_l]
    refine hK _ σ68 (fun τ' hF K2 X2 hK2 => ⟨n, hn, by rw [(hF 209 5 (by omega)).1, s68 209 5 (by omega) (by omega)]; exact h5, fun z => absurd z (by omega), fun _ => ?_⟩)
    obtain ⟨w0, g0, u0', c1, c2, c3, c4⟩ := hj 0 (by omega)
    rw [show (e + 8 - 0) % 9 = (e + 8) % 9 by omega] at c2
    have hN53 : NS σ53 1 w0 g0 u0' := (NS.fr (τ := wi σ 0 8 (nI ((e + 8) % 9))) c2 (fun o k ho => by rw [wi_i, if_neg (by omega)]) (fun o k ho => rfl)).tk c1.2.1.1 hT
    have hN68 : NS σ68 1 w0 g0 u0' := hN53.fr (fun o k ho => by rw [e68, wi_i, if_neg (by omega), e58, wi_i, if_neg (by omega)]) (fun o k ho => l68 _ k)
    have t68 : ∀ a k, a < 233 → τ'.1 a k = σ68.1 a k ∧ τ'.2.1 a k = σ68.2.1 a k := fun a k q => hF a k q
    -- the reference's rows
    have x1 : ∀ a k, a ≠ 210 → ¬ (a = 209 ∧ (k = 0 ∨ k = 5)) → (un_X5 τ' (n - 1)).1 a k = τ'.1 a k := fun a k q1 q2 => by
      unfold un_X5; rw [cl_i, ci_i, if_neg (by omega), wi_i, if_neg (by omega), wi_i, if_neg (by omega)]
    have x2 : ∀ a k, a ≠ 211 → (un_X5 τ' (n - 1)).2.1 a k = τ'.2.1 a k := fun a k q1 => by
      unfold un_X5; rw [cl_l, if_neg (by omega), ci_l, wi_l, wi_l]
    have y1 : ∀ a k, a < 233 → (a = 0 ∨ 14 < a) → a ≠ 210 → ¬ (a = 209 ∧ (k = 0 ∨ k = 5)) → ¬ (a = 0 ∧ (k = 8 ∨ k = 9 ∨ k = 11)) → (un_X5 τ' (n - 1)).1 a k = σ.1 a k := fun a k q0 q q1 q2 q3 => by rw [x1 a k q1 q2, (t68 a k q0).1, s68 a k q q3]
    have y2 : ∀ a k, a < 233 → 14 < a → a ≠ 211 → (un_X5 τ' (n - 1)).2.1 a k = σ.2.1 a k := fun a k q0 q q1 => by rw [x2 a k q1, (t68 a k q0).2, l68, (s53 a k (by omega) (by omega)).2]
    refine hK2 _ _ ?_ (fun _ => by rw [en]; rfl) ⟨⟨w0, g0, u0', ⟨c1, hN68.f2 (fun a k q1 q2 => ⟨by rw [x1 a k (by omega) (by omega), (t68 a k (by omega)).1], by rw [x2 a k (by omega), (t68 a k (by omega)).2]⟩), fun k hk => ?_, fun k hk => ?_, hC.2.2.2.2.1.f2 (y1 _ _ (by omega) (by omega) (by omega) (by omega) (by omega)) (y1 _ _ (by omega) (by omega) (by omega) (by omega) (by omega)) (fun a k q1 q2 => ⟨y1 a k (by omega) (by omega) (by omega) (by omega) (by omega), y2 a k (by omega) (by omega) (by omega)⟩) (fun k => y1 214 k (by omega) (by omega) (by omega) (by omega) (by omega)) (fun k => y2 215 k (by omega) (by omega) (by omega)), ⟨n', (e + 8) % 9, by omega, hlt, ?_, ?_, ?_, fun j hj' => ?_⟩, ?_, ?_, ?_⟩, fun z => absurd ?_ z⟩, x2 233 0 (by omega)⟩
    · unfold un_X5; rw [cl_i, ci_i, if_neg (by omega), wi_i, if_neg (by omega), wi_at]
    · unfold un_X5
      rw [cl_i, ci_i, if_pos (by omega), wi_i, if_neg (by omega), wi_i, if_neg (by omega), (t68 212 _ (by omega)).1, s68 212 _ (by omega) (by omega), ← c3 k hk]
      exact congrArg (σ.1 212) (by omega)
    · unfold un_X5
      rw [cl_l, if_pos (by omega), ci_l, wi_l, wi_l, (t68 213 _ (by omega)).2, l68, (s53 213 _ (by omega) (by omega)).2, ← c4 k hk]
      exact congrArg (σ.2.1 213) (by omega)
    · rw [x1 0 8 (by omega) (by omega), (t68 0 8 (by omega)).1, e68, wi_i, if_neg (by omega), e58, wi_i, if_neg (by omega), (hT.1 0 8 (by omega)).1, wi_at]
    · rw [x1 0 9 (by omega) (by omega), (t68 0 9 (by omega)).1]; exact v68
    · unfold un_X5
      rw [cl_i, ci_i, if_neg (by omega), wi_at, en]; rfl
    · have hb : ((e + 8) % 9 + 8 - j) % 9 = (e + 8 - (j + 1)) % 9 := by omega
      have hlt2 : (e + 8 - (j + 1)) % 9 < 9 := Nat.mod_lt _ (by decide)
      have h0 := hj (j + 1) (by omega)
      rw [hb]
      rw [show n' - 1 - j = n - 1 - (j + 1) by omega]
      generalize (e + 8 - (j + 1)) % 9 = bb at *
      exact h0.fr (fun o k ho => y1 _ k (by omega) (by omega) (by omega) (by omega) (by omega)) (fun o k ho => y2 _ k (by omega) (by omega) (by omega)) (fun k => y1 212 k (by omega) (by omega) (by omega) (by omega) (by omega)) (fun k => y2 213 k (by omega) (by omega) (by omega))
    · obtain ⟨s, m, t1, t2⟩ := hC.2.2.2.2.2.2.1
      exact ⟨s, m, t1.of (y1 79 1 (by omega) (by omega) (by omega) (by omega) (by omega)) (fun k => y1 80 k (by omega) (by omega) (by omega) (by omega) (by omega)), t2.of (y1 209 12 (by omega) (by omega) (by omega) (by omega) (by omega)) (fun k => y1 218 k (by omega) (by omega) (by omega) (by omega) (by omega))⟩
    · rw [y1 0 12 (by omega) (by omega) (by omega) (by omega) (by omega), y1 209 14 (by omega) (by omega) (by omega) (by omega) (by omega)]; exact hC.2.2.2.2.2.2.2.1
    · rw [y1 0 13 (by omega) (by omega) (by omega) (by omega) (by omega), y1 209 15 (by omega) (by omega) (by omega) (by omega) (by omega)]; exact hC.2.2.2.2.2.2.2.2
    · rw [x1 0 11 (by omega) (by omega), (t68 0 11 (by omega)).1, e68, wi_i, if_neg (by omega), e58, wi_at]
  refine ⟨fun q => ?_, fun q => bad ?_⟩
  · have n0 : 0 < n := by
      apply Nat.pos_of_ne_zero
      intro z; exact q (by rw [h9, z]; rfl)
    refine ⟨fun q2 σ37 e37 => good n0 σ37 ?_, fun q2 σ37 e37 => good n0 σ37 ?_⟩
    · have e0 : e ≠ 0 := fun z => q2 (by rw [h8, z]; rfl)
      rw [e37, h8, show (e + 8) % 9 = e - 1 by omega]
      congr 1
      conv => lhs; rw [show e = (e - 1) + 1 by omega]
      exact nI_pred (e - 1)
    · have e0 : e = 0 := by
        rw [h8, show (0 : Int32) = nI 0 from rfl, nI_eq (by omega) (by omega)] at q2; exact q2
      rw [e37, e0]; rfl
  · rw [h9, show (0 : Int32) = nI 0 from rfl, nI_eq (by omega) (by omega)] at q; exact q
theorem q_save {σ : Mem} {K : Int32 → Mem → Prop} {X : String → Mem → Prop} (hR : Rel σ) (hK : ∀ r τ, AnI sp_X5_save 0 r τ → K r τ) : sp_X4_save σ K X := by
  obtain ⟨w, g, u, hC, hS⟩ := hR
  refine i_takeOver netA_15 netA_1 (.inr (by decide)) (fun σ8 hT σ13 e13 => ?_)
  have s13 : ∀ a k, (a < 15 ∨ 28 < a) → ¬ (a = 0 ∧ k = 10) → σ13.1 a k = σ.1 a k := fun a k q z => by rw [e13, wi_i, if_neg z]; exact (hT.1 a k (by omega)).1
  have l13 : ∀ a k, (a < 15 ∨ 28 < a) → σ13.2.1 a k = σ.2.1 a k := fun a k q => by rw [e13, wi_l]; exact (hT.1 a k (by omega)).2
  have hN15 : NS σ13 15 w g u := (hC.2.1.tk hC.1.2.1.1 hT).fr (fun o k ho => by rw [e13, wi_i, if_neg (by omega)]) (fun o k ho => by rw [e13, wi_l])
  refine hK _ σ13 (fun τ' hF K2 X2 hK2 => ?_)
  have x1 : ∀ a k, a ≠ 214 → ¬ (a = 209 ∧ (k = 0 ∨ k = 8)) → (sv_X5 τ').1 a k = τ'.1 a k := fun a k q1 q2 => by
    unfold sv_X5; rw [cl_i, ci_i, if_neg (by omega), wi_i, if_neg (by omega), wi_i, if_neg (by omega)]
  have x2 : ∀ a k, a ≠ 215 → (sv_X5 τ').2.1 a k = τ'.2.1 a k := fun a k q1 => by
    unfold sv_X5; rw [cl_l, if_neg (by omega), ci_l, wi_l, wi_l]
  have y1 : ∀ a k, a < 233 → (a < 15 ∨ 28 < a) → a ≠ 214 → ¬ (a = 209 ∧ (k = 0 ∨ k = 8)) → ¬ (a = 0 ∧ k = 10) → (sv_X5 τ').1 a k = σ.1 a k := fun a k q0 q q1 q2 q3 => by rw [x1 a k q1 q2, (hF a k q0).1, s13 a k q q3]
  have y2 : ∀ a k, a < 233 → (a < 15 ∨ 28 < a) → a ≠ 215 → (sv_X5 τ').2.1 a k = σ.2.1 a k := fun a k q0 q q1 => by rw [x2 a k q1, (hF a k q0).2, l13 a k q]
  have h8' : (sv_X5 τ').1 209 8 = 1 := by unfold sv_X5; rw [cl_i, ci_i, if_neg (by omega), wi_at]
  have h10 : (sv_X5 τ').1 0 10 = 1 := by rw [x1 0 10 (by omega) (by omega), (hF 0 10 (by omega)).1, e13, wi_at]
  refine hK2 _ _ ?_ (fun _ => ?_) ⟨⟨w, g, u, ⟨hC.1, hC.2.1.f2 (fun a k q1 q2 => ⟨y1 a k (by omega) (by omega) (by omega) (by omega) (by omega), y2 a k (by omega) (by omega) (by omega)⟩), fun k hk => by rw [y1 210 k (by omega) (by omega) (by omega) (by omega) (by omega)]; exact hC.2.2.1 k hk, fun k hk => by rw [y2 211 k (by omega) (by omega) (by omega)]; exact hC.2.2.2.1 k hk, ⟨by rw [h8', h10], fun _ => ⟨w, g, u, hC.1, hN15.fr (fun o k ho => by rw [x1 _ k (by omega) (by omega), (hF _ k (by omega)).1]) (fun o k ho => by rw [x2 _ k (by omega), (hF _ k (by omega)).2]), fun k hk => ?_, fun k hk => ?_⟩⟩, hC.2.2.2.2.2.1.f2 (fun k q => y1 0 k (by omega) (by omega) (by omega) (by omega) (by omega)) (y1 _ _ (by omega) (by omega) (by omega) (by omega) (by omega)) (fun a k q1 q2 => ⟨y1 a k (by omega) (by omega) (by omega) (by omega) (by omega), y2 a k (by omega) (by omega) (by omega)⟩) (fun k => y1 212 k (by omega) (by omega) (by omega) (by omega) (by omega)) (fun k => y2 213 k (by omega) (by omega) (by omega)), ?_, ?_, ?_⟩, fun z => ?_⟩, x2 233 0 (by omega)⟩
  · unfold sv_X5; rw [cl_i, ci_i, if_neg (by omega), wi_i, if_neg (by omega), wi_at]
  · rw [(hF 210 7 (by omega)).1, s13 210 7 (by omega) (by omega), s13 1 1 (by omega) (by omega), hC.2.2.1 7 (by decide), hC.1.1]; exact hC.2.1.1.2.1.1.symm
  · unfold sv_X5
    rw [cl_i, ci_i, if_pos (by omega), wi_i, if_neg (by omega), wi_i, if_neg (by omega), show 0 + (0 + k - 0) = k by omega, (hF 210 k (by omega)).1, s13 210 k (by omega) (by omega)]; exact hC.2.2.1 k hk
  · unfold sv_X5
    rw [cl_l, if_pos (by omega), ci_l, wi_l, wi_l, show 0 + (0 + k - 0) = k by omega, (hF 211 k (by omega)).2, l13 211 k (by omega)]; exact hC.2.2.2.1 k hk
  · obtain ⟨s, m, t1, t2⟩ := hC.2.2.2.2.2.2.1
    exact ⟨s, m, t1.of (y1 79 1 (by omega) (by omega) (by omega) (by omega) (by omega)) (fun k => y1 80 k (by omega) (by omega) (by omega) (by omega) (by omega)), t2.of (y1 209 12 (by omega) (by omega) (by omega) (by omega) (by omega)) (fun k => y1 218 k (by omega) (by omega) (by omega) (by omega) (by omega))⟩
  · rw [y1 0 12 (by omega) (by omega) (by omega) (by omega) (by omega), y1 209 14 (by omega) (by omega) (by omega) (by omega) (by omega)]; exact hC.2.2.2.2.2.2.2.1
  · rw [y1 0 13 (by omega) (by omega) (by omega) (by omega) (by omega), y1 209 15 (by omega) (by omega) (by omega) (by omega) (by omega)]; exact hC.2.2.2.2.2.2.2.2
  · rw [y1 0 11 (by omega) (by omega) (by omega) (by omega) (by omega)] at z
    exact (hS z).fs ⟨y1 0 11 (by omega) (by omega) (by omega) (by omega) (by omega), fun a k p q => y1 a k (by omega) (by omega) (by omega) (by omega) (by omega), fun a k p q => y2 a k (by omega) (by omega) (by omega)⟩
theorem q_restore {σ : Mem} {K : Int32 → Mem → Prop} {X : String → Mem → Prop} (hR : Rel σ) (hK : ∀ r τ, AnI sp_X5_restore 0 r τ → K r τ) (hX : ∀ τ, AnI sp_X5_restore 1 0 τ → X xISE τ) : sp_X4_restore σ K X := by
  have hR0 := hR
  obtain ⟨w, g, u, hC, hS⟩ := hR
  obtain ⟨n, e, hn, he, h8, h9, h5, hj⟩ := hC.2.2.2.2.2.1
  have hSn := hC.2.2.2.2.1
  refine ⟨fun q => ?_, fun q => hX σ (fun τ' hF K2 X2 hK2 => ⟨fun _ => hK2 _ _ (wi_at _ _ _ _) (fun q => absurd q ne10) (rel1 hR0 hF 0 1), fun z => absurd (by rw [(hF 209 8 (by omega)).1]; exact hSn.1.mp q) z⟩)⟩
  obtain ⟨w0, g0, u0', c1, c2, c3, c4⟩ := hSn.2 q
  refine i_takeOver netA_1 netA_15 (.inl (by decide)) (fun σ26 hT σ31 e31 σ36 e36 => ?_)
  have s36 : ∀ a k, a = 0 ∨ 14 < a → ¬ (a = 0 ∧ (k = 9 ∨ k = 11)) → σ36.1 a k = σ.1 a k := fun a k q z => by rw [e36, wi_i, if_neg (by omega), e31, wi_i, if_neg (by omega)]; exact (hT.1 a k (by omega)).1
  have l36 : ∀ a k, σ36.2.1 a k = σ26.2.1 a k := fun a k => by rw [e36, wi_l, e31, wi_l]
  have l36' : ∀ a k, a = 0 ∨ 14 < a → σ36.2.1 a k = σ.2.1 a k := fun a k q => by rw [l36]; exact (hT.1 a k (by omega)).2
  have hN36 : NS σ36 1 w0 g0 u0' := (c2.tk c1.2.1.1 hT).fr (fun o k ho => by rw [e36, wi_i, if_neg (by omega), e31, wi_i, if_neg (by omega)]) (fun o k ho => l36 _ k)
  refine hK _ σ36 (fun τ' hF K2 X2 hK2 => ⟨fun z => absurd ?_ q, fun _ => ?_⟩)
  · rw [(hF 209 8 (by omega)).1, s36 209 8 (by omega) (by omega)] at z
    exact hSn.1.mpr z
  have x1 : ∀ a k, a ≠ 210 → ¬ (a = 209 ∧ (k = 0 ∨ k = 5)) → (rs_X5 τ').1 a k = τ'.1 a k := fun a k q1 q2 => by
    unfold rs_X5; rw [wi_i, if_neg (by omega), cl_i, ci_i, if_neg (by omega), wi_i, if_neg (by omega)]
  have x2 : ∀ a k, a ≠ 211 → (rs_X5 τ').2.1 a k = τ'.2.1 a k := fun a k q1 => by
    unfold rs_X5; rw [wi_l, cl_l, if_neg (by omega), ci_l, wi_l]
  have y1 : ∀ a k, a < 233 → (a = 0 ∨ 14 < a) → a ≠ 210 → ¬ (a = 209 ∧ (k = 0 ∨ k = 5)) → ¬ (a = 0 ∧ (k = 9 ∨ k = 11)) → (rs_X5 τ').1 a k = σ.1 a k := fun a k q0 q q1 q2 q3 => by rw [x1 a k q1 q2, (hF a k q0).1, s36 a k q q3]
  have y2 : ∀ a k, a < 233 → 14 < a → a ≠ 211 → (rs_X5 τ').2.1 a k = σ.2.1 a k := fun a k q0 q q1 => by rw [x2 a k q1, (hF a k q0).2, l36' a k (by omega)]
  have h210 : ∀ k, k < 108 → (rs_X5 τ').1 210 k = w0 k := fun k hk => by
    unfold rs_X5
    rw [wi_i, if_neg (by omega), cl_i, ci_i, if_pos (by omega), wi_i, if_neg (by omega), (hF 214 _ (by omega)).1, s36 214 _ (by omega) (by omega)]
    exact c3 k hk
  refine hK2 _ _ ?_ (fun _ => ?_) ⟨⟨w0, g0, u0', ⟨c1, hN36.f2 (fun a k q1 q2 => ⟨by rw [x1 a k (by omega) (by omega), (hF a k (by omega)).1], by rw [x2 a k (by omega), (hF a k (by omega)).2]⟩), h210, fun k hk => ?_, hSn.f2 (y1 _ _ (by omega) (by omega) (by omega) (by omega) (by omega)) (y1 _ _ (by omega) (by omega) (by omega) (by omega) (by omega)) (fun a k q1 q2 => ⟨y1 a k (by omega) (by omega) (by omega) (by omega) (by omega), y2 a k (by omega) (by omega) (by omega)⟩) (fun k => y1 214 k (by omega) (by omega) (by omega) (by omega) (by omega)) (fun k => y2 215 k (by omega) (by omega) (by omega)), ⟨0, e, by decide, he, by rw [y1 0 8 (by omega) (by omega) (by omega) (by omega) (by omega)]; exact h8, ?_, ?_, fun j hj' => absurd hj' (Nat.not_lt_zero j)⟩, ?_, ?_, ?_⟩, fun z => absurd ?_ z⟩, x2 233 0 (by omega)⟩
  · unfold rs_X5; rw [wi_i, if_neg (by omega), cl_i, ci_i, if_neg (by omega), wi_at]
  · rw [h210 7 (by decide), c1.1]; exact hN36.1.2.1.1.symm
  · unfold rs_X5
    rw [wi_l, cl_l, if_pos (by omega), ci_l, wi_l, (hF 215 _ (by omega)).2, l36' 215 _ (by omega)]
    exact c4 k hk
  · rw [x1 0 9 (by omega) (by omega), (hF 0 9 (by omega)).1, e36, wi_at]; rfl
  · unfold rs_X5; rw [wi_at]; rfl
  · obtain ⟨s, m, t1, t2⟩ := hC.2.2.2.2.2.2.1
    exact ⟨s, m, t1.of (y1 79 1 (by omega) (by omega) (by omega) (by omega) (by omega)) (fun k => y1 80 k (by omega) (by omega) (by omega) (by omega) (by omega)), t2.of (y1 209 12 (by omega) (by omega) (by omega) (by omega) (by omega)) (fun k => y1 218 k (by omega) (by omega) (by omega) (by omega) (by omega))⟩
  · rw [y1 0 12 (by omega) (by omega) (by omega) (by omega) (by omega), y1 209 14 (by omega) (by omega) (by omega) (by omega) (by omega)]; exact hC.2.2.2.2.2.2.2.1
  · rw [y1 0 13 (by omega) (by omega) (by omega) (by omega) (by omega), y1 209 15 (by omega) (by omega) (by omega) (by omega) (by omega)]; exact hC.2.2.2.2.2.2.2.2
  · rw [x1 0 11 (by omega) (by omega), (hF 0 11 (by omega)).1, e36, wi_i, if_neg (by omega), e31, wi_at]
