/-! ===== calls that change the network ===== -/
theorem uEq_of {w : Nat → Int32} {u x : Nat → Int64} (h : ∀ k, k < 34 → x k = u k) : uEq w u x := ⟨fun n hn _ => ⟨h n (by omega), h (10 + n) (by omega), h (20 + n) (by omega)⟩, h 30 (by decide), h 31 (by decide), h 32 (by decide), h 33 (by decide)⟩
theorem chg_rel {w w' : Nat → Int32} {g g' : Gr} {u u' : Nat → Int64} {e n : Nat} {σ τ τ' υ : Mem} (hC : Core w g u σ) (hn : n ≤ 8) (he : e < 9) (hj : ∀ j, j < n → Sv σ (83 + 14 * ((e + 8 - j) % 9)) 212 (108 * (n - 1 - j)) 213 (34 * (n - 1 - j))) (hcl : ClC w g u w' g' u' e n σ τ) (hX : ClX σ τ) (hF : FO τ τ') (hK : MdK n w u τ' υ) (h9 : ∀ k, k = 12 ∨ k = 14 ∨ k = 15 → υ.1 209 k = τ'.1 209 k) (h210 : ∀ k, k < 108 → υ.1 210 k = w' k) (h211 : uEq w' u' (υ.2.1 211)) : RU τ' υ := by
  refine ⟨?_, (hK.2.1 233 0 (by omega)).2⟩
  obtain ⟨c1, c2, c3, c4, c5, c6, c7, c8⟩ := hcl
  have f : ∀ a k, a < 209 → υ.1 a k = τ.1 a k := fun a k q => by rw [(hK.2.1 a k (.inl q)).1, (hF a k (by omega)).1]
  have f9 : ∀ k, k = 12 ∨ k = 14 ∨ k = 15 → υ.1 209 k = σ.1 209 k := fun k q => by rw [h9 k q, (hF 209 k (by omega)).1, (c8 209 k (by omega)).1]
  obtain ⟨s, m, t1, t2⟩ := hC.2.2.2.2.2.2.1
  refine Rel.ch hC hn he hj ⟨c1, c2, c3, c4, c5, c6, c7, c8⟩ hF hK h210 h211 ⟨s, m, t1.of ?_ (fun k => ?_), t2.of (f9 12 (by omega)) (fun k => ?_)⟩ ?_ ?_
  · rw [f 79 1 (by omega)]; exact hX.1
  · rw [f 80 k (by omega)]; exact hX.2.1 k
  · rw [(hK.2.1 218 k (by omega)).1, (hF 218 k (by omega)).1, (c8 218 k (by omega)).1]
  · rw [f 0 12 (by omega), hX.2.2.1, f9 14 (by omega)]; exact hC.2.2.2.2.2.2.2.1
  · rw [f 0 13 (by omega), hX.2.2.2, f9 15 (by omega)]; exact hC.2.2.2.2.2.2.2.2
theorem i_endC {w w' : Nat → Int32} {g g' : Gr} {u u' : Nat → Int64} {e n : Nat} {σ τ1 τ2 : Mem} {K : Mem → Prop} {X : String → Mem → Prop} (hg : g.1 ≤ 10) (hN : NS σ 1 w g u) (hn : n ≤ 8) (he : e < 9) (h8 : σ.1 0 8 = nI e) (h9 : σ.1 0 9 = nI n) (hT : TkO (83 + 14 * e) 1 σ τ1) (hCh : ChN τ1 τ2) (hw' : WFw w' g') (hN' : NS τ2 1 w' g' u') (h : ∀ τ : Mem, ClC w g u w' g' u' e n σ τ → ClX σ τ → K τ) : sp_X4_endChange τ2 K X := by
  obtain ⟨a, b⟩ := ClC.mk (n := n) hg hN he hT hCh hw' hN'
  exact i_end he hn (by rw [(hCh.1 0 8 (.inl rfl)).1, (hT.1 0 8 (by omega)).1]; exact h8) (by rw [(hCh.1 0 9 (.inl rfl)).1, (hT.1 0 9 (by omega)).1]; exact h9) (h _ a b)
theorem ns_bg {w : Nat → Int32} {g : Gr} {u : Nat → Int64} {e : Nat} {σ τ1 : Mem} (hN : NS σ 1 w g u) (hT : TkO (83 + 14 * e) 1 σ τ1) : NS τ1 1 w g u := hN.fr (fun o k ho => (hT.1 _ k (by omega)).1) (fun o k ho => (hT.1 _ k (by omega)).2)
/-- the reference's rows behind the class's change -/
theorem cl_rows {w w' : Nat → Int32} {g g' : Gr} {u u' : Nat → Int64} {e n : Nat} {σ τ τ' : Mem} (hC : Core w g u σ) (hcl : ClC w g u w' g' u' e n σ τ) (hF : FO τ τ') : (∀ k, k < 108 → τ'.1 210 k = w k) ∧ (∀ k, k < 34 → τ'.2.1 211 k = u k) ∧ τ'.1 209 5 = σ.1 209 5 := by
  obtain ⟨c1, c2, c3, c4, c5, c6, c7, c8⟩ := hcl
  exact ⟨fun k hk => by rw [(hF 210 k (by omega)).1, (c8 210 k (by omega)).1]; exact hC.2.2.1 k hk, fun k hk => by rw [(hF 211 k (by omega)).2, (c8 211 k (by omega)).2]; exact hC.2.2.2.1 k hk, by rw [(hF 209 5 (by omega)).1, (c8 209 5 (by omega)).1]⟩
theorem i_chgM {n : Nat} {w : Nat → Int32} {u : Nat → Int64} {τ' : Mem} {Q : Mem → Prop} {X : String → Mem → Prop} (hn : n ≤ 8) (h5 : τ'.1 209 5 = nI n) (hw : ∀ k, k < 108 → τ'.1 210 k = w k) (hu : ∀ k, k < 34 → τ'.2.1 211 k = u k) (h : ∀ υ : Mem, MdK n w u τ' υ → (∀ k, k < 108 → υ.1 210 k = w k) → (∀ k, k < 34 → υ.2.1 211 k = u k) → υ.1 209 0 = 0 → (∀ k, k = 12 ∨ k = 14 ∨ k = 15 → υ.1 209 k = τ'.1 209 k) → Q υ) : sp_X5_changes (wi τ' 209 0 0) (fun σ5 => Q σ5) X := by
  show sp_X5_keeps (trM (wi τ' 209 0 0)) (fun σ5 => Q σ5) X
  have e0 : ∀ a k, ¬ (a = 209 ∧ k = 0) → (wi τ' 209 0 0).1 a k = τ'.1 a k := fun a k q => by rw [wi_i, if_neg q]
  refine MdK.mk1 hn (opR_w9 τ' 0 (by omega)) (OpM.rfl' _).r h5 (fun k hk => by rw [e0 210 k (by omega)]; exact hw k hk) (fun k hk => by rw [wi_l]; exact hu k hk) (fun υ hM hF2 => h υ hM (fun k hk => ?_) (fun k hk => ?_) ?_ (fun k hk => ?_))
  · rw [hF2.1 210 k (by omega) (by omega), trM_i _ (by omega), e0 210 k (by omega)]; exact hw k hk
  · rw [hF2.2.1 211 k (by omega), trM_l _ (by omega), wi_l]; exact hu k hk
  · rw [hF2.1 209 0 (by omega) (by omega), trM_i _ (by omega), wi_at]
  · rw [hF2.1 209 k (by omega) (by omega), trM_i _ (by omega), e0 209 k (by omega)]
/-- tried, done, kept: behind an op -/
theorem i_opK {n : Nat} {w : Nat → Int32} {u : Nat → Int64} {τ' υ0 : Mem} {Q : Mem → Prop} {X : String → Mem → Prop} (hn : n ≤ 8) (h5 : τ'.1 209 5 = nI n) (hw : ∀ k, k < 108 → τ'.1 210 k = w k) (hu : ∀ k, k < 34 → τ'.2.1 211 k = u k) (hO : OpM (trM (wi τ' 209 0 0)) υ0) (h : ∀ υ : Mem, MdK n w u τ' υ → (∀ k, υ.1 210 k = υ0.1 210 k) → (∀ k, υ.2.1 211 k = υ0.2.1 211 k) → υ.1 209 0 = 0 → (∀ k, k = 12 ∨ k = 14 ∨ k = 15 → υ.1 209 k = τ'.1 209 k) → Q υ) : sp_X5_keeps υ0 (fun σ5 => Q σ5) X := by
  have e0 : ∀ a k, ¬ (a = 209 ∧ k = 0) → (wi τ' 209 0 0).1 a k = τ'.1 a k := fun a k q => by rw [wi_i, if_neg q]
  refine MdK.mk1 hn (opR_w9 τ' 0 (by omega)) hO.r h5 (fun k hk => by rw [e0 210 k (by omega)]; exact hw k hk) (fun k hk => by rw [wi_l]; exact hu k hk) (fun υ hM hF2 => h υ hM (fun k => hF2.1 210 k (by omega) (by omega)) (fun k => hF2.2.1 211 k (by omega)) ?_ (fun k hk => ?_))
  · rw [hF2.1 209 0 (by omega) (by omega), hO.2.1 0 (by omega) (by omega), trM_i _ (by omega), wi_at]
  · rw [hF2.1 209 k (by omega) (by omega), hO.2.1 k (by omega) (by omega), trM_i _ (by omega), e0 209 k (by omega)]
theorem i_tries {σ : Mem} {K : Mem → Prop} {X : String → Mem → Prop} (h : K (trM σ)) : sp_X5_tries σ K X := h
/-- a refused call -/
theorem rel_ref {w : Nat → Int32} {g : Gr} {u : Nat → Int64} {σ τ' υ0 : Mem} {v c : Int32} (hC : Core w g u σ) (hS : ¬ σ.1 0 11 = 0 → SettE w g σ) (hF : FO (wi σ 0 13 v) τ') (hO : OpM (trM (wi τ' 209 0 0)) υ0) (h210 : ∀ k, k < 108 → k < 8 + 4 * g.1 ∨ 48 ≤ k → υ0.1 210 k = w k) (h211 : ∀ k, k < 34 → υ0.2.1 211 k = u k) : RU τ' (wi (wi υ0 209 15 v) 209 0 c) := by
  refine ⟨?_, by rw [wi_l, wi_l, (hO.1 233 0 (by omega)).2, trM_l _ (by omega), wi_l]⟩
  have i1 : ∀ a k, ¬ (a = 209 ∧ (k = 0 ∨ k = 15)) → (wi (wi υ0 209 15 v) 209 0 c).1 a k = υ0.1 a k := fun a k q => by rw [wi_i, if_neg (by omega), wi_i, if_neg (by omega)]
  refine Rel.refuse hC hS hF (fun a k q => ⟨?_, ?_⟩) (fun k q => ?_) (by rw [wi_i, if_neg (by omega), wi_at]) (fun k hk q => by rw [i1 210 k (by omega)]; exact h210 k hk q) h211
  · rw [i1 a k (by omega), (hO.1 a k (by omega)).1, trM_i _ (by omega), wi_i, if_neg (by omega)]
  · rw [wi_l, wi_l, (hO.1 a k (by omega)).2, trM_l _ (by omega), wi_l]
  · rw [i1 209 k (by omega), hO.2.1 k (by omega) (by omega), trM_i _ (by omega), wi_i, if_neg (by omega)]
theorem tr_rows {w : Nat → Int32} {u : Nat → Int64} {τ' : Mem} (hw : ∀ k, k < 108 → τ'.1 210 k = w k) (hu : ∀ k, k < 34 → τ'.2.1 211 k = u k) : (∀ k, k < 108 → (trM (wi τ' 209 0 0)).1 210 k = w k) ∧ ∀ k, k < 34 → (trM (wi τ' 209 0 0)).2.1 211 k = u k := ⟨fun k hk => by rw [trM_i _ (by omega), wi_i, if_neg (by omega)]; exact hw k hk, fun k hk => by rw [trM_l _ (by omega), wi_l]; exact hu k hk⟩
theorem q_setSetting {p v : Int32} {σ : Mem} {K : Int32 → Mem → Prop} {X : String → Mem → Prop} (hR : Rel σ) (hK : ∀ r τ, AnI (sp_X5_setSetting p v) 0 r τ → K r τ) (hX1 : ∀ τ, AnI (sp_X5_setSetting p v) 1 0 τ → X xIOO τ) (hX2 : ∀ τ, AnI (sp_X5_setSetting p v) 2 0 τ → X xIAE τ) : sp_X4_setSetting p v σ K X := by
  have hR0 := hR
  obtain ⟨w, g, u, hC, hS⟩ := hR
  have hg := hC.1.2.1.1
  obtain ⟨n, e, hn, he, h8, h9, h5, hj⟩ := hC.2.2.2.2.2.1
  refine i_seC ?_
  by_cases c1 : bt3 p 0 6
  · obtain ⟨k, hk, ek⟩ := sm_of (m := 6) rfl (by decide) c1
    have ecl : p.toNatClampNeg = k := by rw [ek]; exact n_cl (by omega)
    by_cases c2 : bt3 v (LV.getD p.toNatClampNeg 0) (GV.getD p.toNatClampNeg 0)
    · have e0 : seN p v = 0 := by unfold seN; rw [if_neg (fun q => q c1), if_neg (fun q => q c2)]
      have e0' : seN (nI k) v = 0 := by rw [← ek]; exact e0
      rw [e0]
      have hin : vp_in p 7 := by rw [ek]; exact n_inR (by omega) (by decide)
      have hin2 : vp_in p 108 := by rw [ek]; exact n_inR (by omega) (by decide)
      refine ⟨fun _ => ⟨fun _ => ⟨hin, fun v44 e44 => i_begin he h8 (fun τ1 hT => ⟨hin, fun σ59 e59 => ?_⟩)⟩, fun q => absurd rfl q⟩, fun q => absurd q (by decide)⟩
      rw [ecl] at e44 e59
      have hCh : ChN τ1 σ59 := by rw [e59]; exact (ChN.rfl' τ1).wi (by decide) (by decide)
      refine i_endC hg hC.2.1 hn he h8 h9 hT hCh (hC.1.se (by omega) e0') (by rw [e59]; exact (ns_bg hC.2.1 hT).se hg (by omega)) (fun τ hcl hX => hK _ τ (fun τ' hF K2 X2 hK2 σ2 e2 => i_inY c1 ⟨fun _ => ?_, fun q => absurd q (by decide)⟩))
      obtain ⟨r1, r2, r3⟩ := cl_rows hC hcl hF
      rw [ek]
      refine i_isSV (by omega) ?_
      rw [ecl] at c2
      rw [if_pos c2, e2]
      refine ⟨fun _ => i_chgM hn (by rw [r3]; exact h5) r1 r2 (fun υ hM a1 a2 a3 a4 => ?_), fun q => absurd q (by decide)⟩
      rw [n_cl (by omega)]
      refine ⟨by rw [← ek]; exact hin2, fun v45 e45 => ⟨by rw [← ek]; exact hin2, fun σ52 e52 => ?_⟩⟩
      have hO : OpM υ σ52 := by rw [e52]; exact (OpM.rfl' υ).wi (.inl rfl)
      refine hK2 _ _ (by rw [hO.2.1 0 (by omega) (by omega)]; exact a3) (fun _ => ?_) (chg_rel hC hn he hj hcl hX hF (hM.op hO.r) (fun k hk => by rw [hO.2.1 k (by omega) (by omega)]; exact a4 k hk) (fun j hj => ?_) ?_)
      · rw [e45, e44, a1 k (by omega)]; exact (hC.2.1.1.1 k (by omega)).symm
      · rw [e52]; exact wi_row (a1 j hj)
      · rw [e52]; exact uEq_of a2
    · have e0 : seN p v = 2 := by unfold seN; rw [if_neg (fun q => q c1), if_pos c2]
      rw [e0]
      refine ⟨fun _ => ⟨fun q => absurd q (by decide), fun _ => hX2 σ (fun τ' hF K2 X2 hK2 σ2 e2 => i_inY c1 ⟨fun _ => ?_, fun q => absurd q (by decide)⟩)⟩, fun q => absurd q (by decide)⟩
      rw [ek]
      refine i_isSV (by omega) ?_
      rw [ecl] at c2
      rw [if_neg c2, e2]
      exact ⟨fun q => absurd rfl q, fun _ => i_X5_raises (hK2 _ _ (wi_at _ _ _ _) (fun q => absurd q ne20) (rel1 hR0 hF 0 2))⟩
  · have e0 : seN p v = 1 := by unfold seN; rw [if_pos c1]
    rw [e0]
    refine ⟨fun q => absurd rfl q, fun _ => hX1 σ (fun τ' hF K2 X2 hK2 σ2 e2 => i_inN c1 ⟨fun q => absurd rfl q, fun _ => ?_⟩)⟩
    rw [e2]
    exact i_X5_raises (hK2 _ _ (wi_at _ _ _ _) (fun q => absurd q ne10) (rel1 hR0 hF 0 1))
theorem nz7 {q : Nat} (h : q ≤ 7) : (nI q = 0 ↔ q = 0) := nI_eq (a := q) (b := 0) (by omega) (by decide)
theorem le7 {q : Nat} (h : q ≤ 7) : (nI q ≤ 0 ↔ q = 0) := by rw [show (0 : Int32) = nI 0 from rfl, nI_leI (by omega) (by omega)]; omega
theorem q_addPipe {p0 p1 p2 p3 : Int32} {σ : Mem} {K : Int32 → Mem → Prop} {X : String → Mem → Prop} (hR : Rel σ) (hK : ∀ r τ, AnI (sp_X5_addPipe p0 p1 p2 p3) 0 r τ → K r τ) (hX : ∀ τ, AnI (sp_X5_addPipe p0 p1 p2 p3) 1 0 τ → X xUOE τ) : sp_X4_addPipe p0 p1 p2 p3 σ K X := by
  obtain ⟨w, g, u, hC, hS⟩ := hR
  have hg := hC.1.2.1.1
  obtain ⟨n, e, hn, he, h8, h9, h5, hj⟩ := hC.2.2.2.2.2.1
  refine i_X0_pipeReason netA_1 hC.1.2.1 hC.2.1.1.2.1 ⟨fun q => ?_, fun q σ6 e6 => ?_⟩
  · have q0 := (nz7 prN_le).mp q
    obtain ⟨g10, hw', un, vn, -, -, ea, eb, eG⟩ := hC.1.ap q0
    rw [eG] at hw'
    refine i_begin he h8 (fun τ1 hT => i_putPipe g10 ea eb (ns_bg hC.2.1 hT) (fun τ2 hCh hN' => i_endC hg hC.2.1 hn he h8 h9 hT hCh hw' hN' (fun τ hcl hXx => ?_)))
    have e11 : τ.1 1 1 - 1 = nI g.1 := by rw [hcl.2.1.1.2.1.1]; exact nI_pred g.1
    rw [e11]
    refine hK _ τ (fun τ' hF K2 X2 hK2 σ2 e2 => ?_)
    obtain ⟨r1, r2, r3⟩ := cl_rows hC hcl hF
    obtain ⟨s1, s2⟩ := tr_rows r1 r2
    rw [e2]
    refine i_tries ?_
    refine i_apM hC.1 s1 (fun _ υ0 hO a1 a2 => ⟨fun _ => i_opK hn (by rw [r3]; exact h5) r1 r2 hO (fun υ hM b1 b2 b3 b4 => ?_), fun z => absurd (by decide) z⟩) (fun z => absurd q0 z)
    show K2 (υ.1 210 7 - 1) υ
    have hE : ∀ k, k < 108 → υ.1 210 k = apW w g.1 p0 p1 p2 p3 k := fun k hk => by rw [b1]; exact a1 k hk
    refine hK2 _ _ b3 (fun _ => ?_) (chg_rel hC hn he hj hcl hXx hF hM b4 hE (uEq_of (fun k hk => by rw [b2, a2]; exact s2 k hk)))
    rw [hE 7 (by decide), apW_at.1]; exact nI_pred g.1
  · rw [e6]
    refine hX _ (fun τ' hF K2 X2 hK2 σ2 e2 => ?_)
    have r1 : ∀ k, k < 108 → τ'.1 210 k = w k := fun k hk => by rw [(hF 210 k (by omega)).1, wi_i, if_neg (by omega)]; exact hC.2.2.1 k hk
    have r2 : ∀ k, k < 34 → τ'.2.1 211 k = u k := fun k hk => by rw [(hF 211 k (by omega)).2, wi_l]; exact hC.2.2.2.1 k hk
    obtain ⟨s1, s2⟩ := tr_rows r1 r2
    rw [e2]
    refine i_tries ?_
    refine i_apM hC.1 s1 (fun z => absurd (by rw [z]; rfl) q) (fun z υ0 hO a1 a2 => ⟨fun z' => absurd ((le7 prN_le).mp z') z, fun _ => i_X5_refuses (hK2 _ _ (wi_at _ _ _ _) (fun q => absurd q ne10) (rel_ref hC hS hF hO a1 (fun k hk => by rw [a2]; exact s2 k hk)))⟩)
theorem q_removePipe {p : Int32} {σ : Mem} {K : Int32 → Mem → Prop} {X : String → Mem → Prop} (hR : Rel σ) (hK : ∀ r τ, AnI (sp_X5_removePipe p) 0 r τ → K r τ) (hX : ∀ τ, AnI (sp_X5_removePipe p) 1 0 τ → X xIOO τ) : sp_X4_removePipe p σ K X := by
  have hR0 := hR
  obtain ⟨w, g, u, hC, hS⟩ := hR
  have hg := hC.1.2.1.1
  obtain ⟨n, e, hn, he, h8, h9, h5, hj⟩ := hC.2.2.2.2.2.1
  have cond : ∀ {τ' : Mem}, τ'.1 210 7 = nI g.1 → ((¬ p < 0 ∧ ¬ τ'.1 210 7 - 1 < p) ↔ ∃ m, m < g.1 ∧ p = nI m) := fun h7 => by
    rw [h7]
    refine ⟨fun c => ?_, fun ⟨m, hm, em⟩ => ?_⟩
    · obtain ⟨m, hm, em⟩ := nI_of c.1
      refine ⟨m, ?_, em⟩
      have c2 := c.2
      rw [em] at c2
      by_cases gz : g.1 = 0
      · rw [gz] at c2
        exact absurd (by
          rw [Int32.lt_iff_toInt_lt, nI_toInt (by omega), show (nI 0 - 1 : Int32).toInt = -1 from rfl]; omega) c2
      · rw [show g.1 = (g.1 - 1) + 1 by omega, nI_pred, nI_ltI (by omega) (by omega)] at c2
        omega
    · rw [em, show g.1 = (g.1 - 1) + 1 by omega, nI_pred]
      exact ⟨nI_pos (by omega), nI_nlt (by omega) (by omega)⟩
  refine i_needPipe hg hC.2.1.1 (fun m hm em => ?_) (fun a => hX σ (fun τ' hF K2 X2 hK2 => ?_))
  · obtain ⟨P, hP⟩ : ∃ P, g.1 = P + 1 := ⟨g.1 - 1, by omega⟩
    have hw' := hC.1.dp hP (p := m) (by omega)
    rw [em]
    refine i_begin he h8 (fun τ1 hT => i_dropPipe hg hP (by omega) (ns_bg hC.2.1 hT) (fun τ2 hCh hN' => i_endC hg hC.2.1 hn he h8 h9 hT hCh hw' hN' (fun τ hcl hXx => ?_)))
    have e11 : τ.1 1 1 = nI P := by rw [hcl.2.1.1.2.1.1]; show nI (g.1 - 1) = _; rw [hP]; rfl
    rw [e11]
    refine hK _ τ (fun τ' hF K2 X2 hK2 => ?_)
    obtain ⟨r1, r2, r3⟩ := cl_rows hC hcl hF
    have c7 : τ'.1 210 7 = nI g.1 := by rw [r1 7 (by decide)]; exact hC.1.1
    refine ⟨fun z => absurd ((cond c7).mpr ⟨m, hm, em⟩) z, fun _ => i_chgM hn (by rw [r3]; exact h5) r1 r2 (fun υ hM a1 a2 a3 a4 => ⟨m, P, em, by omega, by omega, by rw [a1 7 (by decide), hC.1.1, hP], ?_⟩)⟩
    have hO0 : OpM υ (shR υ m (8 + 4 * P)) := by
      refine ⟨fun a k q => ⟨?_, rfl⟩, fun k _ _ => ?_, rfl⟩
      · show (if a = 210 ∧ 8 + 4 * m ≤ k ∧ k < 8 + 4 * P then υ.1 a (k + 4) else υ.1 a k) = υ.1 a k
        rw [if_neg (by omega)]
      · show (if 209 = 210 ∧ 8 + 4 * m ≤ k ∧ k < 8 + 4 * P then υ.1 209 (k + 4) else υ.1 209 k) = υ.1 209 k
        rw [if_neg (by omega)]
    have hO : OpM υ (wi (shR υ m (8 + 4 * P)) 210 7 (nI P)) := hO0.wi (.inl rfl)
    refine hK2 _ _ (by rw [hO.2.1 0 (by omega) (by omega)]; exact a3) (fun _ => rfl) (chg_rel hC hn he hj hcl hXx hF (hM.op hO.r) (fun k hk => by rw [hO.2.1 k (by omega) (by omega)]; exact a4 k hk) (fun k hk => ?_) (uEq_of a2))
    rw [wi_i]
    unfold dpW
    by_cases c : k = 7
    · rw [if_pos ⟨rfl, c⟩, if_pos c]
    · rw [if_neg (fun q => c q.2), if_neg c]
      show (if 210 = 210 ∧ 8 + 4 * m ≤ k ∧ k < 8 + 4 * P then υ.1 210 (k + 4) else υ.1 210 k) = _
      by_cases d : 8 + 4 * m ≤ k ∧ k < 8 + 4 * P
      · rw [if_pos ⟨rfl, d⟩, if_pos d]; exact a1 (k + 4) (by omega)
      · rw [if_neg (fun q => d q.2), if_neg d]; exact a1 k hk
  · have c7 : τ'.1 210 7 = nI g.1 := by rw [(hF 210 7 (by omega)).1, hC.2.2.1 7 (by decide)]; exact hC.1.1
    refine ⟨fun _ => hK2 _ _ (wi_at _ _ _ _) (fun q => absurd q ne10) (rel1 hR0 hF 0 1), fun z => ?_⟩
    obtain ⟨m, hm, em⟩ := (cond c7).mp z
    exact absurd em (a m hm)
theorem q_addStation {p s r f : Int32} {σ : Mem} {K : Int32 → Mem → Prop} {X : String → Mem → Prop} (hR : Rel σ) (hK : ∀ r' τ, AnI (sp_X5_addStation p s r f) 0 r' τ → K r' τ) (hX : ∀ τ, AnI (sp_X5_addStation p s r f) 1 0 τ → X xUOE τ) : sp_X4_addStation p s r f σ K X := by
  obtain ⟨w, g, u, hC, hS⟩ := hR
  have hg := hC.1.2.1.1
  obtain ⟨n, e, hn, he, h8, h9, h5, hj⟩ := hC.2.2.2.2.2.1
  refine i_srC hC.1 hC.2.1.1 ⟨fun q => ?_, fun q σ6 e6 => ?_⟩
  · have q0 := (nz7 srN_le).mp q
    obtain ⟨m, m1, m2, m3, c1, c2, c3⟩ := of_19' q0
    have hw' := hC.1.st (n := m) c1 c2 c3
    rw [m1]
    refine i_begin he h8 (fun τ1 hT => i_putSt hg (ns_bg hC.2.1 hT) m2 m3 (fun τ2 hCh hN' => i_endC hg hC.2.1 hn he h8 h9 hT hCh hw' hN' (fun τ hcl hXx => ⟨netA_1, hK _ τ (fun τ' hF K2 X2 hK2 σ2 e2 => ?_)⟩)))
    obtain ⟨r1, r2, r3⟩ := cl_rows hC hcl hF
    obtain ⟨s1, s2⟩ := tr_rows r1 r2
    rw [e2]
    refine i_tries ?_
    refine i_srM s1 (fun m' n1 n2 n3 _ => ?_) (fun z => absurd q0 z)
    rw [m1, nI_eq (by omega) (by omega)] at n3
    subst n3
    obtain ⟨d1, d2, d3⟩ := stM_is (n := m) (s := s) (r := r) (f := f) (σ := trM (wi τ' 209 0 0))
    refine ⟨fun _ => i_opK hn (by rw [r3]; exact h5) r1 r2 d1 (fun υ hM b1 b2 b3 b4 => ?_), fun z => absurd (by decide) z⟩
    have hE : ∀ k, k < 108 → υ.1 210 k = stW w m s r f k := fun k hk => by rw [b1, d2]; exact stW_cg (s1 k hk)
    refine hK2 _ _ b3 (fun _ => ?_) (chg_rel hC hn he hj hcl hXx hF hM b4 hE ?_)
    · rw [ctB_congr (fun k hk => st_same hw' hcl.2.1.1 hE hk)]
    · have h0 : uEq w u ((trM (wi τ' 209 0 0)).2.1 211) := uEq_of s2
      exact uEq_u0 h0 m3 (fun k => by rw [b2, d3])
  · rw [e6]
    refine hX _ (fun τ' hF K2 X2 hK2 σ2 e2 => ?_)
    have r1 : ∀ k, k < 108 → τ'.1 210 k = w k := fun k hk => by rw [(hF 210 k (by omega)).1, wi_i, if_neg (by omega)]; exact hC.2.2.1 k hk
    have r2 : ∀ k, k < 34 → τ'.2.1 211 k = u k := fun k hk => by rw [(hF 211 k (by omega)).2, wi_l]; exact hC.2.2.2.1 k hk
    obtain ⟨s1, s2⟩ := tr_rows r1 r2
    rw [e2]
    refine i_tries ?_
    exact i_srM s1 (fun m' n1 n2 n3 z => absurd (by rw [z]; rfl) q) (fun z => ⟨fun z' => absurd ((le7 srN_le).mp z') z, fun _ => i_X5_refuses (hK2 _ _ (wi_at _ _ _ _) (fun q => absurd q ne10) (rel_ref hC hS hF (OpM.rfl' _) (fun k hk _ => s1 k hk) s2))⟩)
theorem q_removeStation {p : Int32} {σ : Mem} {K : Int32 → Mem → Prop} {X : String → Mem → Prop} (hR : Rel σ) (hK : ∀ r' τ, AnI (sp_X5_removeStation p) 0 r' τ → K r' τ) (hX : ∀ τ, AnI (sp_X5_removeStation p) 1 0 τ → X xUOE τ) : sp_X4_removeStation p σ K X := by
  obtain ⟨w, g, u, hC, hS⟩ := hR
  have hg := hC.1.2.1.1
  obtain ⟨n, e, hn, he, h8, h9, h5, hj⟩ := hC.2.2.2.2.2.1
  refine i_rmC hC.1 hC.2.1.1 ⟨fun q => ?_, fun q σ6 e6 => ?_⟩
  · have q0 := (nz7 rmN_le).mp q
    obtain ⟨m, m1, m2, m3, m4⟩ := of_rm q0
    have hw' := hC.1.rm (n := m)
    rw [m1]
    refine i_begin he h8 (fun τ1 hT => i_dropSt hg (ns_bg hC.2.1 hT) m3 (fun τ2 hCh hN' => i_endC hg hC.2.1 hn he h8 h9 hT hCh hw' hN' (fun τ hcl hXx => ⟨netA_1, hK _ τ (fun τ' hF K2 X2 hK2 σ2 e2 => ?_)⟩)))
    obtain ⟨r1, r2, r3⟩ := cl_rows hC hcl hF
    obtain ⟨s1, s2⟩ := tr_rows r1 r2
    rw [e2]
    refine i_tries ?_
    refine i_rmM s1 (fun m' n2 n3 _ _ => ?_) (fun z => absurd q0 z)
    rw [m1, nI_eq (by omega) (by omega)] at n3
    subst n3
    have d1 : OpM (trM (wi τ' 209 0 0)) (wi (trM (wi τ' 209 0 0)) 210 (48 + 6 * m) 0) := (OpM.rfl' _).wi (.inl rfl)
    refine ⟨fun _ => i_opK hn (by rw [r3]; exact h5) r1 r2 d1 (fun υ hM b1 b2 b3 b4 => ?_), fun z => absurd (by decide) z⟩
    have hE : ∀ k, k < 108 → υ.1 210 k = uw w (48 + 6 * m) 0 k := fun k hk => by rw [b1]; exact wi_row (s1 k hk)
    refine hK2 _ _ b3 (fun _ => ?_) (chg_rel hC hn he hj hcl hXx hF hM b4 hE (uEq_of (fun k hk => by rw [b2, wi_l]; exact s2 k hk)))
    rw [ctB_congr (fun k hk => st_same hw' hcl.2.1.1 hE hk)]
  · rw [e6]
    refine hX _ (fun τ' hF K2 X2 hK2 σ2 e2 => ?_)
    have r1 : ∀ k, k < 108 → τ'.1 210 k = w k := fun k hk => by rw [(hF 210 k (by omega)).1, wi_i, if_neg (by omega)]; exact hC.2.2.1 k hk
    have r2 : ∀ k, k < 34 → τ'.2.1 211 k = u k := fun k hk => by rw [(hF 211 k (by omega)).2, wi_l]; exact hC.2.2.2.1 k hk
    obtain ⟨s1, s2⟩ := tr_rows r1 r2
    rw [e2]
    refine i_tries ?_
    exact i_rmM s1 (fun m' n2 n3 _ z => absurd (by rw [z]; rfl) q) (fun z => ⟨fun z' => absurd ((le7 rmN_le).mp z') z, fun _ => i_X5_refuses (hK2 _ _ (wi_at _ _ _ _) (fun q => absurd q ne10) (rel_ref hC hS hF (OpM.rfl' _) (fun k hk _ => s1 k hk) s2))⟩)
theorem q_setReturn {p t : Int32} {σ : Mem} {K : Int32 → Mem → Prop} {X : String → Mem → Prop} (hR : Rel σ) (hK : ∀ r τ, AnI (sp_X5_setReturn p t) 0 r τ → K r τ) (hX1 : ∀ τ, AnI (sp_X5_setReturn p t) 1 0 τ → X xNSE τ) (hX2 : ∀ τ, AnI (sp_X5_setReturn p t) 2 0 τ → X xIAE τ) : sp_X4_setReturn p t σ K X := by
  have hR0 := hR
  obtain ⟨w, g, u, hC, hS⟩ := hR
  have hg := hC.1.2.1.1
  obtain ⟨n, e, hn, he, h8, h9, h5, hj⟩ := hC.2.2.2.2.2.1
  refine i_needSt hC.1 hC.2.1.1 (fun m hm em hh => i_needRg (fun cv => ?_) (fun cv => hX2 σ (fun τ' hF K2 X2 hK2 σ2 e2 => ?_))) (fun a => hX1 σ (fun τ' hF K2 X2 hK2 σ2 e2 => ?_))
  · subst em
    have hrg : rg t 200 600 := rg_of (lo := 200) (hi := 600) (by decide) (by decide) cv
    have hin := n_inR (n := m) (N := 10) hm (by decide)
    rw [n_cl (by omega)]
    refine ⟨hin, fun v24 e24 => i_begin he h8 (fun τ1 hT => ⟨hin, fun σ38 e38 => ?_⟩)⟩
    have hCh : ChN τ1 σ38 := by rw [e38]; exact (ChN.rfl' τ1).wi (by decide) (by decide)
    refine i_endC hg hC.2.1 hn he h8 h9 hT hCh (hC.1.wr (n := m) hrg) (by rw [e38]; exact (ns_bg hC.2.1 hT).wr hg) (fun τ hcl hX => hK _ τ (fun τ' hF K2 X2 hK2 σ2 e2 => ?_))
    obtain ⟨r1, r2, r3⟩ := cl_rows hC hcl hF
    have eix : (48 + (6 * nI m)) + 2 = nI (48 + 6 * m + 2) := ix_st'
    have ecl : (nI (48 + 6 * m + 2)).toNatClampNeg = 48 + 6 * m + 2 := n_cl (by omega)
    have hin2 : vp_in (nI (48 + 6 * m + 2)) 108 := n_inR (by omega) (by decide)
    rw [e2]
    refine i_hasM (w := w) (fun k hk => by rw [wi_i, if_neg (by omega)]; exact r1 k hk) (fun m' hm' em' _ => ⟨fun _ => i_inY cv ⟨fun _ => i_chgM hn (by rw [r3]; exact h5) r1 r2 (fun υ hM a1 a2 a3 a4 => ?_), fun z => absurd z (by decide)⟩, fun z => absurd z (by decide)⟩) (fun a => absurd hh (a m hm rfl))
    rw [eix, ecl]
    refine ⟨hin2, fun v56 e56 => ⟨hin2, fun σ71 e71 => ?_⟩⟩
    have hO : OpM υ σ71 := by rw [e71]; exact (OpM.rfl' υ).wi (.inl rfl)
    refine hK2 _ _ (by rw [hO.2.1 0 (by omega) (by omega)]; exact a3) (fun _ => ?_) (chg_rel hC hn he hj hcl hX hF (hM.op hO.r) (fun k hk => by rw [hO.2.1 k (by omega) (by omega)]; exact a4 k hk) (fun j hj => ?_) ?_)
    · rw [e56, e24, a1 _ (by omega)]; exact ((hC.2.1.1.2.2.2 m hm).1 hh).2.1.symm
    · rw [e71]; exact wi_row (a1 j hj)
    · rw [e71]; exact uEq_of a2
  · rw [e2]
    exact i_hasM (rw0 hC.2.2.1 hF) (fun m' hm' em' hh' => ⟨fun _ => i_inN cv ⟨fun z => absurd rfl z, fun _ => i_X5_raises (hK2 _ _ (wi_at _ _ _ _) (fun q => absurd q ne20) (rel1 hR0 hF 0 2))⟩, fun z => absurd z (by decide)⟩) (fun a => absurd hh (a m hm em))
  · rw [e2]
    exact i_hasM (rw0 hC.2.2.1 hF) (fun m hm em hm' => absurd hm' (a m hm em)) (fun _ => ⟨fun z => absurd rfl z, fun _ => i_X5_raises (hK2 _ _ (wi_at _ _ _ _) (fun q => absurd q ne10) (rel1 hR0 hF 0 1))⟩)
theorem q_setMeter {p f t : Int32} {σ : Mem} {K : Int32 → Mem → Prop} {X : String → Mem → Prop} (hR : Rel σ) (hK : ∀ r τ, AnI (sp_X5_setMeter p f t) 0 r τ → K r τ) (hX1 : ∀ τ, AnI (sp_X5_setMeter p f t) 1 0 τ → X xNSE τ) (hX2 : ∀ τ, AnI (sp_X5_setMeter p f t) 2 0 τ → X xIAE τ) : sp_X4_setMeter p f t σ K X := by
  have hR0 := hR
  obtain ⟨w, g, u, hC, hS⟩ := hR
  have hg := hC.1.2.1.1
  obtain ⟨n, e, hn, he, h8, h9, h5, hj⟩ := hC.2.2.2.2.2.1
  refine i_needSt hC.1 hC.2.1.1 (fun m hm em hh => i_needRg (fun cv => i_needRg (fun cu => ?_) (fun cu => hX2 σ (fun τ' hF K2 X2 hK2 σ2 e2 => ?_))) (fun cv => hX2 σ (fun τ' hF K2 X2 hK2 σ2 e2 => ?_))) (fun a => hX1 σ (fun τ' hF K2 X2 hK2 σ2 e2 => ?_))
  · subst em
    have hin := n_inR (n := m) (N := 10) hm (by decide)
    rw [n_cl (by omega)]
    refine ⟨hin, fun v28 e28 => i_begin he h8 (fun τ1 hT => ⟨hin, fun σ43 e43 => ⟨hin, fun σ53 e53 => ?_⟩⟩)⟩
    rw [e43] at e53
    have hCh : ChN τ1 σ53 := by rw [e53]; exact ((ChN.rfl' τ1).wi (by decide) (by decide)).wi (by decide) (by decide)
    refine i_endC hg hC.2.1 hn he h8 h9 hT hCh (hC.1.me (n := m) cv cu) (by rw [e53]; exact (ns_bg hC.2.1 hT).me hg) (fun τ hcl hX => hK _ τ (fun τ' hF K2 X2 hK2 σ2 e2 => ?_))
    obtain ⟨r1, r2, r3⟩ := cl_rows hC hcl hF
    have eix : (48 + (6 * nI m)) + 4 = nI (48 + 6 * m + 4) := ix_st'
    have ecl : (nI (48 + 6 * m + 4)).toNatClampNeg = 48 + 6 * m + 4 := n_cl (by omega)
    have hin2 : vp_in (nI (48 + 6 * m + 4)) 108 := n_inR (by omega) (by decide)
    have eix5 : (48 + (6 * nI m)) + 5 = nI (48 + 6 * m + 5) := ix_st'
    have ecl5 : (nI (48 + 6 * m + 5)).toNatClampNeg = 48 + 6 * m + 5 := n_cl (by omega)
    have hin5 : vp_in (nI (48 + 6 * m + 5)) 108 := n_inR (by omega) (by decide)
    rw [e2]
    refine i_hasM (w := w) (fun k hk => by rw [wi_i, if_neg (by omega)]; exact r1 k hk) (fun m' hm' em' _ => ⟨fun _ => i_inY cv ⟨fun z => absurd z (by decide), fun _ => i_inY cu ⟨fun _ => i_chgM hn (by rw [r3]; exact h5) r1 r2 (fun υ hM a1 a2 a3 a4 => ?_), fun z => absurd z (by decide)⟩⟩, fun z => absurd z (by decide)⟩) (fun a => absurd hh (a m hm rfl))
    rw [eix, ecl, eix5, ecl5]
    refine ⟨hin2, fun v63 e63 => ⟨hin2, fun σ79 e79 => ⟨hin5, fun σ94 e94 => ?_⟩⟩⟩
    rw [e79] at e94
    have hO : OpM υ σ94 := by rw [e94]; exact ((OpM.rfl' υ).wi (.inl rfl)).wi (.inl rfl)
    refine hK2 _ _ (by rw [hO.2.1 0 (by omega) (by omega)]; exact a3) (fun _ => ?_) (chg_rel hC hn he hj hcl hX hF (hM.op hO.r) (fun k hk => by rw [hO.2.1 k (by omega) (by omega)]; exact a4 k hk) (fun j hj => ?_) ?_)
    · rw [e63, e28, a1 _ (by omega)]; exact ((hC.2.1.1.2.2.2 m hm).1 hh).2.2.2.1.symm
    · rw [e94]; exact wi_row (w := uw w (48 + 6 * m + 4) f) (wi_row (a1 j hj))
    · rw [e94]; exact uEq_of a2
  · rw [e2]
    exact i_hasM (rw0 hC.2.2.1 hF) (fun m' hm' em' hh' => ⟨fun _ => i_inY cv ⟨fun z => absurd z (by decide), fun _ => i_inN cu ⟨fun z => absurd rfl z, fun _ => i_X5_raises (hK2 _ _ (wi_at _ _ _ _) (fun q => absurd q ne20) (rel1 hR0 hF 0 2))⟩⟩, fun z => absurd z (by decide)⟩) (fun a => absurd hh (a m hm em))
  · rw [e2]
    exact i_hasM (rw0 hC.2.2.1 hF) (fun m' hm' em' hh' => ⟨fun _ => i_inN cv ⟨fun _ => i_X5_raises (hK2 _ _ (wi_at _ _ _ _) (fun q => absurd q ne20) (rel1 hR0 hF 0 2)), fun z => absurd rfl z⟩, fun z => absurd z (by decide)⟩) (fun a => absurd hh (a m hm em))
  · rw [e2]
    exact i_hasM (rw0 hC.2.2.1 hF) (fun m hm em hm' => absurd hm' (a m hm em)) (fun _ => ⟨fun z => absurd rfl z, fun _ => i_X5_raises (hK2 _ _ (wi_at _ _ _ _) (fun q => absurd q ne10) (rel1 hR0 hF 0 1))⟩)
theorem q_hours {p : Int32} {σ : Mem} {K : Int64 → Mem → Prop} {X : String → Mem → Prop} (hR : Rel σ) (hK : ∀ r τ, AnL (sp_X5_hours p) 0 r τ → K r τ) (hX1 : ∀ τ, AnL (sp_X5_hours p) 1 0 τ → X xIAE τ) (hX2 : ∀ τ, AnL (sp_X5_hours p) 2 0 τ → X xUOE τ) : sp_X4_hours p σ K X := by
  have hR0 := hR
  obtain ⟨w, g, u, hC, hS⟩ := hR
  have hg := hC.1.2.1.1
  refine i_needRg (fun cv => rd_sett hC hS (fun τs c R D T B S z hCτ hSt h11 hRτ hCh0 => ?_)) (fun cv => hX1 σ (fun τ' hF K2 X2 hK2 σ2 e2 => i_inN cv ⟨fun q => absurd rfl q, fun _ => i_X5_raises ?_⟩))
  · obtain ⟨n, e, hn, he, h8, h9, h5, hj⟩ := hCτ.2.2.2.2.2.1
    have hsol := hSt.sol
    refine i_hoursR hC.1 hCτ.2.1.1 hSt (fun v hv => ⟨fun t => ⟨fun _ => ?_, fun q => absurd rfl q⟩, fun t => ⟨fun q => absurd q (by decide), fun _ σ6 e6 => ?_⟩⟩)
    · refine i_begin he h8 (fun τ1 hT => i_passH hC.1 (ns_bg hCτ.2.1 hT) hSt.1.1 (hSt.2.2.cg (fun o k ho => (hT.1 _ k (by omega)).1) (fun o k ho => (hT.1 _ k (by omega)).2)) (fun τ2 hCh e1 hu => i_endC hg hCτ.2.1 hn he h8 h9 hT hCh hC.1 (hu _ hrV_is) (fun τ hcl hXx => ?_)))
      rw [hcl.2.1.2.2.1]
      refine hK _ τ (fun τ' hF K2 X2 hK2 σ2 e2 => i_inY cv ⟨fun _ => ?_, fun q => absurd q (by decide)⟩)
      obtain ⟨r1, r2, r3⟩ := cl_rows hCτ hcl hF
      obtain ⟨s1, s2⟩ := tr_rows r1 r2
      rw [e2]
      refine i_tries ?_
      refine i_hrM hC.1 s1 (fun _ => hsol) (fun q => absurd cv q) (fun _ v' hv' => ?_)
      rw [hv'.uniq hv]
      refine ⟨fun _ υ0 hO a1 a2 => ⟨fun _ => i_opK hn (by rw [r3]; exact h5) r1 r2 hO (fun υ hM b1 b2 b3 b4 => ?_), fun z => absurd (by decide) z⟩, fun z => absurd t z⟩
      have hue : uEq w (hrV w u (D R) (T R) (B 0) (S 0) p) (υ.2.1 211) := (uEq.hr (uEq_of s2) hrV_is a2).cg (fun _ _ hh => hh) b2
      exact hK2 _ _ b3 (fun _ => hue.2.1) (chg_rel hCτ hn he hj hcl hXx hF hM b4 (fun k hk => by rw [b1]; exact a1 k hk) hue)
    · rw [e6]
      refine hX2 _ (fun τ' hF K2 X2 hK2 σ2 e2 => i_inY cv ⟨fun _ => ?_, fun q => absurd q (by decide)⟩)
      have r1 : ∀ k, k < 108 → τ'.1 210 k = w k := fun k hk => by rw [(hF 210 k (by omega)).1, wi_i, if_neg (by omega)]; exact hCτ.2.2.1 k hk
      have r2 : ∀ k, k < 34 → τ'.2.1 211 k = u k := fun k hk => by rw [(hF 211 k (by omega)).2, wi_l]; exact hCτ.2.2.2.1 k hk
      obtain ⟨s1, s2⟩ := tr_rows r1 r2
      rw [e2]
      refine i_tries ?_
      refine i_hrM hC.1 s1 (fun _ => hsol) (fun q => absurd cv q) (fun _ v' hv' => ?_)
      rw [hv'.uniq hv]
      exact ⟨fun z => absurd z t, fun _ υ0 hO a1 a2 => ⟨fun z => absurd z (by decide), fun _ => i_X5_refuses (hK2 _ _ (wi_at _ _ _ _) (fun q => absurd q ne20) (rel_ref hCτ (fun _ => ⟨c, R, D, T, B, S, z, hSt⟩) hF hO (fun k hk _ => a1 k hk) (fun k hk => by rw [a2]; exact s2 k hk)))⟩⟩
  · rw [e2]
    exact hK2 _ _ (wi_at _ _ _ _) (fun q => absurd q ne10) (rel1 hR0 hF 0 1)
