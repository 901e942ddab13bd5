/-! ===== further calls that change nothing ===== -/
theorem rm_look2 {w : Nat → Int32} {g : Gr} {c : Lp} {R : Nat} {D T : Nat → Nat → Nat} {B S : Nat → Nat} {z : Int} {f : Nat → Int32} {τ0 τ : Mem} {K : Mem → Prop} {X : String → Mem → Prop} (hw : WFw w g) (hr : ∀ k, k < 108 → τ.1 210 k = w k) (hRel : RU τ0 τ) (hS : Sol w g c R D T B S z f) (h : ∀ υ : Mem, RU τ0 υ → υ.1 209 0 = τ.1 209 0 → (∀ k, k < 108 → υ.1 210 k = w k) → ReF w g c R (D R) B (T R) S z f υ → K υ) : sp_X5_looks τ K X :=
  ⟨w, g, c, R, D, T, B, S, z, f, hw, hr, hS.1, hS.2.1, hS.2.2, fun υ hM hR => h υ (hRel.um hM) (hM.2.1 0 (by omega) (by omega)) (fun k hk => by rw [hM.i210]; exact hr k hk) hR⟩
theorem i_tarC {n : Nat} {w : Nat → Int32} {g : Gr} {σ : Mem} {K : Int32 → Mem → Prop} {X : String → Mem → Prop} (hN : NR σ 1 w g) (hn : n < 10) (hh : hasW w n) (h : K (trW w n) σ) : sp_X0_tariffOf 1 (nI n) σ K X := by
  unfold sp_X0_tariffOf
  rw [n_cl (by omega), hN.1 6 (by decide), ((hN.2.2.2 n hn).1 hh).2.1]
  exact ⟨netA_1, n_inR hn (by decide), i_fqI (by decide) (by rw [hN.1 5 (by decide)]; exact i_maxI h)⟩
theorem i_tarM {n : Nat} {w : Nat → Int32} {σ : Mem} {K : Int32 → Mem → Prop} {X : String → Mem → Prop} (hr : ∀ k, k < 108 → σ.1 210 k = w k) (hn : n < 10) (h : K (trW w n) σ) : sp_X5_tariff (nI n) σ K X := by
  unfold sp_X5_tariff
  rw [show (48 + (6 * nI n)) + 2 = nI (48 + 6 * n + 2) from ix_st', n_cl (by omega), hr 6 (by decide), hr (48 + 6 * n + 2) (by omega)]
  exact ⟨n_inR (by omega) (by decide), i_fqI (by decide) (by rw [hr 5 (by decide)]; exact i_maxI h)⟩
theorem q_pipe {p v : Int32} {σ : Mem} {K : Int32 → Mem → Prop} {X : String → Mem → Prop} (hR : Rel σ) (hK : ∀ r τ, AnI (sp_X5_pipe p v) 0 r τ → K r τ) (hX1 : ∀ τ, AnI (sp_X5_pipe p v) 1 0 τ → X xIOO τ) (hX2 : ∀ τ, AnI (sp_X5_pipe p v) 2 0 τ → X xIAE τ) : sp_X4_pipe p v σ K X := by
  have hR0 := hR
  obtain ⟨w, g, u, hC, hS⟩ := hR
  have hg := hC.1.2.1.1
  refine i_needPipe hg hC.2.1.1 (fun m hm e => i_needRg (fun cv => ?_) (fun cv => hX2 σ (fun τ' hF K2 X2 hK2 σ2 e2 => ?_))) (fun a => hX1 σ (fun τ' hF K2 X2 hK2 σ2 e2 => ?_))
  · subst e
    obtain ⟨j, hj, ej⟩ := sm_of (m := 4) rfl (by decide) cv
    subst ej
    have hE : ∀ {k : Nat}, k < 1000 → (nI j = nI k ↔ j = k) := fun hk => nI_eq (by omega) (by omega)
    have hin := n_inR (n := m) (N := 10) (by omega) (by decide)
    have key : ∀ k, k < 4 → j = k → ∀ r : Int32, r = w (8 + 4 * m + k) → AnI (sp_X5_pipe (nI m) (nI j)) 0 r σ := by
      intro k hk ek r er τ' hF K2 X2 hK2 σ2 e2
      rw [e2]
      refine i_isPipe hC.1 (rw0 hC.2.2.1 hF) (fun m' hm' em' => ⟨fun _ => i_inY cv ⟨fun _ => ⟨fun z => ?_, fun _ => i_X5_of (by omega) ?_⟩, fun z => absurd z (by decide)⟩, fun z => absurd z (by decide)⟩) (fun a => absurd rfl (a m hm))
      · rw [show (4 : Int32) = nI 4 from rfl, nI_leI (by omega) (by omega)] at z; omega
      · refine hK2 _ _ (wi_at _ _ _ _) (fun _ => ?_) (rel0 hR0 hF 0)
        rw [rw0 hC.2.2.1 hF _ (by omega), er, ek]
    have hp := hC.1.2.2.2.2.1 m hm
    have hc := hC.2.1.1.2.1.2 m hm
    have hc2 := hC.2.1.1.2.2.1 m hm
    rw [n_cl (by omega)]
    refine ⟨fun q => ⟨hin, hK _ σ (key 0 (by decide) ((hE (by decide)).mp q) _ (by rw [hc.1]; exact hp.1.symm))⟩, fun q => ⟨hin, hK _ σ (key 1 (by decide) ((hE (k := 1) (by decide)).mp q) _ (by rw [hc.2]; exact hp.2.1.symm))⟩, fun q => ⟨hin, hK _ σ (key 2 (by decide) ((hE (k := 2) (by decide)).mp q) _ hc2.1)⟩, fun q => ⟨hin, hK _ σ (key 3 (by decide) ((hE (k := 3) (by decide)).mp q) _ hc2.2)⟩, fun q0 q1 q2 q3 => ?_⟩
    have e4 : j = 4 := by
      have a0 : j ≠ 0 := fun z => q0 (by rw [z]; rfl)
      have a1 : j ≠ 1 := fun z => q1 (by rw [z]; rfl)
      have a2 : j ≠ 2 := fun z => q2 (by rw [z]; rfl)
      have a3 : j ≠ 3 := fun z => q3 (by rw [z]; rfl)
      omega
    subst e4
    refine rd_sett hC hS (fun τ c R D T B S z hCτ hSt h11 hRτ hCh => ?_)
    have hT := bfs_tre hC.1.2.1 (src := 0) (by decide)
    have hiff := hSt.1.2.2.1 m (by omega)
    have key4 : ∀ r : Int32, r = (if qB c m = true then 1 else 0) → AnI (sp_X5_pipe (nI m) (nI 4)) 0 r τ := by
      intro r er τ' hF K2 X2 hK2 σ2 e2
      rw [e2]
      have hr' := rw0 (v := 0) hCτ.2.2.1 hF
      refine i_isPipe hC.1 hr' (fun m' hm' em' => ⟨fun _ => i_inY cv ⟨fun _ => ⟨fun _ => ⟨g, c, hC.1.2.1, GM_of hC.1 hr', hSt.1.1, fun υ hM hFa hLo => i_X5_isLoopPipe hC.1.2.1 hT hSt.1.1.1 hLo (by omega) ?_⟩, fun z => absurd (by decide) z⟩, fun z => absurd z (by decide)⟩, fun z => absurd z (by decide)⟩) (fun a => absurd rfl (a m hm))
      have hRυ : RU τ' υ := (rel0 hRτ hF 0).um hM
      have h0 : υ.1 209 0 = 0 := by rw [hM.2.1 0 (by omega) (by omega), wi_at]
      by_cases q : qB c m = true
      · rw [if_pos q] at er ⊢
        exact ⟨fun z => absurd z (by decide), fun _ => hK2 _ _ h0 (fun _ => er.symm) hRυ⟩
      · rw [if_neg q] at er ⊢
        exact ⟨fun _ => hK2 _ _ h0 (fun _ => er.symm) hRυ, fun z => absurd rfl z⟩
    refine ⟨hin, fun q => hK _ τ (key4 0 ?_), fun q => hK _ τ (key4 1 ?_)⟩
    · rw [if_neg (fun z => (hiff.mpr (qB_iff.mp z)) q)]
    · rw [if_pos (qB_iff.mpr (hiff.mp q))]
  · rw [e2]
    exact i_isPipe hC.1 (rw0 hC.2.2.1 hF) (fun m' hm' em' => ⟨fun _ => i_inN cv ⟨fun z => absurd rfl z, fun _ => i_X5_raises (hK2 _ _ (wi_at _ _ _ _) (fun q => absurd q ne20) (rel1 hR0 hF 0 2))⟩, fun z => absurd z (by decide)⟩) (fun a => absurd e (a m hm))
  · rw [e2]
    exact i_isPipe hC.1 (rw0 hC.2.2.1 hF) (fun m' hm' em' => absurd em' (a m' hm')) (fun _ => ⟨fun q => absurd rfl q, fun _ => i_X5_raises (hK2 _ _ (wi_at _ _ _ _) (fun q => absurd q ne10) (rel1 hR0 hF 0 1))⟩)
theorem q_station {p v : Int32} {σ : Mem} {K : Int32 → Mem → Prop} {X : String → Mem → Prop} (hR : Rel σ) (hK : ∀ r τ, AnI (sp_X5_station p v) 0 r τ → K r τ) (hX1 : ∀ τ, AnI (sp_X5_station p v) 1 0 τ → X xNSE τ) (hX2 : ∀ τ, AnI (sp_X5_station p v) 2 0 τ → X xIAE τ) : sp_X4_station p v σ K X := by
  have hR0 := hR
  obtain ⟨w, g, u, hC, hS⟩ := hR
  refine i_needSt hC.1 hC.2.1.1 (fun n hn e hh => i_needRg (fun cv => ?_) (fun cv => hX2 σ (fun τ' hF K2 X2 hK2 σ2 e2 => ?_))) (fun a => hX1 σ (fun τ' hF K2 X2 hK2 σ2 e2 => ?_))
  · subst e
    obtain ⟨j, hj, ej⟩ := sm_of (m := 7) rfl (by decide) cv
    subst ej
    have hE : ∀ {k : Nat}, k < 1000 → (nI j = nI k ↔ j = k) := fun hk => nI_eq (by omega) (by omega)
    have hin := n_inR (n := n) (N := 10) hn (by decide)
    have no : ∀ {P : Prop}, (∀ m, m < 10 → nI n = nI m → ¬ hasW w m) → P := fun a => absurd hh (a n hn rfl)
    have key : ∀ k, k < 5 → j = k → ∀ r : Int32, r = w (48 + 6 * n + k + 1) → AnI (sp_X5_station (nI n) (nI j)) 0 r σ := by
      intro k hk ek r er τ' hF K2 X2 hK2 σ2 e2
      rw [e2]
      refine i_hasM (rw0 hC.2.2.1 hF) (fun m hm em hm' => ⟨fun _ => i_inY cv ⟨fun _ => ⟨fun z => ?_, fun _ => ?_⟩, fun z => absurd z (by decide)⟩, fun z => absurd z (by decide)⟩) (fun a => no a)
      · rw [show (5 : Int32) = nI 5 from rfl, nI_leI (by omega) (by omega)] at z; omega
      · have ei : (((48 + (6 * nI n)) + nI j) + 1) = nI (48 + 6 * n + j + 1) := by rw [ix_st', nI_1]
        rw [ei, n_cl (by omega)]
        refine ⟨n_inR (by omega) (by decide), hK2 _ _ (wi_at _ _ _ _) (fun _ => ?_) (rel0 hR0 hF 0)⟩
        rw [rw0 hC.2.2.1 hF _ (by omega), er, ek]
    obtain ⟨b1, b2, b3, b4, b5⟩ := (hC.2.1.1.2.2.2 n hn).1 hh
    rw [n_cl (by omega)]
    refine ⟨fun q => ⟨hin, hK _ σ (key 0 (by decide) ((hE (by decide)).mp q) _ b1)⟩, fun q => ⟨hin, hK _ σ (key 1 (by decide) ((hE (k := 1) (by decide)).mp q) _ b2)⟩, fun q => ⟨hin, hK _ σ (key 2 (by decide) ((hE (k := 2) (by decide)).mp q) _ b3)⟩, fun q => ⟨hin, hK _ σ (key 3 (by decide) ((hE (k := 3) (by decide)).mp q) _ b4)⟩, fun q => ⟨hin, hK _ σ (key 4 (by decide) ((hE (k := 4) (by decide)).mp q) _ b5)⟩, fun q => ?_, fun q => ?_, fun q0 q1 q2 q3 q4 q5 q6 => ?_⟩
    · have e5 := (hE (k := 5) (by decide)).mp q
      subst e5
      refine i_X0_wantedHeat netA_1 hC.1 hC.2.1.1 hn hh (hK _ σ (fun τ' hF K2 X2 hK2 σ2 e2 => ?_))
      rw [e2]
      have hr' := rw0 (v := 0) hC.2.2.1 hF
      refine i_hasM hr' (fun m hm em hm' => ⟨fun _ => i_inY cv ⟨fun _ => ⟨fun _ => ⟨fun z => absurd rfl z, fun _ => i_X5_wants hC.1 hr' hn hh (hK2 _ _ (wi_at _ _ _ _) (fun _ => rfl) (rel0 hR0 hF 0))⟩, fun z => absurd (by decide) z⟩, fun z => absurd z (by decide)⟩, fun z => absurd z (by decide)⟩) (fun a => no a)
    · have e6 := (hE (k := 6) (by decide)).mp q
      subst e6
      refine rd_sett hC hS (fun τ c R D T B S z hCτ hSt h11 hRτ hCh => ⟨hin, hK _ τ (fun τ' hF K2 X2 hK2 σ2 e2 => ?_)⟩)
      rw [e2]
      have hr' := rw0 (v := 0) hCτ.2.2.1 hF
      refine i_hasM hr' (fun m hm em hm' => ⟨fun _ => i_inY cv ⟨fun _ => ⟨fun _ => ⟨fun _ => ⟨fun _ => rm_look hC.1 hCτ.2.2.1 hRτ hSt.sol hF (fun υ hRυ h0 hr hs hRe => ?_), fun z => absurd z (by decide)⟩, fun z => absurd z (by decide)⟩, fun z => absurd (by decide) z⟩, fun z => absurd z (by decide)⟩, fun z => absurd z (by decide)⟩) (fun a => no a)
      rw [n_cl (by omega)]
      refine ⟨hin, hK2 _ _ h0 (fun _ => ?_) hRυ⟩
      rw [hRe.2.2.1 n hn]; exact (hSt.2.2.2.1 n hn).1.symm
    · have e7 : j = 7 := by
        have a0 : j ≠ 0 := fun z => q0 (by rw [z]; rfl)
        have a1 : j ≠ 1 := fun z => q1 (by rw [z]; rfl)
        have a2 : j ≠ 2 := fun z => q2 (by rw [z]; rfl)
        have a3 : j ≠ 3 := fun z => q3 (by rw [z]; rfl)
        have a4 : j ≠ 4 := fun z => q4 (by rw [z]; rfl)
        have a5 : j ≠ 5 := fun z => q5 (by rw [z]; rfl)
        have a6 : j ≠ 6 := fun z => q6 (by rw [z]; rfl)
        omega
      subst e7
      refine i_tarC hC.2.1.1 hn hh (hK _ σ (fun τ' hF K2 X2 hK2 σ2 e2 => ?_))
      rw [e2]
      have hr' := rw0 (v := 0) hC.2.2.1 hF
      exact i_hasM hr' (fun m hm em hm' => ⟨fun _ => i_inY cv ⟨fun _ => ⟨fun _ => ⟨fun _ => ⟨fun z => absurd rfl z, fun _ => i_tarM hr' hn (hK2 _ _ (wi_at _ _ _ _) (fun _ => rfl) (rel0 hR0 hF 0))⟩, fun z => absurd z (by decide)⟩, fun z => absurd (by decide) z⟩, fun z => absurd z (by decide)⟩, fun z => absurd z (by decide)⟩) (fun a => no a)
  · rw [e2]
    exact i_hasM (rw0 hC.2.2.1 hF) (fun m hm em hm' => ⟨fun _ => i_inN cv ⟨fun z => absurd rfl z, fun _ => i_X5_raises (hK2 _ _ (wi_at _ _ _ _) (fun q => absurd q ne20) (rel1 hR0 hF 0 2))⟩, fun z => absurd z (by decide)⟩) (fun a => absurd hh (a n hn e))
  · rw [e2]
    exact i_hasM (rw0 hC.2.2.1 hF) (fun m hm em hm' => absurd hm' (a m hm em)) (fun _ => ⟨fun z => absurd rfl z, fun _ => i_X5_raises (hK2 _ _ (wi_at _ _ _ _) (fun q => absurd q ne10) (rel1 hR0 hF 0 1))⟩)
theorem q_meter {p v : Int32} {σ : Mem} {K : Int64 → Mem → Prop} {X : String → Mem → Prop} (hR : Rel σ) (hK : ∀ r τ, AnL (sp_X5_meter p v) 0 r τ → K r τ) (hX1 : ∀ τ, AnL (sp_X5_meter p v) 1 0 τ → X xNSE τ) (hX2 : ∀ τ, AnL (sp_X5_meter p v) 2 0 τ → X xIAE τ) : sp_X4_meter p v σ K X := by
  have hR0 := hR
  obtain ⟨w, g, u, hC, hS⟩ := hR
  refine i_needSt hC.1 hC.2.1.1 (fun n hn e hh => i_needRg (fun cv => ?_) (fun cv => hX2 σ (fun τ' hF K2 X2 hK2 σ2 e2 => ?_))) (fun a => hX1 σ (fun τ' hF K2 X2 hK2 σ2 e2 => ?_))
  · subst e
    obtain ⟨j, hj, ej⟩ := sm_of (m := 3) rfl (by decide) cv
    subst ej
    have hE : ∀ {k : Nat}, k < 1000 → (nI j = nI k ↔ j = k) := fun hk => nI_eq (by omega) (by omega)
    have hin := n_inR (n := n) (N := 10) hn (by decide)
    have no : ∀ {P : Prop}, (∀ m, m < 10 → nI n = nI m → ¬ hasW w m) → P := fun a => absurd hh (a n hn rfl)
    have key : ∀ k, k < 3 → j = k → ∀ r : Int64, r = u (10 * k + n) → AnL (sp_X5_meter (nI n) (nI j)) 0 r σ := by
      intro k hk ek r er τ' hF K2 X2 hK2 σ2 e2
      rw [e2]
      refine i_hasM (rw0 hC.2.2.1 hF) (fun m hm em hm' => ⟨fun _ => i_inY cv ⟨fun _ => ⟨fun z => ?_, fun _ => ?_⟩, fun z => absurd z (by decide)⟩, fun z => absurd z (by decide)⟩) (fun a => no a)
      · rw [show (3 : Int32) = nI 3 from rfl, nI_leI (by omega) (by omega)] at z; omega
      · have ei : (10 * nI j) + nI n = nI (10 * j + n) := by rw [show (10 : Int32) = nI 10 from rfl, nI_mul, nI_add]
        rw [ei, n_cl (by omega)]
        refine ⟨n_inR (by omega) (by decide), hK2 _ _ (wi_at _ _ _ _) (fun _ => ?_) (rel0 hR0 hF 0)⟩
        rw [wi_l, (hF 211 _ (by omega)).2, hC.2.2.2.1 _ (by omega), er, ek]
    obtain ⟨b1, b2, b3⟩ := hC.2.1.2.1 n hn hh
    rw [n_cl (by omega)]
    refine ⟨fun q => ⟨hin, hK _ σ (key 0 (by decide) ((hE (by decide)).mp q) _ (by rw [show 10 * 0 + n = n by omega]; exact b1))⟩, fun q => ⟨hin, hK _ σ (key 1 (by decide) ((hE (k := 1) (by decide)).mp q) _ b2)⟩, fun q => ⟨hin, hK _ σ (key 2 (by decide) ((hE (k := 2) (by decide)).mp q) _ b3)⟩, fun q0 q1 q2 => ?_⟩
    have e3 : j = 3 := by
      have a0 : j ≠ 0 := fun z => q0 (by rw [z]; rfl)
      have a1 : j ≠ 1 := fun z => q1 (by rw [z]; rfl)
      have a2 : j ≠ 2 := fun z => q2 (by rw [z]; rfl)
      omega
    subst e3
    refine rd_sett hC hS (fun τ c R D T B S z hCτ hSt h11 hRτ hCh => ?_)
    have d1 := hSt.2.2.2.1 n hn
    have d2 := hSt.2.2.2.2.1 n hn
    refine i_X2_stationHeat staA_53 netA_1 hC.1 hCτ.2.1.1 hn hh ⟨d1.1, d1.2.1⟩ ⟨d2.1, d2.2.1.2⟩ (hK _ τ (fun τ' hF K2 X2 hK2 σ2 e2 => ?_))
    rw [e2]
    have hr' := rw0 (v := 0) hCτ.2.2.1 hF
    have hsol := hSt.sol
    exact i_hasM hr' (fun m hm em hm' => ⟨fun _ => i_inY cv ⟨fun _ => ⟨fun _ => rm_look hC.1 hCτ.2.2.1 hRτ hsol hF (fun υ hRυ h0 hr hs hRe => i_X5_heat hC.1 hr hn ⟨hRe.2.2.1 n hn, (drD hC.1 hsol.2.1 hn).1⟩ ⟨(hRe.2.2.2.2.2.2.1 n hn).1, (hsol.2.2.2.2 n hn).1.2.2⟩ (hK2 _ _ h0 (fun _ => rfl) hRυ)), fun z => absurd (by decide) z⟩, fun z => absurd z (by decide)⟩, fun z => absurd z (by decide)⟩) (fun a => no a)
  · rw [e2]
    exact i_hasM (rw0 hC.2.2.1 hF) (fun m hm em hm' => ⟨fun _ => i_inN cv ⟨fun z => absurd rfl z, fun _ => i_X5_raises (hK2 _ _ (wi_at _ _ _ _) (fun q => absurd q ne20) (rel1 hR0 hF 0 2))⟩, fun z => absurd z (by decide)⟩) (fun a => absurd hh (a n hn e))
  · rw [e2]
    exact i_hasM (rw0 hC.2.2.1 hF) (fun m hm em hm' => absurd hm' (a m hm em)) (fun _ => ⟨fun z => absurd rfl z, fun _ => i_X5_raises (hK2 _ _ (wi_at _ _ _ _) (fun q => absurd q ne10) (rel1 hR0 hF 0 1))⟩)
theorem q_head {p : Int32} {σ : Mem} {K : Int64 → Mem → Prop} {X : String → Mem → Prop} (hR : Rel σ) (hK : ∀ r τ, AnL (sp_X5_head p) 0 r τ → K r τ) (hX : ∀ τ, AnL (sp_X5_head p) 1 0 τ → X xNSE τ) : sp_X4_head p σ K X := by
  obtain ⟨w, g, u, hC, hS⟩ := hR
  have hT := bfs_tre hC.1.2.1 (src := 0) (by decide)
  refine rd_sett hC hS (fun τ c R D T B S z hCτ hSt h11 hRτ hCh => i_needConn hT hSt.1 (fun n hn e => ?_) (fun a => hX τ (fun τ' hF K2 X2 hK2 σ2 e2 => ?_)))
  · subst e
    have h10 := hT.lt hn
    have hin := n_inR (n := n) (N := 10) h10 (by decide)
    rw [n_cl (by omega)]
    refine ⟨hin, hK _ τ (fun τ' hF K2 X2 hK2 σ2 e2 => ?_)⟩
    rw [e2]
    have hr' := rw0 (v := 0) hCτ.2.2.1 hF
    have hsol := hSt.sol
    refine i_joined hC.1 hr' (fun m υ1 hm em hM hFa => ⟨fun _ => rm_look2 hC.1 (fun k hk => by rw [hM.i210]; exact hr' k hk) ((rel0 hRτ hF 0).um hM) hsol (fun υ hRυ h0 hr hRe => ?_), fun z => absurd z (by decide)⟩) (fun a => absurd rfl (a n hn))
    refine ⟨w, g, c, R, D R, B, T R, S, z, _, n, hC.1, hr, hsol.1, hsol.2.2, hRe, rfl, hn, hK2 _ _ ?_ (fun _ => ?_) hRυ⟩
    · rw [h0, hM.2.1 0 (by omega) (by omega), wi_at]
    · exact (hSt.2.2.2.2.2.2.2.2.1 n hn).symm
  · rw [e2]
    exact i_joined hC.1 (rw0 hCτ.2.2.1 hF) (fun m υ1 hm em => absurd em (a m hm)) (fun _ υ1 hM => ⟨fun z => absurd rfl z, fun _ => i_X5_raises (hK2 _ _ (wi_at _ _ _ _) (fun q => absurd q ne10) (((rel0 hRτ hF 0).um hM).u0 1))⟩)
theorem q_distance {p : Int32} {σ : Mem} {K : Int32 → Mem → Prop} {X : String → Mem → Prop} (hR : Rel σ) (hK : ∀ r τ, AnI (sp_X5_distance p) 0 r τ → K r τ) (hX : ∀ τ, AnI (sp_X5_distance p) 1 0 τ → X xNSE τ) : sp_X4_distance p σ K X := by
  obtain ⟨w, g, u, hC, hS⟩ := hR
  have hT := bfs_tre hC.1.2.1 (src := 0) (by decide)
  refine rd_sett hC hS (fun τ c R D T B S z hCτ hSt h11 hRτ hCh => i_needConn hT hSt.1 (fun n hn e => ?_) (fun a => hX τ (fun τ' hF K2 X2 hK2 σ2 e2 => ?_)))
  · subst e
    have h10 := hT.lt hn
    have hin := n_inR (n := n) (N := 10) h10 (by decide)
    rw [n_cl (by omega)]
    refine ⟨hin, hK _ τ (fun τ' hF K2 X2 hK2 σ2 e2 => ?_)⟩
    rw [e2]
    have hr' := rw0 (v := 0) hCτ.2.2.1 hF
    refine i_joined hC.1 hr' (fun m υ1 hm em hM hFa => ⟨fun z => absurd z (by decide), fun _ => ?_⟩) (fun a => absurd rfl (a n hn))
    rw [n_cl (by omega)]
    refine ⟨hin, hK2 _ _ (by rw [hM.2.1 0 (by omega) (by omega), wi_at]) (fun _ => ?_) ((rel0 hRτ hF 0).um hM)⟩
    rw [hFa n h10]; exact (hSt.1.2.2.2.2.1 n h10).symm
  · rw [e2]
    exact i_joined hC.1 (rw0 hCτ.2.2.1 hF) (fun m υ1 hm em => absurd em (a m hm)) (fun _ υ1 hM => ⟨fun _ => i_X5_raises (hK2 _ _ (wi_at _ _ _ _) (fun q => absurd q ne10) (((rel0 hRτ hF 0).um hM).u0 1)), fun z => absurd rfl z⟩)
theorem q_isConnected {p : Int32} {σ : Mem} {K : Int32 → Mem → Prop} {X : String → Mem → Prop} (hR : Rel σ) (hK : ∀ r τ, (r = 0 ∨ r = 1) → AnI (sp_X5_isConnected p) 0 r τ → K r τ) (hX : ∀ τ, AnI (sp_X5_isConnected p) 1 0 τ → X xIOO τ) : sp_X4_isConnected p σ K X := by
  have hR0 := hR
  obtain ⟨w, g, u, hC, hS⟩ := hR
  have hT := bfs_tre hC.1.2.1 (src := 0) (by decide)
  refine i_needNode (fun n hn e => rd_sett hC hS (fun τ c R D T B S z hCτ hSt h11 hRτ hCh => ?_)) (fun a => hX σ (fun τ' hF K2 X2 hK2 => ?_))
  · subst e
    have hin := n_inR (n := n) (N := 10) hn (by decide)
    rw [n_cl (by omega), hSt.1.2.2.2.2.1 n hn, fI_lt10 hT n]
    have nb0 : narrow .boolean (.int 0) = .int 0 := rfl
    have nb1 : narrow .boolean (.int 1) = .int 1 := rfl
    refine ⟨hin, fun q => hK _ τ (.inl rfl) (fun τ' hF K2 X2 hK2 => ?_), fun q => hK _ τ (.inr rfl) (fun τ' hF K2 X2 hK2 => ?_)⟩
    · refine i_isNodeM (fun m hm em => ⟨fun z => absurd z (by decide), fun _ σ13 e13 => ?_⟩) (fun a => absurd rfl (a n hn))
      rw [e13]
      refine i_joined hC.1 (rw0 hCτ.2.2.1 hF) (fun m υ1 hm em => absurd hm (fun z => q ?_)) (fun _ υ1 hM => ⟨nb0, hK2 _ _ (by rw [hM.2.1 0 (by omega) (by omega), wi_at]) (fun _ => rfl) ((rel0 hRτ hF 0).um hM)⟩)
      rw [nI_eq (by omega) (by have := hT.lt hm; omega)] at em
      rw [em]; exact hm
    · refine i_isNodeM (fun m hm em => ⟨fun z => absurd z (by decide), fun _ σ13 e13 => ?_⟩) (fun a => absurd rfl (a n hn))
      rw [e13]
      exact i_joined hC.1 (rw0 hCτ.2.2.1 hF) (fun m υ1 hm em hM _ => ⟨nb1, hK2 _ _ (by rw [hM.2.1 0 (by omega) (by omega), wi_at]) (fun _ => rfl) ((rel0 hRτ hF 0).um hM)⟩) (fun a => absurd rfl (a n (Classical.not_not.mp q)))
  · refine i_isNodeM (fun m hm em => absurd em (a m hm)) (fun _ => ⟨fun _ σ13 e13 => ?_, fun z => absurd rfl z⟩)
    rw [e13]
    exact i_joined hC.1 (rw0 hC.2.2.1 hF) (fun m υ1 hm em => absurd em (a m (hT.lt hm))) (fun _ υ1 hM => ⟨rfl, hK2 _ _ (by rw [hM.2.1 0 (by omega) (by omega), wi_at]) (fun q => absurd q ne10) ((rel0 hR0 hF 1).um hM)⟩)
theorem q_loop {p : Int32} {σ : Mem} {K : Int32 → Mem → Prop} {X : String → Mem → Prop} (hR : Rel σ) (hK : ∀ r τ, AnI (sp_X5_loop p) 0 r τ → K r τ) (hX : ∀ τ, AnI (sp_X5_loop p) 1 0 τ → X xNSE τ) : sp_X4_loop p σ K X := by
  obtain ⟨w, g, u, hC, hS⟩ := hR
  have hT := bfs_tre hC.1.2.1 (src := 0) (by decide)
  refine rd_sett hC hS (fun τ c R D T B S z hCτ hSt h11 hRτ hCh => ?_)
  have hc10 : c.1 ≤ 10 := hSt.1.1.1.le hT
  have hl := hSt.1.2.1
  have fin : ∀ (τ' : Mem) (hF : FO τ τ') (Q : Mem → Prop) (X2 : String → Mem → Prop), (∀ υ, υ.1 209 0 = 0 → RU τ' υ → LoM c υ → Q υ) → sp_X5_findsLoop (wi τ' 209 0 0) Q X2 := fun τ' hF Q X2 hQ => ⟨g, c, hC.1.2.1, GM_of hC.1 (rw0 hCτ.2.2.1 hF), hSt.1.1, fun υ hM _ hLo => hQ υ (by rw [hM.2.1 0 (by omega) (by omega), wi_at]) ((rel0 hRτ hF 0).um hM) hLo⟩
  have bad : (∀ i, i < c.1 → p ≠ nI i) → AnI (sp_X5_loop p) 1 0 τ := by
    intro hb τ' hF K2 X2 hK2 σ2 e2
    rw [e2]
    refine fin _ hF _ _ (fun υ h0 hRυ hLo => ?_)
    rw [hLo.1]
    refine i_inN (fun z => ?_) ⟨fun _ => i_X5_raises (hK2 _ _ (wi_at _ _ _ _) (fun q => absurd q ne10) (hRυ.u0 1)), fun z => absurd rfl z⟩
    obtain ⟨m, hm, e⟩ := nI_of z.1
    have z2 := z.2
    rw [e] at z2
    by_cases gz : c.1 = 0
    · rw [gz] at z2
      exact absurd (by
        rw [Int32.lt_iff_toInt_lt, nI_toInt (by omega), show (nI 0 - 1 : Int32).toInt = -1 from rfl]; omega) z2
    · rw [show c.1 = (c.1 - 1) + 1 by omega, nI_pred, nI_ltI (by omega) (by omega)] at z2
      exact hb m (by omega) e
  rw [hl.1]
  refine ⟨fun q => hX τ (bad (fun i hi e => ?_)), fun q => ⟨fun q2 => ?_, fun q2 => hX τ (bad (fun i hi e => q2 ?_))⟩⟩
  · rw [e] at q; exact nI_pos (by omega) q
  · obtain ⟨m, hm, e⟩ := nI_of q
    subst e
    rw [nI_ltI (by omega) (by omega)] at q2
    rw [n_cl (by omega)]
    have hin := n_inR (n := m) (N := 10) (by omega) (by decide)
    refine ⟨hin, hK _ τ (fun τ' hF K2 X2 hK2 σ2 e2 => ?_)⟩
    rw [e2]
    refine fin _ hF _ _ (fun υ h0 hRυ hLo => ?_)
    rw [hLo.1, show c.1 = (c.1 - 1) + 1 by omega, nI_pred]
    refine i_inY ⟨nI_pos (by omega), nI_nlt (by omega) (by omega)⟩ ⟨fun z => absurd z (by decide), fun _ => ⟨hin, ?_⟩⟩
    rw [n_cl (by omega)]
    exact hK2 _ _ h0 (fun _ => by rw [(hLo.2 m q2).1, (hl.2 m q2).1]) hRυ
  · rw [e, nI_ltI (by omega) (by omega)]; exact hi
theorem q_part {p : Int32} {σ : Mem} {K : Int32 → Mem → Prop} {X : String → Mem → Prop} (hR : Rel σ) (hK : ∀ r τ, AnI (sp_X5_part p) 0 r τ → K r τ) (hX : ∀ τ, AnI (sp_X5_part p) 1 0 τ → X xIOO τ) : sp_X4_part p σ K X := by
  have hR0 := hR
  obtain ⟨w, g, u, hC, hS⟩ := hR
  have hr' : ∀ {τ' : Mem}, FO σ τ' → ∀ k, k < 108 → τ'.1 210 k = w k := fun hF k hk => by rw [(hF 210 k (by omega)).1]; exact hC.2.2.1 k hk
  refine i_needNode (fun n hn e => ⟨netA_1, g, n, hC.1.2.1, hC.2.1.1.2.1, hn, e, fun y hy => hK _ σ (fun τ' hF K2 X2 hK2 => ?_)⟩) (fun a => hX σ (fun τ' hF K2 X2 hK2 => ?_))
  · refine ⟨g, hC.1.2.1, GM_of hC.1 (hr' hF), fun m y' υ hm em hM hy' => hK2 _ _ (by rw [hM.2.1 0 (by omega) (by omega), wi_at]) (fun _ => ?_) ((rel0 hR0 hF 0).um hM), fun z => absurd (by rw [e]; exact node_in hn) z⟩
    rw [e, nI_eq (by omega) (by omega)] at em
    rw [← em] at hy'
    exact hy'.eq hy
  · exact ⟨g, hC.1.2.1, GM_of hC.1 (hr' hF), fun m y' υ hm em => absurd em (a m hm), fun _ => hK2 _ _ (wi_at _ _ _ _) (fun q => absurd q ne10) (rel1 hR0 hF 0 1)⟩
theorem q_suspect {σ : Mem} {K : Int32 → Mem → Prop} {X : String → Mem → Prop} (hR : Rel σ) (hK : ∀ r τ, AnI sp_X5_suspect 0 r τ → K r τ) (hX : ∀ τ, AnI sp_X5_suspect 1 0 τ → X xNSE τ) : sp_X4_suspect σ K X := by
  have hR0 := hR
  obtain ⟨w, g, u, hC, hS⟩ := hR
  have es : ∀ {τ' : Mem}, FO σ τ' → sus (stB τ') (dvM τ') 10 = sus (stC σ 1) (dvC σ) 10 := fun {τ'} hF => by
    have hb : ∀ k, k < 10 → stB τ' k = stC σ 1 k := fun k hk => by
      have e1 : τ'.1 210 (48 + 6 * k) = w (48 + 6 * k) := by rw [(hF 210 _ (by omega)).1]; exact hC.2.2.1 _ (by omega)
      unfold stB stC
      rw [e1]
      by_cases hh : hasW w k
      · have := (hC.2.1.1.2.2.2 k hk).1 hh
        obtain ⟨f0, f1, f2⟩ := (hC.1.2.2.2.2.2.2.2.2.2.2.2.2 k hk hh).1.val (by decide)
        rw [decide_eq_true (show 1 ≤ k ∧ w (48 + 6 * k) = 1 from hh), this.1, f0, decide_eq_true (nI_nle (by omega) (by omega))]
      · have := (hC.2.1.1.2.2.2 k hk).2 hh
        rw [decide_eq_false (show ¬ (1 ≤ k ∧ w (48 + 6 * k) = 1) from hh), this, decide_eq_false (by decide)]
    refine sus_congr hb (fun k hk hs => ?_)
    have hh : hasW w k := by
      apply Classical.byContradiction
      intro q
      have := (hC.2.1.1.2.2.2 k hk).2 q
      unfold stC at hs
      rw [this] at hs
      exact absurd hs (by decide)
    obtain ⟨b1, b2, b3⟩ := hC.2.1.2.1 k hk hh
    unfold dvM dvC
    rw [(hF 211 _ (by omega)).2, (hF 211 _ (by omega)).2, hC.2.2.2.1 k (by omega), hC.2.2.2.1 (10 + k) (by omega), ← b1, ← b2]
  refine ⟨fun c => hK _ σ (fun τ' hF K2 X2 hK2 => ?_), fun c => hX σ (fun τ' hF K2 X2 hK2 => ?_)⟩
  · unfold sp_X5_suspect
    rw [es hF]
    exact ⟨fun _ => hK2 _ _ (wi_at _ _ _ _) (fun _ => rfl) (rel0 hR0 hF 0), fun z => absurd c z⟩
  · unfold sp_X5_suspect
    rw [es hF]
    exact ⟨fun z => absurd z c, fun _ => hK2 _ _ (wi_at _ _ _ _) (fun q => absurd q ne10) (rel1 hR0 hF 0 1)⟩
