/-! ===== trial, best return, accounts, counts ===== -/
/-- the heat that is made, as both sides find it -/
theorem made_num {b x s : Nat} (hb : b ≤ 9990) (hx : x ≤ 1200) (hs : s ≤ 1200) : lN b * (nI x - nI s).toInt64 = zL ((b : Int) * ((x : Int) - (s : Int))) := by
  rw [lN_z, nI_z, nI_z, zI_sub, zI_L (by omega) (by omega), zL_mul]
theorem q_trial {p t : Int32} {σ : Mem} {K : Int64 → Mem → Prop} {X : String → Mem → Prop} (hR : Rel σ) (hK : ∀ r τ, AnL (sp_X5_trial p t) 0 r τ → K r τ) (hX1 : ∀ τ, AnL (sp_X5_trial p t) 1 0 τ → X xNSE τ) (hX2 : ∀ τ, AnL (sp_X5_trial p t) 2 0 τ → X xIAE τ) : sp_X4_trial p t σ K X := by
  have hR0 := hR
  obtain ⟨w, g, u, hC, hS⟩ := hR
  refine i_needSt hC.1 hC.2.1.1 (fun n hn e hh => i_needRg (fun cv => ?_) (fun cv => hX2 σ (fun τ' hF K2 X2 hK2 σ2 e2 => ?_))) (fun a => hX1 σ (fun τ' hF K2 X2 hK2 σ2 e2 => ?_))
  · subst e
    have hrg : rg t 200 600 := rg_of (lo := 200) (hi := 600) (by decide) (by decide) cv
    refine rd_sett hC hS (fun τ c R D T B S z hCτ hSt h11 hRτ hCh => ?_)
    refine i_tryReturn hC.1 hCτ.2.1.1 hSt.1 hn hrg (fun υ R' D' T' B' S' z' hTr hN' hH hF' => ?_)
    have hw' := hC.1.wr (n := n) hrg
    have hTre := bfs_tre hC.1.2.1 (src := 0) (by decide)
    have hB := B0_is hw' hTre hSt.1.1.1 hF'.1.1
    have hRυ : Rel υ := hRτ.fm hTr.fm
    have hrυ : ∀ k, k < 108 → υ.1 210 k = w k := fun k hk => by rw [(hTr.1 210 k (by omega)).1]; exact hCτ.2.2.1 k hk
    have hval : υ.2.1 (66 + 8) 0 * (υ.1 (29 + 1) 0 - υ.1 (66 + 7) 0).toInt64 = lN (B' 0) * (wr w n t 0 - nI (S' 0)).toInt64 := by
      rw [hF'.2.2.2.2.2.1, ← hB, hN'.1 0 (by decide), (hF'.2.2.2.1 0 (by decide)).1]
    refine ⟨staA_66, netA_29, ?_⟩
    rw [hval]
    refine hK _ υ (fun τ' hF K2 X2 hK2 σ2 e2 => ?_)
    have hr2 : ∀ k, k < 108 → σ2.1 210 k = w k := by rw [e2]; exact rw0 hrυ hF
    have hR2 : RU τ' σ2 := by rw [e2]; exact rel0 hRυ hF 0
    have h20 : σ2.1 209 0 = 0 := by rw [e2, wi_at]
    have eix : (48 + (6 * nI n)) + 2 = nI (48 + 6 * n + 2) := ix_st'
    have ecl : (nI (48 + 6 * n + 2)).toNatClampNeg = 48 + 6 * n + 2 := n_cl (by omega)
    have hin : vp_in (nI (48 + 6 * n + 2)) 108 := n_inR (by omega) (by decide)
    refine i_hasM hr2 (fun m hm em hm' => ⟨fun _ => i_inY cv ⟨fun _ => ?_, fun z => absurd z (by decide)⟩, fun z => absurd z (by decide)⟩) (fun a => absurd hh (a n hn rfl))
    rw [eix, ecl]
    refine ⟨hin, fun v54 e54 => ⟨hin, fun σ69 e69 => ?_⟩⟩
    have hrow : ∀ k, k < 108 → σ69.1 210 k = wr w n t k := fun k hk => by
      rw [e69, wi_i]
      by_cases q : k = 48 + 6 * n + 2
      · rw [if_pos ⟨rfl, q⟩, q, wr_at]
      · rw [if_neg (fun z => q z.2), wr_ne q]; exact hr2 k hk
    refine ⟨wr w n t, g, c, R', D', T', B', S', z', _, hw', hrow, hSt.1.1, hH, hF'.lk, fun ω hM hRe => ?_⟩
    have hrω : ∀ k, k < 108 → ω.1 210 k = wr w n t k := fun k hk => by rw [hM.i210]; exact hrow k hk
    show (vp_in (nI (48 + 6 * n + 2)) 108) ∧ (∀ σ94 : Mem, σ94 = wi ω 210 (48 + 6 * n + 2) v54 → K2 (ω.2.1 227 0 * (ω.1 210 0 - ω.1 230 0).toInt64) σ94)
    refine ⟨hin, fun σ94 e94 => ?_⟩
    have hM2 : ChM σ2 σ94 := by
      have := ChM.ix (t' := v54) (k := 48 + 6 * n + 2) (t := t) (σ := σ2) (τ := ω) (by rw [← e69]; exact hM)
      rw [wi_same (σ := σ2) e54.symm] at this
      rw [e94]; exact this
    refine hK2 _ _ (by rw [hM2.2.1 0 (by omega) (by omega)]; exact h20) (fun _ => ?_) (hR2.um hM2)
    rw [hRe.2.2.2.1 0 hTre.src.1, hrω 0 (by decide), (hRe.2.2.2.2.2.2.1 0 (by decide)).2.1]
  · rw [e2]
    exact i_hasM (rw0 hC.2.2.1 hF) (fun m hm em hm' => ⟨fun _ => i_inN cv ⟨fun z => absurd rfl z, fun _ => i_X5_raises (hK2 _ _ (wi_at _ _ _ _) (fun q => absurd q ne20) (rel1 hR0 hF 0 2))⟩, fun z => absurd z (by decide)⟩) (fun a => absurd hh (a n hn e))
  · rw [e2]
    exact i_hasM (rw0 hC.2.2.1 hF) (fun m hm em hm' => absurd hm' (a m hm em)) (fun _ => ⟨fun z => absurd rfl z, fun _ => i_X5_raises (hK2 _ _ (wi_at _ _ _ _) (fun q => absurd q ne10) (rel1 hR0 hF 0 1))⟩)
theorem q_bestReturn {p : Int32} {σ : Mem} {K : Int32 → Mem → Prop} {X : String → Mem → Prop} (hR : Rel σ) (hK : ∀ r τ, AnI (sp_X5_bestReturn p) 0 r τ → K r τ) (hX : ∀ τ, AnI (sp_X5_bestReturn p) 1 0 τ → X xNSE τ) : sp_X4_bestReturn p σ K X := by
  have hR0 := hR
  obtain ⟨w, g, u, hC, hS⟩ := hR
  have hrr : ∀ {τ τ' : Mem}, (∀ k, k < 108 → τ.1 210 k = w k) → FO τ τ' → ∀ k, k < 108 → τ'.1 210 k = w k := fun hr hF k hk => by rw [(hF 210 k (by omega)).1]; exact hr k hk
  refine ⟨w, g, hC.1, hC.2.1.1, hS, fun a => hX σ (fun τ' hF K2 X2 hK2 => ?_), fun n τ υ py hn e hh hCh hTr h11 hSe hpy => hK _ υ (fun τ' hF K2 X2 hK2 => ?_)⟩
  · exact ⟨w, g, hC.1, hrr hC.2.2.1 hF, fun _ => hK2 _ _ (wi_at _ _ _ _) (fun q => absurd q ne10) (rel1 hR0 hF 0 1), fun n hn e hh => absurd hh (a n hn e)⟩
  · have hRυ : Rel υ := ⟨w, g, u, (hC.fr hCh.fr).fr hTr.fm.1, fun _ => hSe⟩
    have hrυ : ∀ k, k < 108 → υ.1 210 k = w k := ((hC.fr hCh.fr).fr hTr.fm.1).2.2.1
    refine ⟨w, g, hC.1, hrr hrυ hF, fun a => absurd hh (a n hn e), fun m hm em hm' => ?_⟩
    rw [e, nI_eq (by omega) (by omega)] at em
    subst em
    exact ⟨py, hpy, fun ω hM => hK2 _ _ (by rw [hM.2.1 0 (by omega) (by omega), wi_at]) (fun _ => rfl) ((rel0 hRυ hF 0).um hM)⟩
theorem kd64 : kd 64 = .inl (.long, 10) := by decide +kernel
theorem kd63 : kd 63 = .inl (.long, 10) := by decide +kernel
theorem q_account {p : Int32} {σ : Mem} {K : Int64 → Mem → Prop} {X : String → Mem → Prop} (hR : Rel σ) (hK : ∀ r τ, AnL (sp_X5_account p) 0 r τ → K r τ) (hX : ∀ τ, AnL (sp_X5_account p) 1 0 τ → X xIAE τ) : sp_X4_account p σ K X := by
  have hR0 := hR
  obtain ⟨w, g, u, hC, hS⟩ := hR
  refine i_needRg (fun cv => ?_) (fun cv => hX σ (fun τ' hF K2 X2 hK2 => ?_))
  · obtain ⟨j, hj, ej⟩ := sm_of (m := 7) rfl (by decide) cv
    subst ej
    have hE : ∀ {k : Nat}, k < 1000 → (nI j = nI k ↔ j = k) := fun hk => nI_eq (by omega) (by omega)
    refine rd_sett hC hS (fun τ c R D T B S z hCτ hSt h11 hRτ hCh => ?_)
    have hTre := bfs_tre hC.1.2.1 (src := 0) (by decide)
    have hB := B0_is hC.1 hTre hSt.1.1.1 hSt.2.2.1.1
    have hsol := hSt.sol
    have hF3 := hSt.2.2
    have lo : j ≤ 3 → ∀ r, r = acV w g (D R) B (T R) S (fun p => τ.1 55 p) j → AnL (sp_X5_account (nI j)) 0 r τ := by
      intro hj3 r er τ' hF K2 X2 hK2
      refine ⟨fun z => absurd (sm_in (by decide) hj) z, fun m hm em => ?_⟩
      rw [nI_eq (by omega) (by omega)] at em
      subst em
      exact ⟨fun z => absurd z (by omega), fun _ => ⟨w, g, c, R, D, T, B, S, z, _, hC.1, fun k hk => by rw [(hF 210 k (by omega)).1]; exact hCτ.2.2.1 k hk, hsol, fun υ hM => hK2 _ _ (by rw [hM.2.1 0 (by omega) (by omega), wi_at]) (fun _ => er.symm) ((rel0 hRτ hF 0).um hM)⟩⟩
    have hi : 4 ≤ j → ∀ r, r = u (26 + j) → AnL (sp_X5_account (nI j)) 0 r τ := by
      intro hj4 r er τ' hF K2 X2 hK2
      refine ⟨fun z => absurd (sm_in (by decide) hj) z, fun m hm em => ?_⟩
      rw [nI_eq (by omega) (by omega)] at em
      subst em
      exact ⟨fun _ => hK2 _ _ (wi_at _ _ _ _) (fun _ => by rw [(hF 211 _ (by omega)).2, hCτ.2.2.2.1 _ (by omega), er]) (rel0 hRτ hF 0), fun z => absurd z (by omega)⟩
    refine ⟨fun q => ?_, fun q => ?_, fun q => ?_, fun q => ?_, fun q => ?_, fun q => ?_, fun q => ?_, fun q0 q1 q2 q3 q4 q5 q6 => ?_⟩
    · have e := (hE (k := 0) (by decide)).mp q
      refine ⟨staA_53, netA_1, hK _ τ (lo (by omega) _ ?_)⟩
      unfold acV
      rw [if_pos e, hF3.2.2.2.2.2.1, ← hB, hCτ.2.1.1.1 0 (by decide), (hF3.2.2.2.1 0 (by decide)).1]
    · have e := (hE (k := 1) (by decide)).mp q
      refine ⟨staA_53, netA_1, w, g, D R, T R, hC.1, hCτ.2.1.1, fun n hn => ⟨⟨(hF3.2.1 n hn).1, (hF3.2.1 n hn).2.1⟩, (hF3.2.2.1 n hn).1, (hF3.2.2.1 n hn).2.1.2⟩, hK _ τ (lo (by omega) _ ?_)⟩
      unfold acV
      rw [if_neg (by omega), if_pos e]
    · have e := (hE (k := 2) (by decide)).mp q
      refine ⟨kd64, by decide, hK _ τ (lo (by omega) _ ?_)⟩
      unfold acV
      rw [if_neg (by omega), if_neg (by omega), if_pos e]
      exact sumL_cg 10 (fun k hk => hF3.2.2.2.2.1 k hk)
    · have e := (hE (k := 3) (by decide)).mp q
      refine ⟨kd63, by decide, hK _ τ (lo (by omega) _ ?_)⟩
      unfold acV
      rw [if_neg (by omega), if_neg (by omega), if_neg (by omega)]
      exact sumL_cg 10 (fun k hk => (hF3.2.2.2.1 k hk).2.2.2)
    · have e := (hE (k := 4) (by decide)).mp q
      exact hK _ τ (hi (by omega) _ (by rw [e]; exact hCτ.2.1.2.2.1))
    · have e := (hE (k := 5) (by decide)).mp q
      exact hK _ τ (hi (by omega) _ (by rw [e]; exact hCτ.2.1.2.2.2.1))
    · have e := (hE (k := 6) (by decide)).mp q
      exact hK _ τ (hi (by omega) _ (by rw [e]; exact hCτ.2.1.2.2.2.2.1))
    · have e7 : j = 7 := by
        have a0 : j ≠ 0 := fun z => q0 (by rw [z]; rfl)
        have a1 : j ≠ 1 := fun z => q1 (by rw [z]; rfl)
        have a2 : j ≠ 2 := fun z => q2 (by rw [z]; rfl)
        have a3 : j ≠ 3 := fun z => q3 (by rw [z]; rfl)
        have a4 : j ≠ 4 := fun z => q4 (by rw [z]; rfl)
        have a5 : j ≠ 5 := fun z => q5 (by rw [z]; rfl)
        have a6 : j ≠ 6 := fun z => q6 (by rw [z]; rfl)
        omega
      exact hK _ τ (hi (by omega) _ (by rw [e7]; exact hCτ.2.1.2.2.2.2.2))
  · exact ⟨fun _ => hK2 _ _ (wi_at _ _ _ _) (fun q => absurd q ne10) (rel1 hR0 hF 0 1), fun m hm em => absurd (by rw [em]; exact sm_in (by decide) hm) cv⟩
theorem htZ_bd {w : Nat → Int32} {g : Gr} {dr T : Nat → Nat} (hw : WFw w g) (hd : ∀ n, n < 10 → dr n ≤ 999 ∧ T n ≤ 1200) : -12000000 ≤ smZ (htZ w dr T) 10 ∧ smZ (htZ w dr T) 10 ≤ 12000000 := by
  have := smZ_bd (f := htZ w dr T) (A := 1200000) (by decide) (n := 10) (Nat.le_refl 10) (fun k hk => by
    have hd := hd k hk
    unfold htZ
    split
    · rename_i c
      obtain ⟨-, r1, r2⟩ := ret_bd hw hk (hasB_iff.mp c)
      have a1 : (dr k : Int) * ((T k : Int) - (nV (w (48 + 6 * k + 2)) : Int)) ≤ (dr k : Int) * 1200 := Int.mul_le_mul_of_nonneg_left (by omega) (by omega)
      have a2 : (dr k : Int) * (-1200) ≤ (dr k : Int) * ((T k : Int) - (nV (w (48 + 6 * k + 2)) : Int)) := Int.mul_le_mul_of_nonneg_left (by omega) (by omega)
      omega
    · omega)
  omega
theorem rel0V {τ τ' : Mem} (hR : Rel τ) (hF : FO τ τ') (v : Int32) : RV τ' (wi τ' 209 0 v) := ⟨hR.fm (hF.fm.trans (FM.w0 τ' v)), rfl⟩
theorem rm_lookV {w : Nat → Int32} {g : Gr} {c : Lp} {R : Nat} {D T : Nat → Nat → Nat} {B S : Nat → Nat} {z : Int} {f : Nat → Int32} {τ τ' : Mem} {v : Int32} {K : Mem → Prop} {X : String → Mem → Prop} (hw : WFw w g) (hr : ∀ k, k < 108 → τ.1 210 k = w k) (hRel : Rel τ) (hS : Sol w g c R D T B S z f) (hF : FO τ τ') (h : ∀ υ : Mem, RV τ' υ → υ.1 209 0 = v → (∀ k, k < 108 → υ.1 210 k = w k) → (∀ k, υ.2.1 211 k = τ.2.1 211 k) → ReF w g c R (D R) B (T R) S z f υ → K υ) : sp_X5_looks (wi τ' 209 0 v) K X := by
  have hr' : ∀ k, k < 108 → (wi τ' 209 0 v).1 210 k = w k := fun k hk => by rw [wi_i, if_neg (by omega), (hF 210 k (by omega)).1]; exact hr k hk
  refine ⟨w, g, c, R, D, T, B, S, z, f, hw, hr', hS.1, hS.2.1, hS.2.2, fun υ hM hR => h υ ((rel0V hRel hF v).um hM) ?_ (fun k hk => by rw [hM.i210]; exact hr' k hk) (fun k => by rw [(hM.1 211 k (by omega)).2, wi_l, (hF 211 k (by omega)).2]) hR⟩
  rw [hM.2.1 0 (by omega) (by omega), wi_at]
theorem q_efficiency {σ : Mem} {K : UInt64 → Mem → Prop} {X : String → Mem → Prop} (hR : Rel σ) (hK : ∀ r τ, vf_n64 r → AnD sp_X5_efficiency 0 r τ → K r τ) (hX : ∀ τ, AnD sp_X5_efficiency 1 0 τ → X xARI τ) : sp_X4_efficiency σ K X := by
  obtain ⟨w, g, u, hC, hS⟩ := hR
  refine rd_sett hC hS (fun τ c R D T B S z hCτ hSt h11 hRτ hCh => ?_)
  have hTre := bfs_tre hC.1.2.1 (src := 0) (by decide)
  have hB := B0_is hC.1 hTre hSt.1.1.1 hSt.2.2.1.1
  have hsol := hSt.sol
  have hF3 := hSt.2.2
  have hdT : ∀ n, n < 10 → D R n ≤ 999 ∧ T R n ≤ 1200 := fun n hn => ⟨(hF3.2.1 n hn).2.1, (hF3.2.2.1 n hn).2.1.2⟩
  have hval : τ.2.1 (53 + 8) 0 * (τ.1 (1 + 1) 0 - τ.1 (53 + 7) 0).toInt64 = lN (B 0) * (w 0 - nI (S 0)).toInt64 := by
    rw [hF3.2.2.2.2.2.1, ← hB, hCτ.2.1.1.1 0 (by decide), (hF3.2.2.2.1 0 (by decide)).1]
  have hsup := sup_bd hC.1
  have hB0 := hSt.2.2.1.1.2.1 0 hTre.src.1
  have hS0 := (hF3.2.2.2.1 0 (by decide)).2.1.2
  have hmz : lN (B 0) * (w 0 - nI (S 0)).toInt64 = zL ((B 0 : Int) * ((nV (w 0) : Int) - (S 0 : Int))) := by
    rw [hsup.1]
    have := made_num hB0 hsup.2.2 hS0
    rw [nV, ← nV, ← hsup.1] at *
    exact this
  have mb : -12000000 ≤ (B 0 : Int) * ((nV (w 0) : Int) - (S 0 : Int)) ∧ (B 0 : Int) * ((nV (w 0) : Int) - (S 0 : Int)) ≤ 12000000 := by
    have a1 : (B 0 : Int) * ((nV (w 0) : Int) - (S 0 : Int)) ≤ (B 0 : Int) * 1200 := Int.mul_le_mul_of_nonneg_left (by omega) (by omega)
    have a2 : (B 0 : Int) * (-1200) ≤ (B 0 : Int) * ((nV (w 0) : Int) - (S 0 : Int)) := Int.mul_le_mul_of_nonneg_left (by omega) (by omega)
    omega
  have hb1 := htZ_bd hC.1 hdT
  have hA : (zL (smZ (htZ w (D R) (T R)) 10)).toInt.natAbs < 9007199254740992 := by rw [zL_toInt (by omega) (by omega)]; omega
  have hM : (lN (B 0) * (w 0 - nI (S 0)).toInt64).toInt.natAbs < 9007199254740992 := by rw [hmz, zL_toInt (by omega) (by omega)]; omega
  have rows : ∀ {υ : Mem}, (∀ k, k < 108 → υ.1 210 k = w k) → ReF w g c R (D R) B (T R) S z (fun p => τ.1 55 p) υ → υ.2.1 227 0 * (υ.1 210 0 - υ.1 230 0).toInt64 = lN (B 0) * (w 0 - nI (S 0)).toInt64 := fun hr hRe => by
    rw [hRe.2.2.2.1 0 hTre.src.1, hr 0 (by decide), (hRe.2.2.2.2.2.2.1 0 (by decide)).2.1]
  refine ⟨staA_53, netA_1, ?_⟩
  rw [hval]
  refine ⟨fun q => ⟨staA_53, netA_1, w, g, D R, T R, hC.1, hCτ.2.1.1, fun n hn => ⟨⟨(hF3.2.1 n hn).1, (hF3.2.1 n hn).2.1⟩, (hF3.2.2.1 n hn).1, (hF3.2.2.1 n hn).2.1.2⟩, nn64 hA hM q, hK _ τ (nn64 hA hM q) (fun τ' hF K2 X2 hK2 σ2 e2 => ?_)⟩, fun q => hX τ (fun τ' hF K2 X2 hK2 σ2 e2 => ?_)⟩
  · rw [e2]
    refine rm_lookV hC.1 hCτ.2.2.1 hRτ hsol hF (fun υ hRυ h0 hr hs hRe => ?_)
    show (¬ (υ.2.1 227 0 * (υ.1 210 0 - υ.1 230 0).toInt64) = 0 → _) ∧ ((υ.2.1 227 0 * (υ.1 210 0 - υ.1 230 0).toInt64) = 0 → _)
    rw [rows hr hRe]
    refine ⟨fun _ => ⟨w, g, D R, T R, hC.1, hr, fun n hn => ⟨⟨hRe.2.2.1 n hn, (hdT n hn).1⟩, (hRe.2.2.2.2.2.2.1 n hn).1, (hdT n hn).2⟩, ?_⟩, fun z => absurd z q⟩
    show (vf_n64 (FP.ddiv (FP.l2d (zL (smZ (htZ w (D R) (T R)) 10))) (FP.l2d (υ.2.1 227 0 * (υ.1 210 0 - υ.1 230 0).toInt64)))) ∧ (K2 (FP.ddiv (FP.l2d (zL (smZ (htZ w (D R) (T R)) 10))) (FP.l2d (υ.2.1 227 0 * (υ.1 210 0 - υ.1 230 0).toInt64))) υ)
    rw [rows hr hRe]
    exact ⟨nn64 hA hM q, hK2 _ _ h0 (fun _ => rfl) hRυ⟩
  · rw [e2]
    refine rm_lookV hC.1 hCτ.2.2.1 hRτ hsol hF (fun υ hRυ h0 hr hs hRe => ?_)
    show (¬ (υ.2.1 227 0 * (υ.1 210 0 - υ.1 230 0).toInt64) = 0 → _) ∧ ((υ.2.1 227 0 * (υ.1 210 0 - υ.1 230 0).toInt64) = 0 → _)
    rw [rows hr hRe]
    exact ⟨fun z => absurd q z, fun _ => i_X5_raises (hK2 _ _ (wi_at _ _ _ _) (fun q => absurd q ne10) (hRυ.u0 1))⟩
/-- both sides' stations -/
theorem st_same {w : Nat → Int32} {g : Gr} {σ τ : Mem} (hw : WFw w g) (hN : NR σ 1 w g) (hr : ∀ k, k < 108 → τ.1 210 k = w k) {k : Nat} (hk : k < 10) : stB τ k = stC σ 1 k := by
  unfold stB stC
  rw [hr _ (by omega)]
  by_cases hh : hasW w k
  · have := (hN.2.2.2 k hk).1 hh
    obtain ⟨f0, f1, f2⟩ := (hw.2.2.2.2.2.2.2.2.2.2.2.2 k hk hh).1.val (by decide)
    rw [decide_eq_true (show 1 ≤ k ∧ w (48 + 6 * k) = 1 from hh), this.1, f0, decide_eq_true (nI_nle (by omega) (by omega))]
  · have := (hN.2.2.2 k hk).2 hh
    rw [decide_eq_false (show ¬ (1 ≤ k ∧ w (48 + 6 * k) = 1) from hh), this, decide_eq_false (by decide)]
theorem q_count {p : Int32} {σ : Mem} {K : Int32 → Mem → Prop} {X : String → Mem → Prop} (hR : Rel σ) (hK : ∀ r τ, AnI (sp_X5_count p) 0 r τ → K r τ) (hX : ∀ τ, AnI (sp_X5_count p) 1 0 τ → X xIAE τ) : sp_X4_count p σ K X := by
  have hR0 := hR
  obtain ⟨w, g, u, hC, hS⟩ := hR
  refine i_needRg (fun cv => ?_) (fun cv => hX σ (fun τ' hF K2 X2 hK2 => ?_))
  · obtain ⟨j, hj, ej⟩ := sm_of (m := 5) rfl (by decide) cv
    subst ej
    have hE : ∀ {k : Nat}, k < 1000 → (nI j = nI k ↔ j = k) := fun hk => nI_eq (by omega) (by omega)
    have dl : ∀ {P : Prop}, ¬ nI j = 0 → ¬ nI j = 1 → ¬ nI j = 2 → ¬ nI j = 3 → ¬ nI j = 4 → ¬ nI j = 5 → P := fun q0 q1 q2 q3 q4 q5 => by
      exfalso
      have a0 : j ≠ 0 := fun z => q0 (by rw [z]; rfl)
      have a1 : j ≠ 1 := fun z => q1 (by rw [z]; rfl)
      have a2 : j ≠ 2 := fun z => q2 (by rw [z]; rfl)
      have a3 : j ≠ 3 := fun z => q3 (by rw [z]; rfl)
      have a4 : j ≠ 4 := fun z => q4 (by rw [z]; rfl)
      have a5 : j ≠ 5 := fun z => q5 (by rw [z]; rfl)
      omega
    have ne : ∀ {a b : Nat} {P : Prop}, a < 1000 → b < 1000 → nI j = nI a → a ≠ b → nI j = nI b → P := fun ha hb q1 q2 q3 => absurd (by rw [← (hE ha).mp q1, (hE hb).mp q3]) q2
    refine ⟨fun q => hK _ σ (fun τ' hF K2 X2 hK2 => ?_), fun q => ⟨netA_1, hK _ σ (fun τ' hF K2 X2 hK2 => ?_)⟩, fun q => ?_, fun q => ?_, fun q => hK _ σ (fun τ' hF K2 X2 hK2 => ?_), fun q0 q1 q2 q3 q4 => hK _ σ (fun τ' hF K2 X2 hK2 => ?_)⟩
    · refine ⟨fun _ => hK2 _ _ (wi_at _ _ _ _) (fun _ => ?_) (rel0 hR0 hF 0), fun z => ne (a := 0) (b := 1) (by decide) (by decide) q (by decide) z, fun z => ne (a := 0) (b := 2) (by decide) (by decide) q (by decide) z, fun z => ne (a := 0) (b := 3) (by decide) (by decide) q (by decide) z, fun z => ne (a := 0) (b := 4) (by decide) (by decide) q (by decide) z, fun z => ne (a := 0) (b := 5) (by decide) (by decide) q (by decide) z, fun z => absurd q z⟩
      rw [(hF 210 7 (by omega)).1, hC.2.2.1 7 (by decide), hC.1.1]; exact hC.2.1.1.2.1.1.symm
    · refine ⟨fun z => ne (a := 1) (b := 0) (by decide) (by decide) q (by decide) z, fun _ => ?_, fun z => ne (a := 1) (b := 2) (by decide) (by decide) q (by decide) z, fun z => ne (a := 1) (b := 3) (by decide) (by decide) q (by decide) z, fun z => ne (a := 1) (b := 4) (by decide) (by decide) q (by decide) z, fun z => ne (a := 1) (b := 5) (by decide) (by decide) q (by decide) z, fun _ z => absurd q z⟩
      exact hK2 _ _ (wi_at _ _ _ _) (fun _ => by rw [ctB_congr (fun k hk => st_same hC.1 hC.2.1.1 (rw0 hC.2.2.1 hF) hk)]) (rel0 hR0 hF 0)
    · refine rd_sett hC hS (fun τ c R D T B S z hCτ hSt h11 hRτ hCh => hK _ τ (fun τ' hF K2 X2 hK2 => ?_))
      refine ⟨fun z => ne (a := 2) (b := 0) (by decide) (by decide) q (by decide) z, fun z => ne (a := 2) (b := 1) (by decide) (by decide) q (by decide) z, fun _ => ⟨g, hC.1.2.1, GM_of hC.1 (fun k hk => by rw [(hF 210 k (by omega)).1]; exact hCτ.2.2.1 k hk), fun υ hM => hK2 _ _ (by rw [hM.2.1 0 (by omega) (by omega), wi_at]) (fun _ => hSt.1.2.2.2.1.symm) ((rel0 hRτ hF 0).um hM)⟩, fun z => ne (a := 2) (b := 3) (by decide) (by decide) q (by decide) z, fun z => ne (a := 2) (b := 4) (by decide) (by decide) q (by decide) z, fun z => ne (a := 2) (b := 5) (by decide) (by decide) q (by decide) z, fun _ _ z => absurd q z⟩
    · refine rd_sett hC hS (fun τ c R D T B S z hCτ hSt h11 hRτ hCh => hK _ τ (fun τ' hF K2 X2 hK2 => ?_))
      refine ⟨fun z => ne (a := 3) (b := 0) (by decide) (by decide) q (by decide) z, fun z => ne (a := 3) (b := 1) (by decide) (by decide) q (by decide) z, fun z => ne (a := 3) (b := 2) (by decide) (by decide) q (by decide) z, fun _ => ⟨g, c, hC.1.2.1, GM_of hC.1 (fun k hk => by rw [(hF 210 k (by omega)).1]; exact hCτ.2.2.1 k hk), hSt.1.1, fun υ hM => hK2 _ _ (by rw [hM.2.1 0 (by omega) (by omega), wi_at]) (fun _ => hSt.1.2.1.1.symm) ((rel0 hRτ hF 0).um hM)⟩, fun z => ne (a := 3) (b := 4) (by decide) (by decide) q (by decide) z, fun z => ne (a := 3) (b := 5) (by decide) (by decide) q (by decide) z, fun _ _ _ z => absurd q z⟩
    · refine ⟨fun z => ne (a := 4) (b := 0) (by decide) (by decide) q (by decide) z, fun z => ne (a := 4) (b := 1) (by decide) (by decide) q (by decide) z, fun z => ne (a := 4) (b := 2) (by decide) (by decide) q (by decide) z, fun z => ne (a := 4) (b := 3) (by decide) (by decide) q (by decide) z, fun _ => hK2 _ _ (wi_at _ _ _ _) (fun _ => ?_) (rel0 hR0 hF 0), fun z => ne (a := 4) (b := 5) (by decide) (by decide) q (by decide) z, fun _ _ _ _ z => absurd q z⟩
      obtain ⟨n, e, -, -, -, b4, b5, -⟩ := hC.2.2.2.2.2.1
      rw [(hF 209 5 (by omega)).1, b5, b4]
    · refine ⟨fun z => absurd z q0, fun z => absurd z q1, fun z => absurd z q2, fun z => absurd z q3, fun z => absurd z q4, fun _ => hK2 _ _ (wi_at _ _ _ _) (fun _ => ?_) (rel0 hR0 hF 0), fun _ _ _ _ _ q5 => dl q0 q1 q2 q3 q4 q5⟩
      obtain ⟨s, m, t1, t2⟩ := hC.2.2.2.2.2.2.1
      rw [(hF 209 12 (by omega)).1, t2.2.1, t1.2.1]
  · have no : ∀ {k : Nat}, k ≤ 5 → p ≠ nI k := fun hk e => cv (by rw [e]; exact sm_in (m := 5) (by decide) hk)
    exact ⟨fun z => absurd z (no (k := 0) (by decide)), fun z => absurd z (no (k := 1) (by decide)), fun z => absurd z (no (k := 2) (by decide)), fun z => absurd z (no (k := 3) (by decide)), fun z => absurd z (no (k := 4) (by decide)), fun z => absurd z (no (k := 5) (by decide)), fun _ _ _ _ _ _ => hK2 _ _ (wi_at _ _ _ _) (fun q => absurd q ne10) (rel1 hR0 hF 0 1)⟩
