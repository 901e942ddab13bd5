/-! HeatNetwork$Shape.closingPipe(LHeatNetwork$Network;)I: level 1, exceptions 0 -/
def sp_X1_closingPipe (a : Nat) (σ : Mem) (K : Int32 → Mem → Prop) (X : String → Mem → Prop) : Prop := NetA a ∧ ∃ g : Gr, WG g ∧ GC σ a g ∧ ShD (bfs g 0) σ ∧ (∀ q, q < g.1 → g.2.1 q ∈ nds (bfs g 0) → Off (bfs g 0) 0 q → K (nI q) σ) ∧ ((∀ q, q < g.1 → g.2.1 q ∈ nds (bfs g 0) → ¬ Off (bfs g 0) 0 q) → K (-1) σ)
set_option maxRecDepth 4000 in
theorem sg_X1_closingPipe_0 {x : Ctx} {K : Int32 → Mem → Prop} {X : String → Mem → Prop} (C : Cx x RX1 cX1_closingPipe 5) (r : RtI x 1 0 (some .int) K X) (a : Nat) (ha : NetA a) (σ : Mem) (h : Ws x 0 2 [(0, .ref 44), (1, .ref a), (2, .int 0)] [] σ) : Ws x 0 0 [(0, .ref 44), (1, .ref a)] [] σ := by
  refine r_iconst C 1 (v := 0) dX1_closingPipe_0 rfl (by decide) ?_
  refine r_istore_n C 2 [(2, .int 0), (0, .ref 44), (1, .ref a)] dX1_closingPipe_1 rfl (by decide) rfl ?_
  exact Ws_pick [1, 2, 0] rfl h
set_option maxRecDepth 4000 in
theorem sg_X1_closingPipe_2 {x : Ctx} {K : Int32 → Mem → Prop} {X : String → Mem → Prop} (C : Cx x RX1 cX1_closingPipe 5) (r : RtI x 1 0 (some .int) K X) (a : Nat) (i2 : Int32) (ha : NetA a) (σ : Mem) (h : ((σ.1 a 1) ≤ i2 → K (-1) σ) ∧ (¬ (σ.1 a 1) ≤ i2 → (vp_in i2 10) ∧ (∀ v16 : Int32, v16 = (σ.1 (a + 2) i2.toNatClampNeg) → (vp_in i2 10) ∧ (∀ v23 : Int32, v23 = (σ.1 (a + 3) i2.toNatClampNeg) → (vp_in v16 10) ∧ (((σ.1 45 v16.toNatClampNeg) < 0 → ∀ v57 : Int32, v57 = i2 + 1 → Ws x 0 2 [(0, .ref 44), (1, .ref a), (2, .int v57)] [] σ) ∧ (¬ (σ.1 45 v16.toNatClampNeg) < 0 → (vp_in v16 10) ∧ (((σ.1 48 v16.toNatClampNeg) = i2 → ∀ v57 : Int32, v57 = i2 + 1 → Ws x 0 2 [(0, .ref 44), (1, .ref a), (2, .int v57)] [] σ) ∧ (¬ (σ.1 48 v16.toNatClampNeg) = i2 → (vp_in v23 10) ∧ (((σ.1 48 v23.toNatClampNeg) = i2 → ∀ v57 : Int32, v57 = i2 + 1 → Ws x 0 2 [(0, .ref 44), (1, .ref a), (2, .int v57)] [] σ) ∧ (¬ (σ.1 48 v23.toNatClampNeg) = i2 → K i2 σ)))))))))) : Ws x 0 2 [(0, .ref 44), (1, .ref a), (2, .int i2)] [] σ := by
  refine r_iload_n (j := 2) C 3 dX1_closingPipe_2 rfl rfl ?_
  refine r_aload_n (j := 1) C 4 dX1_closingPipe_3 rfl rfl ?_
  refine r_get (k := 1) C cl2 7 dX1_closingPipe_4 rfl (net0 ha) (by decide) wd_139 (.int (σ.1 a 1)) (fun _ => rfl) ?_
  refine r_icmp_ge C 63 10 dX1_closingPipe_7 (by decide) rfl (fun c7 => ?_) (fun c7 => ?_)
  · have h := h.1 c7
    refine r_iconst C 64 (v := (-1)) dX1_closingPipe_63 rfl (by decide) ?_
    exact r_iret (S := []) C r dX1_closingPipe_64 (by decide) rfl h
  · have h := h.2 c7
    refine r_aload_n (j := 1) C 11 dX1_closingPipe_10 rfl rfl ?_
    refine r_get (k := 2) C cl2 14 dX1_closingPipe_11 rfl (net0 ha) (by decide) wd_141 (.ref (a + 2)) (fun _ => rfl) ?_
    refine r_iload_n (j := 2) C 15 dX1_closingPipe_14 rfl rfl ?_
    obtain ⟨o15, h⟩ := h
    refine r_iald C 16 dX1_closingPipe_15 rfl (net2 ha) o15 ?_
    refine r_nmI (fun v16 e16 => ?_)
    have h := h v16 e16
    refine r_istore_n C 17 [(3, .int v16), (0, .ref 44), (1, .ref a), (2, .int i2)] dX1_closingPipe_16 rfl (by decide) rfl ?_
    refine r_aload_n (j := 2) C 18 dX1_closingPipe_17 rfl rfl ?_
    refine r_get (k := 3) C cl2 21 dX1_closingPipe_18 rfl (net0 ha) (by decide) wd_145 (.ref (a + 3)) (fun _ => rfl) ?_
    refine r_iload_n (j := 3) C 22 dX1_closingPipe_21 rfl rfl ?_
    obtain ⟨o22, h⟩ := h
    refine r_iald C 23 dX1_closingPipe_22 rfl (net3 ha) o22 ?_
    refine r_nmI (fun v23 e23 => ?_)
    have h := h v23 e23
    refine r_istore C 25 [(4, .int v23), (3, .int v16), (0, .ref 44), (1, .ref a), (2, .int i2)] dX1_closingPipe_23 rfl (by decide) rfl ?_
    refine r_aload_n (j := 2) C 26 dX1_closingPipe_25 rfl rfl ?_
    refine r_get (k := 0) C cl3 29 dX1_closingPipe_26 rfl kd_44 (by decide) wd_224 (.ref 45) (fun _ => rfl) ?_
    refine r_iload_n (j := 1) C 30 dX1_closingPipe_29 rfl rfl ?_
    obtain ⟨o30, h⟩ := h
    refine r_iald C 31 dX1_closingPipe_30 rfl kd_45 o30 ?_
    refine r_if_lt C 57 34 dX1_closingPipe_31 (by decide) rfl (fun c31 => ?_) (fun c31 => ?_)
    · have h := h.1 c31
      obtain ⟨v57, e57⟩ : ∃ y : Int32, y = i2 + 1 := ⟨_, rfl⟩
      have h := h v57 e57
      refine r_iinc (j := 4) C 60 [(2, .int v57), (4, .int v23), (3, .int v16), (0, .ref 44), (1, .ref a)] dX1_closingPipe_57 rfl rfl (by rw [e57]; rfl) (by decide) rfl ?_
      refine r_goto C 2 dX1_closingPipe_60 (by decide) ?_
      exact Ws_pick [3, 4, 0] rfl h
    · have h := h.2 c31
      refine r_aload_n (j := 2) C 35 dX1_closingPipe_34 rfl rfl ?_
      refine r_get (k := 4) C cl3 38 dX1_closingPipe_35 rfl kd_44 (by decide) wd_234 (.ref 48) (fun _ => rfl) ?_
      refine r_iload_n (j := 1) C 39 dX1_closingPipe_38 rfl rfl ?_
      obtain ⟨o39, h⟩ := h
      refine r_iald C 40 dX1_closingPipe_39 rfl kd_48 o39 ?_
      refine r_iload_n (j := 4) C 41 dX1_closingPipe_40 rfl rfl ?_
      refine r_icmp_eq C 57 44 dX1_closingPipe_41 (by decide) rfl (fun c41 => ?_) (fun c41 => ?_)
      · have h := h.1 c41
        obtain ⟨v57, e57⟩ : ∃ y : Int32, y = i2 + 1 := ⟨_, rfl⟩
        have h := h v57 e57
        refine r_iinc (j := 4) C 60 [(2, .int v57), (4, .int v23), (3, .int v16), (0, .ref 44), (1, .ref a)] dX1_closingPipe_57 rfl rfl (by rw [e57]; rfl) (by decide) rfl ?_
        refine r_goto C 2 dX1_closingPipe_60 (by decide) ?_
        exact Ws_pick [3, 4, 0] rfl h
      · have h := h.2 c41
        refine r_aload_n (j := 2) C 45 dX1_closingPipe_44 rfl rfl ?_
        refine r_get (k := 4) C cl3 48 dX1_closingPipe_45 rfl kd_44 (by decide) wd_234 (.ref 48) (fun _ => rfl) ?_
        refine r_iload (j := 0) C 50 dX1_closingPipe_48 rfl rfl ?_
        obtain ⟨o50, h⟩ := h
        refine r_iald C 51 dX1_closingPipe_50 rfl kd_48 o50 ?_
        refine r_iload_n (j := 4) C 52 dX1_closingPipe_51 rfl rfl ?_
        refine r_icmp_eq C 57 55 dX1_closingPipe_52 (by decide) rfl (fun c52 => ?_) (fun c52 => ?_)
        · have h := h.1 c52
          obtain ⟨v57, e57⟩ : ∃ y : Int32, y = i2 + 1 := ⟨_, rfl⟩
          have h := h v57 e57
          refine r_iinc (j := 4) C 60 [(2, .int v57), (4, .int v23), (3, .int v16), (0, .ref 44), (1, .ref a)] dX1_closingPipe_57 rfl rfl (by rw [e57]; rfl) (by decide) rfl ?_
          refine r_goto C 2 dX1_closingPipe_60 (by decide) ?_
          exact Ws_pick [3, 4, 0] rfl h
        · have h := h.2 c52
          refine r_iload_n (j := 4) C 56 dX1_closingPipe_55 rfl rfl ?_
          exact r_iret (S := []) C r dX1_closingPipe_56 (by decide) rfl h
theorem vc_X1_closingPipe {x : Ctx} {K : Int32 → Mem → Prop} {X : String → Mem → Prop} (C : Cx x RX1 cX1_closingPipe 5) (r : RtI x 1 0 (some .int) K X) (a : Nat) (σ : Mem) (h : sp_X1_closingPipe a σ K X) : Ws x 0 0 [(0, .ref 44), (1, .ref a)] [] σ := by
  obtain ⟨ha, g, hg, hG, hS, h1, h2⟩ := h
  have hP := hg.1
  have hT := bfs_tre hg (by decide : 0 < 10)
  have hpo : ∀ n p, n < 10 → p < 10 → (σ.1 48 n = nI p ↔ n ∈ nds (bfs g 0) ∧ n ≠ 0 ∧ fp (bfs g 0) n = p) := fun n p hn hp => by
    rw [hS.2.2.2.2.1 n hn]
    by_cases c : n ∈ nds (bfs g 0)
    · by_cases c0 : n = 0
      · unfold pOf
        rw [if_pos c0]
        refine ⟨fun q => ?_, fun q => absurd c0 q.2.1⟩
        have h0 := nI_pos (n := p) (by omega)
        rw [← q] at h0
        exact absurd (by decide) h0
      · rw [(fOf_in hT c c0).2]
        have := (hT.up c c0).2.2.1
        refine ⟨fun q => ⟨c, c0, nI_eqP (by omega) hp q⟩, fun q => by rw [q.2.2]; rfl⟩
    · rw [(Of_out c).2.2]
      refine ⟨fun q => ?_, fun q => absurd q.1 c⟩
      have h0 := nI_pos (n := p) (by omega)
      rw [← q] at h0
      exact absurd (by decide) h0
  refine sg_X1_closingPipe_0 C r a ha σ ?_
  refine cnt g.1 (fun k (_ : Unit) => ∀ q, q < k → g.2.1 q ∈ nds (bfs g 0) → ¬ Off (bfs g 0) 0 q) (fun k _ => Ws x 0 2 [(0, .ref 44), (1, .ref a), (2, .int (nI k))] [] σ) ?_ ?_ 0 () (Nat.zero_le _) (fun q hq => absurd hq (Nat.not_lt_zero q))
  · intro _ hI
    refine sg_X1_closingPipe_2 C r a _ ha σ ?_
    rw [hG.1]
    exact ⟨fun _ => h2 hI, fun c => absurd (nI_le (Nat.le_refl g.1) (by omega)) c⟩
  · intro k _ hk hI ih
    refine sg_X1_closingPipe_2 C r a _ ha σ ?_
    rw [hG.1]
    obtain ⟨g1, g2⟩ := hG.2 k hk
    obtain ⟨w1, w2, w3⟩ := hg.2 k hk
    refine ⟨fun c => absurd (n_le (by omega) (by omega) c) (by omega), fun _ => ⟨n_inR (by omega) (by decide), fun v16 e16 => ⟨n_inR (by omega) (by decide), fun v23 e23 => ?_⟩⟩⟩
    rw [n_cl (by omega), g1] at e16
    rw [n_cl (by omega), g2] at e23
    rw [e16, e23, n_cl (n := g.2.1 k) (by omega), n_cl (n := g.2.2 k) (by omega), hS.2.1 _ w1]
    have go : (g.2.1 k ∈ nds (bfs g 0) → ¬ Off (bfs g 0) 0 k) → ∀ v57 : Int32, v57 = nI k + 1 → Ws x 0 2 [(0, .ref 44), (1, .ref a), (2, .int v57)] [] σ := fun hh v e => by
      rw [e, nI_1]
      refine ih () (fun q hq => ?_)
      by_cases c : q = k
      · rw [c]; exact hh
      · exact hI q (by omega)
    refine ⟨n_inR w1 (by decide), fun c => go (fun q => absurd q ((fI_lt10 hT _).mp c)), fun c => ?_⟩
    have hc : g.2.1 k ∈ nds (bfs g 0) := Classical.byContradiction fun q => c ((fI_lt10 hT _).mpr q)
    refine ⟨n_inR w1 (by decide), fun c1 => go (fun _ ho => ?_), fun c1 => ⟨n_inR w2 (by decide), fun c2 => go (fun _ ho => ?_), fun c2 => h1 k hk hc (fun n hn h0 e => ?_)⟩⟩
    · obtain ⟨b1, b2, b3⟩ := (hpo _ k w1 (by omega)).mp c1
      exact ho _ b1 b2 b3
    · obtain ⟨b1, b2, b3⟩ := (hpo _ k w2 (by omega)).mp c2
      exact ho _ b1 b2 b3
    · obtain ⟨-, -, -, u4⟩ := hT.up hn h0
      rw [e] at u4
      rcases ac_two u4 (ac_ends hg hk).1 with ⟨-, q⟩ | ⟨-, q⟩
      · exact c2 ((hpo _ k w2 (by omega)).mpr (by rw [q]; exact ⟨hn, h0, e⟩))
      · exact c1 ((hpo _ k w1 (by omega)).mpr (by rw [q]; exact ⟨hn, h0, e⟩))
theorem ct_X1_closingPipe (a : Nat) (σ : Mem) (K : Int32 → Mem → Prop) (X : String → Mem → Prop) (h : sp_X1_closingPipe a σ K X) : CtI yX1_closingPipe cX1_closingPipe 5 (some .int) 1 0 [.ref 44, .ref a] σ K X :=
  ctI_of (by decide +kernel) (Nat.le_of_ble_eq_true rfl) (fun x C r => vc_X1_closingPipe C r a σ h)
/-! HeatNetwork$Shape.findDistances(LHeatNetwork$Network;)V: level 3, exceptions 0 -/
def sp_X1_findDistances (a : Nat) (σ : Mem) (K : Mem → Prop) (X : String → Mem → Prop) : Prop := NetA a ∧ ∃ g : Gr, WG g ∧ GC σ a g ∧ ∀ τ : Mem, Ch 44 49 σ τ → ShD (bfs g 0) τ → K τ
set_option maxRecDepth 4000 in
theorem sg_X1_findDistances_0 {x : Ctx} {K : Mem → Prop} {X : String → Mem → Prop} (C : Cx x RX1 cX1_findDistances 6) (r : RtV x 3 0 none K X) (a : Nat) (ha : NetA a) (σ : Mem) (h : sp_J7_fill_53178 45 10 (-1) σ (fun σ5 => sp_J7_fill_53178 47 10 (-1) σ5 (fun σ13 => sp_J7_fill_53178 48 10 (-1) σ13 (fun σ21 => sp_J7_fill_53178 49 10 (-1) σ21 (fun σ29 => ∀ σ38 : Mem, σ38 = wi σ29 45 0 0 → ∀ σ45 : Mem, σ45 = wi σ38 46 0 0 → ∀ σ48 : Mem, σ48 = wi σ45 44 2 1 → Ws x 0 53 [(0, .ref 44), (1, .ref a), (2, .int 0)] [] σ48) X) X) X) X) : Ws x 0 0 [(0, .ref 44), (1, .ref a)] [] σ := by
  refine r_aload_n (j := 0) C 1 dX1_findDistances_0 rfl rfl ?_
  refine r_get (k := 0) C cl3 4 dX1_findDistances_1 rfl kd_44 (by decide) wd_224 (.ref 45) (fun _ => rfl) ?_
  refine r_iconst C 5 (v := (-1)) dX1_findDistances_4 rfl (by decide) ?_
  refine r_cSV (b := 0) (as := [.ref 45, .int (-1)]) (S := []) C r.px 8 (ct_J7_fill_53178 _ _ _ _ _ _ h) dX1_findDistances_5 rfl wd_422 wd_421 wd_423 wd_108 yd_J7_fill_53178 ⟨Nat.le_of_ble_eq_true rfl, Nat.le_of_ble_eq_true rfl⟩ (Nat.le_of_ble_eq_true rfl) (by decide) (fun σ5 h => ?_)
  refine r_aload_n (j := 0) C 9 dX1_findDistances_8 rfl rfl ?_
  refine r_get (k := 3) C cl3 12 dX1_findDistances_9 rfl kd_44 (by decide) wd_232 (.ref 47) (fun _ => rfl) ?_
  refine r_iconst C 13 (v := (-1)) dX1_findDistances_12 rfl (by decide) ?_
  refine r_cSV (b := 0) (as := [.ref 47, .int (-1)]) (S := []) C r.px 16 (ct_J7_fill_53178 _ _ _ _ _ _ h) dX1_findDistances_13 rfl wd_422 wd_421 wd_423 wd_108 yd_J7_fill_53178 ⟨Nat.le_of_ble_eq_true rfl, Nat.le_of_ble_eq_true rfl⟩ (Nat.le_of_ble_eq_true rfl) (by decide) (fun σ13 h => ?_)
  refine r_aload_n (j := 0) C 17 dX1_findDistances_16 rfl rfl ?_
  refine r_get (k := 4) C cl3 20 dX1_findDistances_17 rfl kd_44 (by decide) wd_234 (.ref 48) (fun _ => rfl) ?_
  refine r_iconst C 21 (v := (-1)) dX1_findDistances_20 rfl (by decide) ?_
  refine r_cSV (b := 0) (as := [.ref 48, .int (-1)]) (S := []) C r.px 24 (ct_J7_fill_53178 _ _ _ _ _ _ h) dX1_findDistances_21 rfl wd_422 wd_421 wd_423 wd_108 yd_J7_fill_53178 ⟨Nat.le_of_ble_eq_true rfl, Nat.le_of_ble_eq_true rfl⟩ (Nat.le_of_ble_eq_true rfl) (by decide) (fun σ21 h => ?_)
  refine r_aload_n (j := 0) C 25 dX1_findDistances_24 rfl rfl ?_
  refine r_get (k := 5) C cl3 28 dX1_findDistances_25 rfl kd_44 (by decide) wd_236 (.ref 49) (fun _ => rfl) ?_
  refine r_iconst C 29 (v := (-1)) dX1_findDistances_28 rfl (by decide) ?_
  refine r_cSV (b := 0) (as := [.ref 49, .int (-1)]) (S := []) C r.px 32 (ct_J7_fill_53178 _ _ _ _ _ _ h) dX1_findDistances_29 rfl wd_422 wd_421 wd_423 wd_108 yd_J7_fill_53178 ⟨Nat.le_of_ble_eq_true rfl, Nat.le_of_ble_eq_true rfl⟩ (Nat.le_of_ble_eq_true rfl) (by decide) (fun σ29 h => ?_)
  refine r_aload_n (j := 0) C 33 dX1_findDistances_32 rfl rfl ?_
  refine r_get (k := 0) C cl3 36 dX1_findDistances_33 rfl kd_44 (by decide) wd_224 (.ref 45) (fun _ => rfl) ?_
  refine r_iconst C 37 (v := 0) dX1_findDistances_36 rfl (by decide) ?_
  refine r_iconst C 38 (v := 0) dX1_findDistances_37 rfl (by decide) ?_
  refine r_iast C 39 dX1_findDistances_38 rfl kd_45 (n_inR (n := 0) (by decide) (by decide)) ?_
  refine r_nmS (fun σ38 e38 => ?_)
  have h := h σ38 e38
  refine r_aload_n (j := 0) C 40 dX1_findDistances_39 rfl rfl ?_
  refine r_get (k := 1) C cl3 43 dX1_findDistances_40 rfl kd_44 (by decide) wd_227 (.ref 46) (fun _ => rfl) ?_
  refine r_iconst C 44 (v := 0) dX1_findDistances_43 rfl (by decide) ?_
  refine r_iconst C 45 (v := 0) dX1_findDistances_44 rfl (by decide) ?_
  refine r_iast C 46 dX1_findDistances_45 rfl kd_46 (n_inR (n := 0) (by decide) (by decide)) ?_
  refine r_nmS (fun σ45 e45 => ?_)
  have h := h σ45 e45
  refine r_aload_n (j := 0) C 47 dX1_findDistances_46 rfl rfl ?_
  refine r_iconst C 48 (v := 1) dX1_findDistances_47 rfl (by decide) ?_
  refine r_putI (k := 2) C cl3 51 dX1_findDistances_48 rfl kd_44 (by decide) wd_229 rfl rfl rfl rfl ?_
  refine r_nmS (fun σ48 e48 => ?_)
  have h := h σ48 e48
  refine r_iconst C 52 (v := 0) dX1_findDistances_51 rfl (by decide) ?_
  refine r_istore_n C 53 [(2, .int 0), (0, .ref 44), (1, .ref a)] dX1_findDistances_52 rfl (by decide) rfl ?_
  exact Ws_pick [1, 2, 0] rfl h
set_option maxRecDepth 4000 in
theorem sg_X1_findDistances_53 {x : Ctx} {K : Mem → Prop} {X : String → Mem → Prop} (C : Cx x RX1 cX1_findDistances 6) (r : RtV x 3 0 none K X) (a : Nat) (i2 : Int32) (ha : NetA a) (σ : Mem) (h : (10 ≤ i2 → K σ) ∧ (¬ 10 ≤ i2 → ((σ.1 44 2) ≤ i2 → K σ) ∧ (¬ (σ.1 44 2) ≤ i2 → (vp_in i2 10) ∧ (∀ v73 : Int32, v73 = (σ.1 46 i2.toNatClampNeg) → Ws x 0 77 [(0, .ref 44), (1, .ref a), (2, .int i2), (3, .int v73), (4, .int 0)] [] σ)))) : Ws x 0 53 [(0, .ref 44), (1, .ref a), (2, .int i2)] [] σ := by
  refine r_iload_n (j := 2) C 54 dX1_findDistances_53 rfl rfl ?_
  refine r_bipush C 56 (v := 10) dX1_findDistances_54 rfl (by decide) ?_
  refine r_icmp_ge C 187 59 dX1_findDistances_56 (by decide) rfl (fun c56 => ?_) (fun c56 => ?_)
  · have h := h.1 c56
    exact r_vret (S := []) C r dX1_findDistances_187 (by decide) h
  · have h := h.2 c56
    refine r_iload_n (j := 2) C 60 dX1_findDistances_59 rfl rfl ?_
    refine r_aload_n (j := 0) C 61 dX1_findDistances_60 rfl rfl ?_
    refine r_get (k := 2) C cl3 64 dX1_findDistances_61 rfl kd_44 (by decide) wd_229 (.int (σ.1 44 2)) (fun _ => rfl) ?_
    refine r_icmp_ge C 187 67 dX1_findDistances_64 (by decide) rfl (fun c64 => ?_) (fun c64 => ?_)
    · have h := h.1 c64
      exact r_vret (S := []) C r dX1_findDistances_187 (by decide) h
    · have h := h.2 c64
      refine r_aload_n (j := 0) C 68 dX1_findDistances_67 rfl rfl ?_
      refine r_get (k := 1) C cl3 71 dX1_findDistances_68 rfl kd_44 (by decide) wd_227 (.ref 46) (fun _ => rfl) ?_
      refine r_iload_n (j := 2) C 72 dX1_findDistances_71 rfl rfl ?_
      obtain ⟨o72, h⟩ := h
      refine r_iald C 73 dX1_findDistances_72 rfl kd_46 o72 ?_
      refine r_nmI (fun v73 e73 => ?_)
      have h := h v73 e73
      refine r_istore_n C 74 [(3, .int v73), (0, .ref 44), (1, .ref a), (2, .int i2)] dX1_findDistances_73 rfl (by decide) rfl ?_
      refine r_iconst C 75 (v := 0) dX1_findDistances_74 rfl (by decide) ?_
      refine r_istore C 77 [(4, .int 0), (3, .int v73), (0, .ref 44), (1, .ref a), (2, .int i2)] dX1_findDistances_75 rfl (by decide) rfl ?_
      exact Ws_pick [2, 3, 4, 1, 0] rfl h
set_option maxRecDepth 4000 in
theorem sg_X1_findDistances_77 {x : Ctx} {K : Mem → Prop} {X : String → Mem → Prop} (C : Cx x RX1 cX1_findDistances 6) (r : RtV x 3 0 none K X) (a : Nat) (i2 : Int32) (i3 : Int32) (i4 : Int32) (ha : NetA a) (σ : Mem) (h : ((σ.1 a 1) ≤ i4 → ∀ v181 : Int32, v181 = i2 + 1 → Ws x 0 53 [(0, .ref 44), (1, .ref a), (2, .int v181)] [] σ) ∧ (¬ (σ.1 a 1) ≤ i4 → sp_X0_farEnd a i4 i3 σ (fun r90 σ90 => sp_X4_isNode r90 σ90 (fun r97 σ97 => (r97 = 0 → ∀ v175 : Int32, v175 = i4 + 1 → Ws x 0 77 [(0, .ref 44), (1, .ref a), (2, .int i2), (3, .int i3), (4, .int v175)] [] σ97) ∧ (¬ r97 = 0 → (vp_in r90 10) ∧ ((0 ≤ (σ97.1 45 r90.toNatClampNeg) → ∀ v175 : Int32, v175 = i4 + 1 → Ws x 0 77 [(0, .ref 44), (1, .ref a), (2, .int i2), (3, .int i3), (4, .int v175)] [] σ97) ∧ (¬ 0 ≤ (σ97.1 45 r90.toNatClampNeg) → (10 ≤ (σ97.1 44 2) → ∀ v175 : Int32, v175 = i4 + 1 → Ws x 0 77 [(0, .ref 44), (1, .ref a), (2, .int i2), (3, .int i3), (4, .int v175)] [] σ97) ∧ (¬ 10 ≤ (σ97.1 44 2) → (vp_in i3 10) ∧ ((vp_in r90 10) ∧ (∀ σ136 : Mem, σ136 = wi σ97 45 r90.toNatClampNeg ((σ97.1 45 i3.toNatClampNeg) + 1) → (vp_in r90 10) ∧ (∀ σ144 : Mem, σ144 = wi σ136 47 r90.toNatClampNeg i3 → (vp_in r90 10) ∧ (∀ σ153 : Mem, σ153 = wi σ144 48 r90.toNatClampNeg i4 → (vp_in (σ153.1 44 2) 10) ∧ (∀ σ164 : Mem, σ164 = wi σ153 46 ((σ153.1 44 2)).toNatClampNeg r90 → ∀ σ172 : Mem, σ172 = wi σ164 44 2 ((σ164.1 44 2) + 1) → ∀ v175 : Int32, v175 = i4 + 1 → Ws x 0 77 [(0, .ref 44), (1, .ref a), (2, .int i2), (3, .int i3), (4, .int v175)] [] σ172)))))))))) X) X)) : Ws x 0 77 [(0, .ref 44), (1, .ref a), (2, .int i2), (3, .int i3), (4, .int i4)] [] σ := by
  refine r_iload (j := 4) C 79 dX1_findDistances_77 rfl rfl ?_
  refine r_aload_n (j := 1) C 80 dX1_findDistances_79 rfl rfl ?_
  refine r_get (k := 1) C cl2 83 dX1_findDistances_80 rfl (net0 ha) (by decide) wd_139 (.int (σ.1 a 1)) (fun _ => rfl) ?_
  refine r_icmp_ge C 181 86 dX1_findDistances_83 (by decide) rfl (fun c83 => ?_) (fun c83 => ?_)
  · have h := h.1 c83
    obtain ⟨v181, e181⟩ : ∃ y : Int32, y = i2 + 1 := ⟨_, rfl⟩
    have h := h v181 e181
    refine r_iinc (j := 2) C 184 [(2, .int v181), (0, .ref 44), (1, .ref a), (3, .int i3), (4, .int i4)] dX1_findDistances_181 rfl rfl (by rw [e181]; rfl) (by decide) rfl ?_
    refine r_goto C 53 dX1_findDistances_184 (by decide) ?_
    exact Ws_pick [1, 2, 0] rfl h
  · have h := h.2 c83
    refine r_aload_n (j := 1) C 87 dX1_findDistances_86 rfl rfl ?_
    refine r_iload (j := 4) C 89 dX1_findDistances_87 rfl rfl ?_
    refine r_iload_n (j := 3) C 90 dX1_findDistances_89 rfl rfl ?_
    refine r_cVI (as := [.int i4, .int i3]) (S := []) C r.px 93 (ct_X0_farEnd _ _ _ _ _ _ h) dX1_findDistances_90 rfl cl2 (net0 ha) wd_426 wd_425 rfl wd_424 wd_427 wd_91 yd_X0_farEnd ⟨Nat.le_of_ble_eq_true rfl, Nat.le_of_ble_eq_true rfl⟩ (Nat.le_of_ble_eq_true rfl) (by decide) (fun r90 σ90 h => ?_)
    refine r_istore C 95 [(5, .int r90), (0, .ref 44), (1, .ref a), (2, .int i2), (3, .int i3), (4, .int i4)] dX1_findDistances_93 rfl (by decide) rfl ?_
    refine r_iload (j := 0) C 97 dX1_findDistances_95 rfl rfl ?_
    refine r_cNI (b := 0) (as := [.int r90]) (S := []) C r.px 100 (ct_X4_isNode _ _ _ _ h) dX1_findDistances_97 rfl wd_429 (nbd_428) wd_430 wd_90 yd_X4_isNode ⟨Nat.le_of_ble_eq_true rfl, Nat.le_of_ble_eq_true rfl⟩ (Nat.le_of_ble_eq_true rfl) (by decide) (fun r97 σ97 h => ?_)
    refine r_if_eq C 175 103 dX1_findDistances_100 (by decide) rfl (fun c100 => ?_) (fun c100 => ?_)
    · have h := h.1 c100
      obtain ⟨v175, e175⟩ : ∃ y : Int32, y = i4 + 1 := ⟨_, rfl⟩
      have h := h v175 e175
      refine r_iinc (j := 5) C 178 [(4, .int v175), (5, .int r90), (0, .ref 44), (1, .ref a), (2, .int i2), (3, .int i3)] dX1_findDistances_175 rfl rfl (by rw [e175]; rfl) (by decide) rfl ?_
      refine r_goto C 77 dX1_findDistances_178 (by decide) ?_
      exact Ws_pick [2, 3, 4, 5, 0] rfl h
    · have h := h.2 c100
      refine r_aload_n (j := 1) C 104 dX1_findDistances_103 rfl rfl ?_
      refine r_get (k := 0) C cl3 107 dX1_findDistances_104 rfl kd_44 (by decide) wd_224 (.ref 45) (fun _ => rfl) ?_
      refine r_iload (j := 0) C 109 dX1_findDistances_107 rfl rfl ?_
      obtain ⟨o109, h⟩ := h
      refine r_iald C 110 dX1_findDistances_109 rfl kd_45 o109 ?_
      refine r_if_ge C 175 113 dX1_findDistances_110 (by decide) rfl (fun c110 => ?_) (fun c110 => ?_)
      · have h := h.1 c110
        obtain ⟨v175, e175⟩ : ∃ y : Int32, y = i4 + 1 := ⟨_, rfl⟩
        have h := h v175 e175
        refine r_iinc (j := 5) C 178 [(4, .int v175), (5, .int r90), (0, .ref 44), (1, .ref a), (2, .int i2), (3, .int i3)] dX1_findDistances_175 rfl rfl (by rw [e175]; rfl) (by decide) rfl ?_
        refine r_goto C 77 dX1_findDistances_178 (by decide) ?_
        exact Ws_pick [2, 3, 4, 5, 0] rfl h
      · have h := h.2 c110
        refine r_aload_n (j := 1) C 114 dX1_findDistances_113 rfl rfl ?_
        refine r_get (k := 2) C cl3 117 dX1_findDistances_114 rfl kd_44 (by decide) wd_229 (.int (σ97.1 44 2)) (fun _ => rfl) ?_
        refine r_bipush C 119 (v := 10) dX1_findDistances_117 rfl (by decide) ?_
        refine r_icmp_ge C 175 122 dX1_findDistances_119 (by decide) rfl (fun c119 => ?_) (fun c119 => ?_)
        · have h := h.1 c119
          obtain ⟨v175, e175⟩ : ∃ y : Int32, y = i4 + 1 := ⟨_, rfl⟩
          have h := h v175 e175
          refine r_iinc (j := 5) C 178 [(4, .int v175), (5, .int r90), (0, .ref 44), (1, .ref a), (2, .int i2), (3, .int i3)] dX1_findDistances_175 rfl rfl (by rw [e175]; rfl) (by decide) rfl ?_
          refine r_goto C 77 dX1_findDistances_178 (by decide) ?_
          exact Ws_pick [2, 3, 4, 5, 0] rfl h
        · have h := h.2 c119
          refine r_aload_n (j := 1) C 123 dX1_findDistances_122 rfl rfl ?_
          refine r_get (k := 0) C cl3 126 dX1_findDistances_123 rfl kd_44 (by decide) wd_224 (.ref 45) (fun _ => rfl) ?_
          refine r_iload (j := 0) C 128 dX1_findDistances_126 rfl rfl ?_
          refine r_aload_n (j := 1) C 129 dX1_findDistances_128 rfl rfl ?_
          refine r_get (k := 0) C cl3 132 dX1_findDistances_129 rfl kd_44 (by decide) wd_224 (.ref 45) (fun _ => rfl) ?_
          refine r_iload_n (j := 4) C 133 dX1_findDistances_132 rfl rfl ?_
          obtain ⟨o133, h⟩ := h
          refine r_iald C 134 dX1_findDistances_133 rfl kd_45 o133 ?_
          refine r_iconst C 135 (v := 1) dX1_findDistances_134 rfl (by decide) ?_
          refine r_iadd C 136 dX1_findDistances_135 rfl ?_
          obtain ⟨o136, h⟩ := h
          refine r_iast C 137 dX1_findDistances_136 rfl kd_45 o136 ?_
          refine r_nmS (fun σ136 e136 => ?_)
          have h := h σ136 e136
          refine r_aload_n (j := 1) C 138 dX1_findDistances_137 rfl rfl ?_
          refine r_get (k := 3) C cl3 141 dX1_findDistances_138 rfl kd_44 (by decide) wd_232 (.ref 47) (fun _ => rfl) ?_
          refine r_iload (j := 0) C 143 dX1_findDistances_141 rfl rfl ?_
          refine r_iload_n (j := 4) C 144 dX1_findDistances_143 rfl rfl ?_
          obtain ⟨o144, h⟩ := h
          refine r_iast C 145 dX1_findDistances_144 rfl kd_47 o144 ?_
          refine r_nmS (fun σ144 e144 => ?_)
          have h := h σ144 e144
          refine r_aload_n (j := 1) C 146 dX1_findDistances_145 rfl rfl ?_
          refine r_get (k := 4) C cl3 149 dX1_findDistances_146 rfl kd_44 (by decide) wd_234 (.ref 48) (fun _ => rfl) ?_
          refine r_iload (j := 0) C 151 dX1_findDistances_149 rfl rfl ?_
          refine r_iload (j := 5) C 153 dX1_findDistances_151 rfl rfl ?_
          obtain ⟨o153, h⟩ := h
          refine r_iast C 154 dX1_findDistances_153 rfl kd_48 o153 ?_
          refine r_nmS (fun σ153 e153 => ?_)
          have h := h σ153 e153
          refine r_aload_n (j := 1) C 155 dX1_findDistances_154 rfl rfl ?_
          refine r_get (k := 1) C cl3 158 dX1_findDistances_155 rfl kd_44 (by decide) wd_227 (.ref 46) (fun _ => rfl) ?_
          refine r_aload_n (j := 1) C 159 dX1_findDistances_158 rfl rfl ?_
          refine r_get (k := 2) C cl3 162 dX1_findDistances_159 rfl kd_44 (by decide) wd_229 (.int (σ153.1 44 2)) (fun _ => rfl) ?_
          refine r_iload (j := 0) C 164 dX1_findDistances_162 rfl rfl ?_
          obtain ⟨o164, h⟩ := h
          refine r_iast C 165 dX1_findDistances_164 rfl kd_46 o164 ?_
          refine r_nmS (fun σ164 e164 => ?_)
          have h := h σ164 e164
          refine r_aload_n (j := 1) C 166 dX1_findDistances_165 rfl rfl ?_
          refine r_dup C 167 dX1_findDistances_166 rfl rfl ?_
          refine r_get (k := 2) C cl3 170 dX1_findDistances_167 rfl kd_44 (by decide) wd_229 (.int (σ164.1 44 2)) (fun _ => rfl) ?_
          refine r_iconst C 171 (v := 1) dX1_findDistances_170 rfl (by decide) ?_
          refine r_iadd C 172 dX1_findDistances_171 rfl ?_
          refine r_putI (k := 2) C cl3 175 dX1_findDistances_172 rfl kd_44 (by decide) wd_229 rfl rfl rfl rfl ?_
          refine r_nmS (fun σ172 e172 => ?_)
          have h := h σ172 e172
          obtain ⟨v175, e175⟩ : ∃ y : Int32, y = i4 + 1 := ⟨_, rfl⟩
          have h := h v175 e175
          refine r_iinc (j := 5) C 178 [(4, .int v175), (5, .int r90), (0, .ref 44), (1, .ref a), (2, .int i2), (3, .int i3)] dX1_findDistances_175 rfl rfl (by rw [e175]; rfl) (by decide) rfl ?_
          refine r_goto C 77 dX1_findDistances_178 (by decide) ?_
          exact Ws_pick [2, 3, 4, 5, 0] rfl h
theorem vc_X1_findDistances {x : Ctx} {K : Mem → Prop} {X : String → Mem → Prop} (C : Cx x RX1 cX1_findDistances 6) (r : RtV x 3 0 none K X) (a : Nat) (σ : Mem) (h : sp_X1_findDistances a σ K X) : Ws x 0 0 [(0, .ref 44), (1, .ref a)] [] σ := by
  obtain ⟨ha, g, hg, hG, h⟩ := h
  have hfar := netA_far ha
  have hP := hg.1
  have H77 : ∀ (i : Nat) (r0 : Rec), (bs g 0 i)[i]? = some r0 → (∀ τ : Mem, Ch 44 49 σ τ → ShD (bs g 0 (i + 1)) τ → Ws x 0 53 [(0, .ref 44), (1, .ref a), (2, .int (nI (i + 1)))] [] τ) → ∀ (k : Nat) (τ : Mem), k ≤ g.1 → (Ch 44 49 σ τ ∧ ShD (bp g r0.1 r0.2.2.2 k (bs g 0 i)) τ) → Ws x 0 77 [(0, .ref 44), (1, .ref a), (2, .int (nI i)), (3, .int (nI r0.1)), (4, .int (nI k))] [] τ := by
    intro i r0 hr0 hout
    have hi : i < (bs g 0 i).length := (List.getElem?_eq_some_iff.mp hr0).1
    have hdi := bs_di (g := g) (src := 0) i
    have hn10 : r0.1 < 10 := (bs_ok hg (by decide) i).2 _ (List.mem_map.mpr ⟨r0, List.mem_of_getElem? hr0, rfl⟩)
    refine cnt g.1 (fun k τ => Ch 44 49 σ τ ∧ ShD (bp g r0.1 r0.2.2.2 k (bs g 0 i)) τ) (fun k τ => Ws x 0 77 [(0, .ref 44), (1, .ref a), (2, .int (nI i)), (3, .int (nI r0.1)), (4, .int (nI k))] [] τ) ?_ ?_
    · intro τ hM
      refine sg_X1_findDistances_77 C r a _ _ _ ha τ ?_
      have ep : τ.1 a 1 = nI g.1 := (hG.ch hM.1 (by omega)).1
      rw [ep]
      refine ⟨fun _ v e => ?_, fun c => absurd (nI_le (Nat.le_refl g.1) (by omega)) c⟩
      rw [e, nI_1]
      exact hout τ hM.1 (by rw [bs_step hr0]; exact hM.2)
    · intro k τ hk hM ih
      have hok := bp_ok hg r0.1 r0.2.2.2 (bs_ok hg (by decide : 0 < 10) i) k (by omega)
      have hdk : DiL (bp g r0.1 r0.2.2.2 k (bs g 0 i)) := bp_di hdi hi (hdi i r0 hr0) k
      refine sg_X1_findDistances_77 C r a _ _ _ ha τ ?_
      have hG' := hG.ch hM.1 (by omega)
      rw [hG'.1]
      refine ⟨fun c => absurd (n_le (by omega) (by omega) c) (by omega), fun _ => i_X0_farEnd ha (by omega) ?_⟩
      rw [fec_ac hg hG' hk hn10]
      cases ea : ac g k r0.1 with
      | none =>
        refine isNode_br (by decide) ⟨fun _ v e => ?_, fun c => absurd (by decide) c⟩
        rw [e, nI_1]
        exact ih τ (by rw [bp_none ea]; exact hM)
      | some e =>
        have he10 := (ac_lt hg hk ea).1
        refine isNode_br (node_in he10).2 ⟨fun c => absurd c (nI_pos (n := e) (by omega)), fun _ => ⟨n_inR he10 (by decide), ?_⟩⟩
        show ((0 ≤ τ.1 45 (nI e).toNatClampNeg → _) ∧ (¬ 0 ≤ τ.1 45 (nI e).toNatClampNeg → _))
        rw [n_cl (n := e) (by omega), hM.2.2.1 e he10]
        have hfi := fI_neg (o := dOf (bp g r0.1 r0.2.2.2 k (bs g 0 i)) e) (fun d hd => dOf_lt hok hdk hd)
        have hfi2 : ∀ y : Int32, ¬ 0 ≤ y ↔ y < 0 := fun y => by
          rw [Int32.le_iff_toInt_le, Int32.lt_iff_toInt_lt]; omega
        refine ⟨fun c v ev => ?_, fun c => ?_⟩
        · have hin : e ∈ nds (bp g r0.1 r0.2.2.2 k (bs g 0 i)) := Classical.byContradiction fun q => (hfi2 _).mpr (hfi.mpr (dOf_none.mpr q)) c
          rw [ev, nI_1]
          exact ih τ (by rw [bp_old ea hin]; exact hM)
        · have hne : e ∉ nds (bp g r0.1 r0.2.2.2 k (bs g 0 i)) := dOf_none.mp (hfi.mp ((hfi2 _).mp c))
          have he0 : e ≠ 0 := fun q => hne (by rw [q]; exact bp_mem (nds_0 i))
          have hlen : (bp g r0.1 r0.2.2.2 k (bs g 0 i)).length < 10 := by
            have h1 := (hok.app (r := (e, r0.1, k, r0.2.2.2 + 1)) hne he10).len
            rw [List.length_append] at h1
            simp at h1
            omega
          have hget : (bp g r0.1 r0.2.2.2 k (bs g 0 i))[i]? = some r0 := bp_get hr0
          have hdn : dOf (bp g r0.1 r0.2.2.2 k (bs g 0 i)) r0.1 = some r0.2.2.2 := by unfold dOf; rw [rOf_get hok.1 hget]; rfl
          refine ⟨fun q => (lit_ge (by decide) hlen (by rw [hM.2.1] at q; exact q)).elim, fun _ => ⟨n_inR hn10 (by decide), n_inR he10 (by decide), fun σ124 e124 => ⟨n_inR he10 (by decide), fun σ132 e132 => ⟨n_inR he10 (by decide), fun σ141 e141 => ?_⟩⟩⟩⟩
          have x1 : σ124 = wi τ 45 e (nI (r0.2.2.2 + 1)) := by
            rw [n_cl (n := r0.1) (by omega), hM.2.2.1 _ hn10, hdn] at e124
            rw [e124]
            show wi τ 45 (nI e).toNatClampNeg (nI r0.2.2.2 + 1) = _
            rw [n_cl (n := e) (by omega), nI_1]
          have x2 : σ132 = wi σ124 47 e (nI r0.1) := by
            rw [e132]
            show wi σ124 47 (nI e).toNatClampNeg _ = _
            rw [n_cl (n := e) (by omega)]
          have x3 : σ141 = wi σ132 48 e (nI k) := by
            rw [e141]
            show wi σ132 48 (nI e).toNatClampNeg _ = _
            rw [n_cl (n := e) (by omega)]
          have x4 : σ141.1 44 2 = nI (bp g r0.1 r0.2.2.2 k (bs g 0 i)).length := by
            rw [x3, x2, x1, wi_i, if_neg (fun q => absurd q.1 (by decide)), wi_i, if_neg (fun q => absurd q.1 (by decide)), wi_i, if_neg (fun q => absurd q.1 (by decide))]
            exact hM.2.1
          rw [x4]
          refine ⟨n_inR hlen (by decide), fun σ152 e152 σ160 e160 v163 e163 => ?_⟩
          have x5 : σ152 = wi σ141 46 (bp g r0.1 r0.2.2.2 k (bs g 0 i)).length (nI e) := by
            rw [e152, n_cl (by omega)]; rfl
          have x6 : σ160 = wi σ152 44 2 (nI ((bp g r0.1 r0.2.2.2 k (bs g 0 i)).length + 1)) := by
            rw [e160]
            have : σ152.1 44 2 = nI (bp g r0.1 r0.2.2.2 k (bs g 0 i)).length := by
              rw [x5, wi_i, if_neg (fun q => absurd q.1 (by decide))]; exact x4
            rw [this, nI_1]
          rw [e163, nI_1]
          refine ih σ160 ?_
          rw [bp_new ea hne, x6, x5, x3, x2, x1]
          exact ⟨((((hM.1.wi (by decide) (by decide)).wi (by decide) (by decide)).wi (by decide) (by decide)).wi (by decide) (by decide)).wi (by decide) (by decide), hM.2.new hne he0⟩
  have hend : ∀ (i : Nat) (τ : Mem), i ≤ 10 → (bs g 0 i).length ≤ i → Ch 44 49 σ τ → ShD (bs g 0 i) τ → K τ := by
    intro i τ hi hl hc hM
    have e : bfs g 0 = bs g 0 i := by
      have := bs_stop hl (10 - i)
      rw [show i + (10 - i) = 10 by omega] at this
      exact this
    exact h τ hc (by rw [e]; exact hM)
  have H53 := cnt 10 (fun i τ => i ≤ (bs g 0 i).length ∧ Ch 44 49 σ τ ∧ ShD (bs g 0 i) τ) (fun i τ => Ws x 0 53 [(0, .ref 44), (1, .ref a), (2, .int (nI i))] [] τ)
    (fun τ hM => by
      have hl := (bs_ok hg (by decide : 0 < 10) 10).len
      exact sg_X1_findDistances_53 C r a _ ha τ ⟨fun _ => hend 10 τ (Nat.le_refl _) hl hM.2.1 hM.2.2, fun c => (lit_lt (by decide) (Nat.le_refl 10) (by decide) c).elim⟩)
    (fun i τ hi hM ih => by
      have hl := (bs_ok hg (by decide : 0 < 10) i).len
      refine sg_X1_findDistances_53 C r a _ ha τ ⟨fun c => (lit_ge (by decide) hi c).elim, fun _ => ?_⟩
      rw [hM.2.2.1]
      refine ⟨fun c => hend i τ (by omega) (n_le (by omega) (by omega) c) hM.2.1 hM.2.2, fun c => ⟨n_inR hi (by decide), fun v73 e73 => ?_⟩⟩
      have hlt := n_nle (by omega) (by omega) c
      obtain ⟨r0, hr0⟩ : ∃ r0, (bs g 0 i)[i]? = some r0 := ⟨_, List.getElem?_eq_getElem hlt⟩
      rw [n_cl (by omega), hM.2.2.2.2.1 i r0 hr0] at e73
      rw [e73]
      exact H77 i r0 hr0 (fun τ' hc' hM' => ih τ' ⟨by
        obtain ⟨M, hM2⟩ := bp_pre g r0.1 r0.2.2.2 (bs g 0 i) g.1
        rw [bs_step hr0, hM2, List.length_append]
        omega, hc', hM'⟩) 0 τ (Nat.zero_le _) hM.2)
  refine sg_X1_findDistances_0 C r a ha σ ⟨by decide +kernel, by decide, by decide +kernel, by decide, by decide +kernel, by decide, by decide +kernel, by decide, fun σ38 e38 σ45 e45 σ48 e48 => ?_⟩
  refine H53 0 σ48 (Nat.zero_le _) ⟨Nat.zero_le _, ?_, ?_⟩
  · rw [e48, e45, e38]
    exact ((((((((Ch.rfl' σ).fi (by decide) (by decide)).fi (by decide) (by decide)).fi (by decide) (by decide)).fi (by decide) (by decide)).wi (by decide) (by decide)).wi (by decide) (by decide)).wi (by decide) (by decide))
  · rw [e48, e45, e38]
    have z1 : (0 : Int32) = nI 0 := rfl
    refine ⟨?_, fun j hj => ?_, fun i q hq => ?_, fun j hj => ?_, fun j hj => ?_, fun j hj => ?_⟩
    · rw [wi_i, if_pos ⟨rfl, rfl⟩]; rfl
    · rw [wi_i, if_neg (fun q => absurd q.1 (by decide)), wi_i, if_neg (fun q => absurd q.1 (by decide)), wi_i]
      by_cases c : j = 0
      · rw [if_pos ⟨rfl, c⟩, c]; rfl
      · rw [if_neg (fun q => c q.2), fi_i, if_neg (fun q => absurd q.1 (by decide)), fi_i, if_neg (fun q => absurd q.1 (by decide)), fi_i, if_neg (fun q => absurd q.1 (by decide)), fi_i, if_pos ⟨rfl, hj⟩]
        show (-1 : Int32) = fI (dOf [(0, 0, 0, 0)] j)
        have : ¬ 0 = j := fun q => c q.symm
        simp [dOf, rOf, fI, this]
    · have hz : i < 1 := (List.getElem?_eq_some_iff.mp hq).1
      rw [show i = 0 by omega] at hq ⊢
      cases hq
      rw [wi_i, if_neg (fun q => absurd q.1 (by decide)), wi_i, if_pos ⟨rfl, rfl⟩]; rfl
    · have : fOf [(0, 0, 0, 0)] j = none := by
        unfold fOf
        by_cases c : j = 0
        · rw [if_pos c]
        · rw [if_neg c]
          have : ¬ 0 = j := fun q => c q.symm
          simp [rOf, this]
      show _ = fI (fOf [(0, 0, 0, 0)] j)
      rw [this, wi_i, if_neg (fun q => absurd q.1 (by decide)), wi_i, if_neg (fun q => absurd q.1 (by decide)), wi_i, if_neg (fun q => absurd q.1 (by decide)), fi_i, if_neg (fun q => absurd q.1 (by decide)), fi_i, if_neg (fun q => absurd q.1 (by decide)), fi_i, if_pos ⟨rfl, hj⟩]; rfl
    · have : pOf [(0, 0, 0, 0)] j = none := by
        unfold pOf
        by_cases c : j = 0
        · rw [if_pos c]
        · rw [if_neg c]
          have : ¬ 0 = j := fun q => c q.symm
          simp [rOf, this]
      show _ = fI (pOf [(0, 0, 0, 0)] j)
      rw [this, wi_i, if_neg (fun q => absurd q.1 (by decide)), wi_i, if_neg (fun q => absurd q.1 (by decide)), wi_i, if_neg (fun q => absurd q.1 (by decide)), fi_i, if_neg (fun q => absurd q.1 (by decide)), fi_i, if_pos ⟨rfl, hj⟩]; rfl
    · rw [wi_i, if_neg (fun q => absurd q.1 (by decide)), wi_i, if_neg (fun q => absurd q.1 (by decide)), wi_i, if_neg (fun q => absurd q.1 (by decide)), fi_i, if_pos ⟨rfl, hj⟩]
theorem ct_X1_findDistances (a : Nat) (σ : Mem) (K : Mem → Prop) (X : String → Mem → Prop) (h : sp_X1_findDistances a σ K X) : CtV yX1_findDistances cX1_findDistances 6 none 3 0 [.ref 44, .ref a] σ K X :=
  ctV_of (by decide +kernel) (Nat.le_of_ble_eq_true rfl) (fun x C r => vc_X1_findDistances C r a σ h)
/-! HeatNetwork$Shape.nextInLoop(LHeatNetwork$Network;II)I: level 3, exceptions 0 -/
def sp_X1_nextInLoop (a : Nat) (p1 p2 : Int32) (σ : Mem) (K : Int32 → Mem → Prop) (X : String → Mem → Prop) : Prop := NetA a ∧ ∃ (g : Gr) (n p e : Nat), WG g ∧ GC σ a g ∧ n < 10 ∧ p1 = nI n ∧ p < g.1 ∧ σ.1 52 p ≠ 0 ∧ nI p ≠ p2 ∧ ac g p n = some e ∧ (∀ p' e', p' < g.1 → σ.1 52 p' ≠ 0 → nI p' ≠ p2 → ac g p' n = some e' → p' = p ∨ e < e') ∧ K (nI p) σ
set_option maxRecDepth 4000 in
theorem sg_X1_nextInLoop_0 {x : Ctx} {K : Int32 → Mem → Prop} {X : String → Mem → Prop} (C : Cx x RX1 cX1_nextInLoop 8) (r : RtI x 3 0 (some .int) K X) (a : Nat) (p1 : Int32) (p2 : Int32) (ha : NetA a) (σ : Mem) (h : Ws x 0 10 [(0, .ref 44), (1, .ref a), (2, .int p1), (3, .int p2), (4, .int (-1)), (5, .int 10), (6, .int 0)] [] σ) : Ws x 0 0 [(0, .ref 44), (1, .ref a), (2, .int p1), (3, .int p2)] [] σ := by
  refine r_iconst C 1 (v := (-1)) dX1_nextInLoop_0 rfl (by decide) ?_
  refine r_istore C 3 [(4, .int (-1)), (0, .ref 44), (1, .ref a), (2, .int p1), (3, .int p2)] dX1_nextInLoop_1 rfl (by decide) rfl ?_
  refine r_bipush C 5 (v := 10) dX1_nextInLoop_3 rfl (by decide) ?_
  refine r_istore C 7 [(5, .int 10), (4, .int (-1)), (0, .ref 44), (1, .ref a), (2, .int p1), (3, .int p2)] dX1_nextInLoop_5 rfl (by decide) rfl ?_
  refine r_iconst C 8 (v := 0) dX1_nextInLoop_7 rfl (by decide) ?_
  refine r_istore C 10 [(6, .int 0), (5, .int 10), (4, .int (-1)), (0, .ref 44), (1, .ref a), (2, .int p1), (3, .int p2)] dX1_nextInLoop_8 rfl (by decide) rfl ?_
  exact Ws_pick [3, 4, 5, 6, 2, 1, 0] rfl h
set_option maxRecDepth 4000 in
theorem sg_X1_nextInLoop_10 {x : Ctx} {K : Int32 → Mem → Prop} {X : String → Mem → Prop} (C : Cx x RX1 cX1_nextInLoop 8) (r : RtI x 3 0 (some .int) K X) (a : Nat) (i2 : Int32) (i3 : Int32) (i4 : Int32) (i5 : Int32) (i6 : Int32) (ha : NetA a) (σ : Mem) (h : ((σ.1 a 1) ≤ i6 → K i4 σ) ∧ (¬ (σ.1 a 1) ≤ i6 → sp_X0_farEnd a i6 i2 σ (fun r23 σ23 => (vp_in i6 10) ∧ (((σ23.1 52 i6.toNatClampNeg) = 0 → ∀ v67 : Int32, v67 = i6 + 1 → Ws x 0 10 [(0, .ref 44), (1, .ref a), (2, .int i2), (3, .int i3), (4, .int i4), (5, .int i5), (6, .int v67)] [] σ23) ∧ (¬ (σ23.1 52 i6.toNatClampNeg) = 0 → (i6 = i3 → ∀ v67 : Int32, v67 = i6 + 1 → Ws x 0 10 [(0, .ref 44), (1, .ref a), (2, .int i2), (3, .int i3), (4, .int i4), (5, .int i5), (6, .int v67)] [] σ23) ∧ (¬ i6 = i3 → sp_X4_isNode r23 σ23 (fun r46 σ46 => (r46 = 0 → ∀ v67 : Int32, v67 = i6 + 1 → Ws x 0 10 [(0, .ref 44), (1, .ref a), (2, .int i2), (3, .int i3), (4, .int i4), (5, .int i5), (6, .int v67)] [] σ46) ∧ (¬ r46 = 0 → (i5 ≤ r23 → ∀ v67 : Int32, v67 = i6 + 1 → Ws x 0 10 [(0, .ref 44), (1, .ref a), (2, .int i2), (3, .int i3), (4, .int i4), (5, .int i5), (6, .int v67)] [] σ46) ∧ (¬ i5 ≤ r23 → ∀ v67 : Int32, v67 = i6 + 1 → Ws x 0 10 [(0, .ref 44), (1, .ref a), (2, .int i2), (3, .int i3), (4, .int i6), (5, .int r23), (6, .int v67)] [] σ46))) X)))) X)) : Ws x 0 10 [(0, .ref 44), (1, .ref a), (2, .int i2), (3, .int i3), (4, .int i4), (5, .int i5), (6, .int i6)] [] σ := by
  refine r_iload (j := 6) C 12 dX1_nextInLoop_10 rfl rfl ?_
  refine r_aload_n (j := 1) C 13 dX1_nextInLoop_12 rfl rfl ?_
  refine r_get (k := 1) C cl2 16 dX1_nextInLoop_13 rfl (net0 ha) (by decide) wd_139 (.int (σ.1 a 1)) (fun _ => rfl) ?_
  refine r_icmp_ge C 73 19 dX1_nextInLoop_16 (by decide) rfl (fun c16 => ?_) (fun c16 => ?_)
  · have h := h.1 c16
    refine r_iload (j := 4) C 75 dX1_nextInLoop_73 rfl rfl ?_
    exact r_iret (S := []) C r dX1_nextInLoop_75 (by decide) rfl h
  · have h := h.2 c16
    refine r_aload_n (j := 1) C 20 dX1_nextInLoop_19 rfl rfl ?_
    refine r_iload (j := 6) C 22 dX1_nextInLoop_20 rfl rfl ?_
    refine r_iload_n (j := 2) C 23 dX1_nextInLoop_22 rfl rfl ?_
    refine r_cVI (as := [.int i6, .int i2]) (S := []) C r.px 26 (ct_X0_farEnd _ _ _ _ _ _ h) dX1_nextInLoop_23 rfl cl2 (net0 ha) wd_426 wd_425 rfl wd_424 wd_427 wd_91 yd_X0_farEnd ⟨Nat.le_of_ble_eq_true rfl, Nat.le_of_ble_eq_true rfl⟩ (Nat.le_of_ble_eq_true rfl) (by decide) (fun r23 σ23 h => ?_)
    refine r_istore C 28 [(7, .int r23), (0, .ref 44), (1, .ref a), (2, .int i2), (3, .int i3), (4, .int i4), (5, .int i5), (6, .int i6)] dX1_nextInLoop_26 rfl (by decide) rfl ?_
    refine r_aload_n (j := 1) C 29 dX1_nextInLoop_28 rfl rfl ?_
    refine r_get (k := 9) C cl3 32 dX1_nextInLoop_29 rfl kd_44 (by decide) wd_246 (.ref 52) (fun _ => rfl) ?_
    refine r_iload (j := 7) C 34 dX1_nextInLoop_32 rfl rfl ?_
    obtain ⟨o34, h⟩ := h
    refine r_zald C 35 dX1_nextInLoop_34 rfl kd_52 o34 ?_
    refine r_if_eq C 67 38 dX1_nextInLoop_35 (by decide) rfl (fun c35 => ?_) (fun c35 => ?_)
    · have h := h.1 c35
      obtain ⟨v67, e67⟩ : ∃ y : Int32, y = i6 + 1 := ⟨_, rfl⟩
      have h := h v67 e67
      refine r_iinc (j := 7) C 70 [(6, .int v67), (7, .int r23), (0, .ref 44), (1, .ref a), (2, .int i2), (3, .int i3), (4, .int i4), (5, .int i5)] dX1_nextInLoop_67 rfl rfl (by rw [e67]; rfl) (by decide) rfl ?_
      refine r_goto C 10 dX1_nextInLoop_70 (by decide) ?_
      exact Ws_pick [2, 3, 4, 5, 6, 7, 0] rfl h
    · have h := h.2 c35
      refine r_iload (j := 7) C 40 dX1_nextInLoop_38 rfl rfl ?_
      refine r_iload_n (j := 4) C 41 dX1_nextInLoop_40 rfl rfl ?_
      refine r_icmp_eq C 67 44 dX1_nextInLoop_41 (by decide) rfl (fun c41 => ?_) (fun c41 => ?_)
      · have h := h.1 c41
        obtain ⟨v67, e67⟩ : ∃ y : Int32, y = i6 + 1 := ⟨_, rfl⟩
        have h := h v67 e67
        refine r_iinc (j := 7) C 70 [(6, .int v67), (7, .int r23), (0, .ref 44), (1, .ref a), (2, .int i2), (3, .int i3), (4, .int i4), (5, .int i5)] dX1_nextInLoop_67 rfl rfl (by rw [e67]; rfl) (by decide) rfl ?_
        refine r_goto C 10 dX1_nextInLoop_70 (by decide) ?_
        exact Ws_pick [2, 3, 4, 5, 6, 7, 0] rfl h
      · have h := h.2 c41
        refine r_iload (j := 0) C 46 dX1_nextInLoop_44 rfl rfl ?_
        refine r_cNI (b := 0) (as := [.int r23]) (S := []) C r.px 49 (ct_X4_isNode _ _ _ _ h) dX1_nextInLoop_46 rfl wd_429 (nbd_428) wd_430 wd_90 yd_X4_isNode ⟨Nat.le_of_ble_eq_true rfl, Nat.le_of_ble_eq_true rfl⟩ (Nat.le_of_ble_eq_true rfl) (by decide) (fun r46 σ46 h => ?_)
        refine r_if_eq C 67 52 dX1_nextInLoop_49 (by decide) rfl (fun c49 => ?_) (fun c49 => ?_)
        · have h := h.1 c49
          obtain ⟨v67, e67⟩ : ∃ y : Int32, y = i6 + 1 := ⟨_, rfl⟩
          have h := h v67 e67
          refine r_iinc (j := 7) C 70 [(6, .int v67), (7, .int r23), (0, .ref 44), (1, .ref a), (2, .int i2), (3, .int i3), (4, .int i4), (5, .int i5)] dX1_nextInLoop_67 rfl rfl (by rw [e67]; rfl) (by decide) rfl ?_
          refine r_goto C 10 dX1_nextInLoop_70 (by decide) ?_
          exact Ws_pick [2, 3, 4, 5, 6, 7, 0] rfl h
        · have h := h.2 c49
          refine r_iload (j := 0) C 54 dX1_nextInLoop_52 rfl rfl ?_
          refine r_iload (j := 6) C 56 dX1_nextInLoop_54 rfl rfl ?_
          refine r_icmp_ge C 67 59 dX1_nextInLoop_56 (by decide) rfl (fun c56 => ?_) (fun c56 => ?_)
          · have h := h.1 c56
            obtain ⟨v67, e67⟩ : ∃ y : Int32, y = i6 + 1 := ⟨_, rfl⟩
            have h := h v67 e67
            refine r_iinc (j := 7) C 70 [(6, .int v67), (7, .int r23), (0, .ref 44), (1, .ref a), (2, .int i2), (3, .int i3), (4, .int i4), (5, .int i5)] dX1_nextInLoop_67 rfl rfl (by rw [e67]; rfl) (by decide) rfl ?_
            refine r_goto C 10 dX1_nextInLoop_70 (by decide) ?_
            exact Ws_pick [2, 3, 4, 5, 6, 7, 0] rfl h
          · have h := h.2 c56
            refine r_iload (j := 7) C 61 dX1_nextInLoop_59 rfl rfl ?_
            refine r_istore C 63 [(4, .int i6), (7, .int r23), (0, .ref 44), (1, .ref a), (2, .int i2), (3, .int i3), (5, .int i5), (6, .int i6)] dX1_nextInLoop_61 rfl (by decide) rfl ?_
            refine r_iload (j := 1) C 65 dX1_nextInLoop_63 rfl rfl ?_
            refine r_istore C 67 [(5, .int r23), (4, .int i6), (7, .int r23), (0, .ref 44), (1, .ref a), (2, .int i2), (3, .int i3), (6, .int i6)] dX1_nextInLoop_65 rfl (by decide) rfl ?_
            obtain ⟨v67, e67⟩ : ∃ y : Int32, y = i6 + 1 := ⟨_, rfl⟩
            have h := h v67 e67
            refine r_iinc (j := 7) C 70 [(6, .int v67), (5, .int r23), (4, .int i6), (7, .int r23), (0, .ref 44), (1, .ref a), (2, .int i2), (3, .int i3)] dX1_nextInLoop_67 rfl rfl (by rw [e67]; rfl) (by decide) rfl ?_
            refine r_goto C 10 dX1_nextInLoop_70 (by decide) ?_
            exact Ws_pick [4, 5, 6, 7, 2, 1, 0] rfl h
theorem vc_X1_nextInLoop {x : Ctx} {K : Int32 → Mem → Prop} {X : String → Mem → Prop} (C : Cx x RX1 cX1_nextInLoop 8) (r : RtI x 3 0 (some .int) K X) (a : Nat) (p1 p2 : Int32) (σ : Mem) (h : sp_X1_nextInLoop a p1 p2 σ K X) : Ws x 0 0 [(0, .ref 44), (1, .ref a), (2, .int p1), (3, .int p2)] [] σ := by
  obtain ⟨ha, g, n, p, e, hg, hG, hn, e1, hp, hz, hb, hac, hmin, hK⟩ := h
  have hP := hg.1
  have he10 := (ac_lt hg hp hac).1
  rw [e1]
  refine sg_X1_nextInLoop_0 C r a _ _ ha σ ?_
  refine cnt g.1 (fun k (s : Int32 × Int32) => (k ≤ p → ∃ f, s.2 = nI f ∧ e < f ∧ f ≤ 10) ∧ (p < k → s = (nI p, nI e))) (fun k s => Ws x 0 10 [(0, .ref 44), (1, .ref a), (2, .int (nI n)), (3, .int p2), (4, .int s.1), (5, .int s.2), (6, .int (nI k))] [] σ) ?_ ?_ 0 (-1, 10) (Nat.zero_le _) ⟨fun _ => ⟨10, rfl, he10, Nat.le_refl _⟩, fun q => absurd q (Nat.not_lt_zero p)⟩
  · intro s hI
    refine sg_X1_nextInLoop_10 C r a _ _ _ _ _ ha σ ?_
    rw [hG.1]
    refine ⟨fun _ => ?_, fun c => absurd (nI_le (Nat.le_refl g.1) (by omega)) c⟩
    rw [hI.2 hp]; exact hK
  · intro k s hk hI ih
    refine sg_X1_nextInLoop_10 C r a _ _ _ _ _ ha σ ?_
    rw [hG.1]
    refine ⟨fun c => absurd (n_le (by omega) (by omega) c) (by omega), fun _ => i_X0_farEnd ha (by omega) ?_⟩
    rw [fec_ac hg hG hk hn, n_cl (by omega)]
    have skip : k ≠ p → ∀ v64 : Int32, v64 = nI k + 1 → Ws x 0 10 [(0, .ref 44), (1, .ref a), (2, .int (nI n)), (3, .int p2), (4, .int s.1), (5, .int s.2), (6, .int v64)] [] σ := fun hne v ev => by
      rw [ev, nI_1]
      exact ih s ⟨fun q => hI.1 (by omega), fun q => hI.2 (by omega)⟩
    refine ⟨n_inR (by omega) (by decide), fun c => skip (fun q => hz (by rw [← q]; exact c)), fun c => ⟨fun c1 => skip (fun q => hb (by rw [← q]; exact c1)), fun c1 => ?_⟩⟩
    cases ea : ac g k n with
    | none =>
      refine isNode_br (by decide) ⟨fun _ => skip (fun q => by rw [q, hac] at ea; cases ea), fun c2 => absurd (by decide) c2⟩
    | some e' =>
      have he' := (ac_lt hg hk ea).1
      refine isNode_br (node_in he').2 ⟨fun c2 => absurd c2 (nI_pos (n := e') (by omega)), fun _ => ?_⟩
      show (s.2 ≤ nI e' → _) ∧ (¬ s.2 ≤ nI e' → ∀ v64 : Int32, v64 = nI k + 1 → Ws x 0 10 [(0, .ref 44), (1, .ref a), (2, .int (nI n)), (3, .int p2), (4, .int (nI k)), (5, .int (nI e')), (6, .int v64)] [] σ)
      by_cases kp : k = p
      · rw [kp, hac] at ea
        cases ea
        obtain ⟨f, f1, f2, f3⟩ := hI.1 (by omega)
        rw [f1]
        refine ⟨fun q => absurd (n_le (by omega) (by omega) q) (by omega), fun _ v ev => ?_⟩
        rw [ev, nI_1]
        exact ih (nI k, nI e) ⟨fun q => absurd q (by omega), fun _ => by rw [kp]⟩
      · have hlt : e < e' := by
          rcases hmin k e' hk c c1 ea with q | q
          · exact absurd q kp
          · exact q
        refine ⟨fun _ => skip kp, fun q v ev => ?_⟩
        rw [ev, nI_1]
        refine ih (nI k, nI e') ⟨fun _ => ⟨e', rfl, hlt, by omega⟩, fun q2 => ?_⟩
        have := hI.2 (by omega)
        rw [this] at q
        exact absurd (nI_le (a := e) (b := e') (by omega) (by omega)) q
theorem ct_X1_nextInLoop (a : Nat) (p1 : Int32) (p2 : Int32) (σ : Mem) (K : Int32 → Mem → Prop) (X : String → Mem → Prop) (h : sp_X1_nextInLoop a p1 p2 σ K X) : CtI yX1_nextInLoop cX1_nextInLoop 8 (some .int) 3 0 [.ref 44, .ref a, .int p1, .int p2] σ K X :=
  ctI_of (by decide +kernel) (Nat.le_of_ble_eq_true rfl) (fun x C r => vc_X1_nextInLoop C r a p1 p2 σ h)
