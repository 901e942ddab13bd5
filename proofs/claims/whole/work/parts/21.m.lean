/-! HeatNetwork$Shape.goRound(LHeatNetwork$Network;I)V: level 4, exceptions 0 -/
/-- the loop's rows -/
def ShL (c : Lp) (τ : Mem) : Prop := τ.1 44 8 = nI c.1 ∧ ∀ i, i < c.1 → τ.1 50 i = nI (c.2.1 i) ∧ τ.1 51 i = nI (c.2.2 i)
def sp_X1_goRound (a : Nat) (p1 : Int32) (σ : Mem) (K : Mem → Prop) (X : String → Mem → Prop) : Prop := NetA a ∧ ∃ (g : Gr) (c : Lp), WG g ∧ GC σ a g ∧ LPo g (bfs g 0) c ∧ 0 < c.1 ∧ p1 = nI (c.2.1 0) ∧ (∀ p, p < g.1 → (σ.1 52 p ≠ 0 ↔ inQ c p)) ∧ ∀ τ : Mem, Ch 44 51 σ τ → (∀ k, k ≠ 8 → τ.1 44 k = σ.1 44 k) → (∀ b k, 45 ≤ b → b < 50 → τ.1 b k = σ.1 b k) → ShL c τ → K τ
set_option maxRecDepth 4000 in
theorem sg_X1_goRound_0 {x : Ctx} {K : Mem → Prop} {X : String → Mem → Prop} (C : Cx x RX1 cX1_goRound 6) (r : RtV x 4 0 none K X) (a : Nat) (p1 : Int32) (ha : NetA a) (σ : Mem) (h : Ws x 0 8 [(0, .ref 44), (1, .ref a), (2, .int p1), (3, .int p1), (4, .int (-1)), (5, .int 0)] [] σ) : Ws x 0 0 [(0, .ref 44), (1, .ref a), (2, .int p1)] [] σ := by
  refine r_iload_n (j := 2) C 1 dX1_goRound_0 rfl rfl ?_
  refine r_istore_n C 2 [(3, .int p1), (0, .ref 44), (1, .ref a), (2, .int p1)] dX1_goRound_1 rfl (by decide) rfl ?_
  refine r_iconst C 3 (v := (-1)) dX1_goRound_2 rfl (by decide) ?_
  refine r_istore C 5 [(4, .int (-1)), (3, .int p1), (0, .ref 44), (1, .ref a), (2, .int p1)] dX1_goRound_3 rfl (by decide) rfl ?_
  refine r_iconst C 6 (v := 0) dX1_goRound_5 rfl (by decide) ?_
  refine r_istore C 8 [(5, .int 0), (4, .int (-1)), (3, .int p1), (0, .ref 44), (1, .ref a), (2, .int p1)] dX1_goRound_6 rfl (by decide) rfl ?_
  exact Ws_pick [3, 4, 5, 2, 1, 0] rfl h
set_option maxRecDepth 4000 in
theorem sg_X1_goRound_8 {x : Ctx} {K : Mem → Prop} {X : String → Mem → Prop} (C : Cx x RX1 cX1_goRound 6) (r : RtV x 4 0 none K X) (a : Nat) (i2 : Int32) (i3 : Int32) (i4 : Int32) (i5 : Int32) (ha : NetA a) (σ : Mem) (h : (10 ≤ i5 → K σ) ∧ (¬ 10 ≤ i5 → (i5 = 0 → sp_X1_nextInLoop a i3 i4 σ (fun r30 σ30 => sp_X4_isPipe r30 σ30 (fun r37 σ37 => (¬ r37 = 0 → (vp_in i5 10) ∧ (∀ σ51 : Mem, σ51 = wi σ37 50 i5.toNatClampNeg i3 → (vp_in i5 10) ∧ (∀ σ60 : Mem, σ60 = wi σ51 51 i5.toNatClampNeg r30 → ∀ σ66 : Mem, σ66 = wi σ60 44 8 (i5 + 1) → sp_X0_farEnd a r30 i3 σ66 (fun r73 σ73 => ∀ v77 : Int32, v77 = i5 + 1 → Ws x 0 8 [(0, .ref 44), (1, .ref a), (2, .int i2), (3, .int r73), (4, .int r30), (5, .int v77)] [] σ73) X))) ∧ (r37 = 0 → K σ37)) X) X) ∧ (¬ i5 = 0 → (i3 = i2 → K σ) ∧ (¬ i3 = i2 → sp_X1_nextInLoop a i3 i4 σ (fun r30 σ30 => sp_X4_isPipe r30 σ30 (fun r37 σ37 => (¬ r37 = 0 → (vp_in i5 10) ∧ (∀ σ51 : Mem, σ51 = wi σ37 50 i5.toNatClampNeg i3 → (vp_in i5 10) ∧ (∀ σ60 : Mem, σ60 = wi σ51 51 i5.toNatClampNeg r30 → ∀ σ66 : Mem, σ66 = wi σ60 44 8 (i5 + 1) → sp_X0_farEnd a r30 i3 σ66 (fun r73 σ73 => ∀ v77 : Int32, v77 = i5 + 1 → Ws x 0 8 [(0, .ref 44), (1, .ref a), (2, .int i2), (3, .int r73), (4, .int r30), (5, .int v77)] [] σ73) X))) ∧ (r37 = 0 → K σ37)) X) X)))) : Ws x 0 8 [(0, .ref 44), (1, .ref a), (2, .int i2), (3, .int i3), (4, .int i4), (5, .int i5)] [] σ := by
  refine r_iload (j := 5) C 10 dX1_goRound_8 rfl rfl ?_
  refine r_bipush C 12 (v := 10) dX1_goRound_10 rfl (by decide) ?_
  refine r_icmp_ge C 83 15 dX1_goRound_12 (by decide) rfl (fun c12 => ?_) (fun c12 => ?_)
  · have h := h.1 c12
    exact r_vret (S := []) C r dX1_goRound_83 (by decide) h
  · have h := h.2 c12
    refine r_iload (j := 5) C 17 dX1_goRound_15 rfl rfl ?_
    refine r_if_eq C 25 20 dX1_goRound_17 (by decide) rfl (fun c17 => ?_) (fun c17 => ?_)
    · have h := h.1 c17
      refine r_aload_n (j := 0) C 26 dX1_goRound_25 rfl rfl ?_
      refine r_aload_n (j := 1) C 27 dX1_goRound_26 rfl rfl ?_
      refine r_iload_n (j := 3) C 28 dX1_goRound_27 rfl rfl ?_
      refine r_iload (j := 4) C 30 dX1_goRound_28 rfl rfl ?_
      refine r_cVI (as := [.ref a, .int i3, .int i4]) (S := []) C r.px 33 (ct_X1_nextInLoop _ _ _ _ _ _ h) dX1_goRound_30 rfl cl3 kd_44 wd_6 wd_455 rfl wd_453 wd_456 wd_92 yd_X1_nextInLoop ⟨Nat.le_of_ble_eq_true rfl, Nat.le_of_ble_eq_true rfl⟩ (Nat.le_of_ble_eq_true rfl) (by decide) (fun r30 σ30 h => ?_)
      refine r_istore C 35 [(4, .int r30), (0, .ref 44), (1, .ref a), (2, .int i2), (3, .int i3), (5, .int i5)] dX1_goRound_33 rfl (by decide) rfl ?_
      refine r_iload (j := 0) C 37 dX1_goRound_35 rfl rfl ?_
      refine r_cNI (b := 0) (as := [.int r30]) (S := []) C r.px 40 (ct_X4_isPipe _ _ _ _ h) dX1_goRound_37 rfl wd_443 (nbd_442) wd_444 wd_90 yd_X4_isPipe ⟨Nat.le_of_ble_eq_true rfl, Nat.le_of_ble_eq_true rfl⟩ (Nat.le_of_ble_eq_true rfl) (by decide) (fun r37 σ37 h => ?_)
      refine r_if_ne C 44 43 dX1_goRound_40 (by decide) rfl (fun c40 => ?_) (fun c40 => ?_)
      · have h := h.1 c40
        refine r_aload_n (j := 1) C 45 dX1_goRound_44 rfl rfl ?_
        refine r_get (k := 6) C cl3 48 dX1_goRound_45 rfl kd_44 (by decide) wd_238 (.ref 50) (fun _ => rfl) ?_
        refine r_iload (j := 5) C 50 dX1_goRound_48 rfl rfl ?_
        refine r_iload_n (j := 4) C 51 dX1_goRound_50 rfl rfl ?_
        obtain ⟨o51, h⟩ := h
        refine r_iast C 52 dX1_goRound_51 rfl kd_50 o51 ?_
        refine r_nmS (fun σ51 e51 => ?_)
        have h := h σ51 e51
        refine r_aload_n (j := 1) C 53 dX1_goRound_52 rfl rfl ?_
        refine r_get (k := 7) C cl3 56 dX1_goRound_53 rfl kd_44 (by decide) wd_241 (.ref 51) (fun _ => rfl) ?_
        refine r_iload (j := 5) C 58 dX1_goRound_56 rfl rfl ?_
        refine r_iload (j := 0) C 60 dX1_goRound_58 rfl rfl ?_
        obtain ⟨o60, h⟩ := h
        refine r_iast C 61 dX1_goRound_60 rfl kd_51 o60 ?_
        refine r_nmS (fun σ60 e60 => ?_)
        have h := h σ60 e60
        refine r_aload_n (j := 1) C 62 dX1_goRound_61 rfl rfl ?_
        refine r_iload (j := 5) C 64 dX1_goRound_62 rfl rfl ?_
        refine r_iconst C 65 (v := 1) dX1_goRound_64 rfl (by decide) ?_
        refine r_iadd C 66 dX1_goRound_65 rfl ?_
        refine r_putI (k := 8) C cl3 69 dX1_goRound_66 rfl kd_44 (by decide) wd_243 rfl rfl rfl rfl ?_
        refine r_nmS (fun σ66 e66 => ?_)
        have h := h σ66 e66
        refine r_aload_n (j := 2) C 70 dX1_goRound_69 rfl rfl ?_
        refine r_iload (j := 0) C 72 dX1_goRound_70 rfl rfl ?_
        refine r_iload_n (j := 4) C 73 dX1_goRound_72 rfl rfl ?_
        refine r_cVI (as := [.int r30, .int i3]) (S := []) C r.px 76 (ct_X0_farEnd _ _ _ _ _ _ h) dX1_goRound_73 rfl cl2 (net0 ha) wd_426 wd_425 rfl wd_424 wd_427 wd_91 yd_X0_farEnd ⟨Nat.le_of_ble_eq_true rfl, Nat.le_of_ble_eq_true rfl⟩ (Nat.le_of_ble_eq_true rfl) (by decide) (fun r73 σ73 h => ?_)
        refine r_istore_n C 77 [(3, .int r73), (4, .int r30), (0, .ref 44), (1, .ref a), (2, .int i2), (5, .int i5)] dX1_goRound_76 rfl (by decide) rfl ?_
        obtain ⟨v77, e77⟩ : ∃ y : Int32, y = i5 + 1 := ⟨_, rfl⟩
        have h := h v77 e77
        refine r_iinc (j := 5) C 80 [(5, .int v77), (3, .int r73), (4, .int r30), (0, .ref 44), (1, .ref a), (2, .int i2)] dX1_goRound_77 rfl rfl (by rw [e77]; rfl) (by decide) rfl ?_
        refine r_goto C 8 dX1_goRound_80 (by decide) ?_
        exact Ws_pick [3, 4, 5, 1, 2, 0] rfl h
      · have h := h.2 c40
        exact r_vret (S := []) C r dX1_goRound_43 (by decide) h
    · have h := h.2 c17
      refine r_iload_n (j := 3) C 21 dX1_goRound_20 rfl rfl ?_
      refine r_iload_n (j := 2) C 22 dX1_goRound_21 rfl rfl ?_
      refine r_icmp_eq C 83 25 dX1_goRound_22 (by decide) rfl (fun c22 => ?_) (fun c22 => ?_)
      · have h := h.1 c22
        exact r_vret (S := []) C r dX1_goRound_83 (by decide) h
      · have h := h.2 c22
        refine r_aload_n (j := 0) C 26 dX1_goRound_25 rfl rfl ?_
        refine r_aload_n (j := 1) C 27 dX1_goRound_26 rfl rfl ?_
        refine r_iload_n (j := 3) C 28 dX1_goRound_27 rfl rfl ?_
        refine r_iload (j := 4) C 30 dX1_goRound_28 rfl rfl ?_
        refine r_cVI (as := [.ref a, .int i3, .int i4]) (S := []) C r.px 33 (ct_X1_nextInLoop _ _ _ _ _ _ h) dX1_goRound_30 rfl cl3 kd_44 wd_6 wd_455 rfl wd_453 wd_456 wd_92 yd_X1_nextInLoop ⟨Nat.le_of_ble_eq_true rfl, Nat.le_of_ble_eq_true rfl⟩ (Nat.le_of_ble_eq_true rfl) (by decide) (fun r30 σ30 h => ?_)
        refine r_istore C 35 [(4, .int r30), (0, .ref 44), (1, .ref a), (2, .int i2), (3, .int i3), (5, .int i5)] dX1_goRound_33 rfl (by decide) rfl ?_
        refine r_iload (j := 0) C 37 dX1_goRound_35 rfl rfl ?_
        refine r_cNI (b := 0) (as := [.int r30]) (S := []) C r.px 40 (ct_X4_isPipe _ _ _ _ h) dX1_goRound_37 rfl wd_443 (nbd_442) wd_444 wd_90 yd_X4_isPipe ⟨Nat.le_of_ble_eq_true rfl, Nat.le_of_ble_eq_true rfl⟩ (Nat.le_of_ble_eq_true rfl) (by decide) (fun r37 σ37 h => ?_)
        refine r_if_ne C 44 43 dX1_goRound_40 (by decide) rfl (fun c40 => ?_) (fun c40 => ?_)
        · have h := h.1 c40
          refine r_aload_n (j := 1) C 45 dX1_goRound_44 rfl rfl ?_
          refine r_get (k := 6) C cl3 48 dX1_goRound_45 rfl kd_44 (by decide) wd_238 (.ref 50) (fun _ => rfl) ?_
          refine r_iload (j := 5) C 50 dX1_goRound_48 rfl rfl ?_
          refine r_iload_n (j := 4) C 51 dX1_goRound_50 rfl rfl ?_
          obtain ⟨o51, h⟩ := h
          refine r_iast C 52 dX1_goRound_51 rfl kd_50 o51 ?_
          refine r_nmS (fun σ51 e51 => ?_)
          have h := h σ51 e51
          refine r_aload_n (j := 1) C 53 dX1_goRound_52 rfl rfl ?_
          refine r_get (k := 7) C cl3 56 dX1_goRound_53 rfl kd_44 (by decide) wd_241 (.ref 51) (fun _ => rfl) ?_
          refine r_iload (j := 5) C 58 dX1_goRound_56 rfl rfl ?_
          refine r_iload (j := 0) C 60 dX1_goRound_58 rfl rfl ?_
          obtain ⟨o60, h⟩ := h
          refine r_iast C 61 dX1_goRound_60 rfl kd_51 o60 ?_
          refine r_nmS (fun σ60 e60 => ?_)
          have h := h σ60 e60
          refine r_aload_n (j := 1) C 62 dX1_goRound_61 rfl rfl ?_
          refine r_iload (j := 5) C 64 dX1_goRound_62 rfl rfl ?_
          refine r_iconst C 65 (v := 1) dX1_goRound_64 rfl (by decide) ?_
          refine r_iadd C 66 dX1_goRound_65 rfl ?_
          refine r_putI (k := 8) C cl3 69 dX1_goRound_66 rfl kd_44 (by decide) wd_243 rfl rfl rfl rfl ?_
          refine r_nmS (fun σ66 e66 => ?_)
          have h := h σ66 e66
          refine r_aload_n (j := 2) C 70 dX1_goRound_69 rfl rfl ?_
          refine r_iload (j := 0) C 72 dX1_goRound_70 rfl rfl ?_
          refine r_iload_n (j := 4) C 73 dX1_goRound_72 rfl rfl ?_
          refine r_cVI (as := [.int r30, .int i3]) (S := []) C r.px 76 (ct_X0_farEnd _ _ _ _ _ _ h) dX1_goRound_73 rfl cl2 (net0 ha) wd_426 wd_425 rfl wd_424 wd_427 wd_91 yd_X0_farEnd ⟨Nat.le_of_ble_eq_true rfl, Nat.le_of_ble_eq_true rfl⟩ (Nat.le_of_ble_eq_true rfl) (by decide) (fun r73 σ73 h => ?_)
          refine r_istore_n C 77 [(3, .int r73), (4, .int r30), (0, .ref 44), (1, .ref a), (2, .int i2), (5, .int i5)] dX1_goRound_76 rfl (by decide) rfl ?_
          obtain ⟨v77, e77⟩ : ∃ y : Int32, y = i5 + 1 := ⟨_, rfl⟩
          have h := h v77 e77
          refine r_iinc (j := 5) C 80 [(5, .int v77), (3, .int r73), (4, .int r30), (0, .ref 44), (1, .ref a), (2, .int i2)] dX1_goRound_77 rfl rfl (by rw [e77]; rfl) (by decide) rfl ?_
          refine r_goto C 8 dX1_goRound_80 (by decide) ?_
          exact Ws_pick [3, 4, 5, 1, 2, 0] rfl h
        · have h := h.2 c40
          exact r_vret (S := []) C r dX1_goRound_43 (by decide) h
theorem vc_X1_goRound {x : Ctx} {K : Mem → Prop} {X : String → Mem → Prop} (C : Cx x RX1 cX1_goRound 6) (r : RtV x 4 0 none K X) (a : Nat) (p1 : Int32) (σ : Mem) (h : sp_X1_goRound a p1 σ K X) : Ws x 0 0 [(0, .ref 44), (1, .ref a), (2, .int p1)] [] σ := by
  obtain ⟨ha, g, c, hg, hG, hL, hc0, e1, hQ, hK⟩ := h
  have hP := hg.1
  have hT := bfs_tre hg (by decide : 0 < 10)
  have hfar := netA_far ha
  have hle := hL.1.le hT
  have h3 : 3 ≤ c.1 := by rcases hL.1.2.2.1 with q | q <;> omega
  have hor : c.2.1 1 < c.2.1 (c.1 - 1) := by rcases hL.2 with q | q <;> omega
  have n10 : ∀ i, i < c.1 → c.2.1 i < 10 := fun i hi => hT.lt (hL.1.2.2.2.1 i hi)
  rw [e1]
  refine sg_X1_goRound_0 C r a _ ha σ ?_
  have key := cnt c.1 (fun k τ => Ch 44 51 σ τ ∧ (∀ k, k ≠ 8 → τ.1 44 k = σ.1 44 k) ∧ (∀ b k, 45 ≤ b → b < 50 → τ.1 b k = σ.1 b k) ∧ (0 < k → τ.1 44 8 = nI k) ∧ ∀ i, i < k → τ.1 50 i = nI (c.2.1 i) ∧ τ.1 51 i = nI (c.2.2 i)) (fun k τ => Ws x 0 8 [(0, .ref 44), (1, .ref a), (2, .int (nI (c.2.1 0))), (3, .int (nI (c.2.1 (if k = c.1 then 0 else k)))), (4, .int (if k = 0 then -1 else nI (c.2.2 (k - 1)))), (5, .int (nI k))] [] τ) (fun τ hI => by
    have fin : K τ := hK τ hI.1 hI.2.1 hI.2.2.1 ⟨hI.2.2.2.1 hc0, hI.2.2.2.2⟩
    rw [if_pos rfl]
    refine sg_X1_goRound_8 C r a _ _ _ _ ha τ ⟨fun _ => fin, fun _ => ⟨fun q => ?_, fun _ => ⟨fun _ => fin, fun q => absurd rfl q⟩⟩⟩
    exact absurd ((nI_eq (b := 0) (by omega) (by decide)).mp q) (by omega)) (fun k τ hk hI ih => by
    rw [if_neg (by omega)]
    have hG' := hG.ch hI.1 (by omega)
    have ck := n10 k hk
    have en : c.2.1 (nxt c k) = c.2.1 (if k + 1 = c.1 then 0 else k + 1) := rfl
    have hQ' : ∀ p, p < g.1 → (τ.1 52 p ≠ 0 ↔ inQ c p) := fun p hp => by rw [(hI.1.1 52 p (by omega)).1]; exact hQ p hp
    obtain ⟨b1, b2⟩ := hL.1.2.1 k hk
    have pl : ∀ i, i < c.1 → c.2.2 i < g.1 := fun i hi => (hL.1.2.1 i hi).1
    have step : sp_X1_nextInLoop a (nI (c.2.1 k)) (if k = 0 then -1 else nI (c.2.2 (k - 1))) τ (fun r30 σ30 => sp_X4_isPipe r30 σ30 (fun r37 σ37 => (¬ r37 = 0 → (vp_in (nI k) 10) ∧ (∀ σ48 : Mem, σ48 = wi σ37 50 (nI k).toNatClampNeg (nI (c.2.1 k)) → (vp_in (nI k) 10) ∧ (∀ σ57 : Mem, σ57 = wi σ48 51 (nI k).toNatClampNeg r30 → ∀ σ63 : Mem, σ63 = wi σ57 44 8 (nI k + 1) → sp_X0_farEnd a r30 (nI (c.2.1 k)) σ63 (fun r70 σ70 => ∀ v74 : Int32, v74 = nI k + 1 → Ws x 0 8 [(0, .ref 44), (1, .ref a), (2, .int (nI (c.2.1 0))), (3, .int r70), (4, .int r30), (5, .int v74)] [] σ70) X))) ∧ (r37 = 0 → K σ37)) X) X := by
      refine ⟨ha, g, c.2.1 k, c.2.2 k, c.2.1 (nxt c k), hg, hG', ck, rfl, b1, (hQ' _ b1).mpr ⟨k, hk, rfl⟩, ?_, b2, fun p' e' hp' hz hb hac => ?_, isPipe_rb (pipe_in (p := c.2.2 k) (by omega)) ⟨fun _ => ⟨n_inR (by omega) (by decide), fun σ48 e48 => ⟨n_inR (by omega) (by decide), fun σ57 e57 σ63 e63 => ?_⟩⟩, fun q => absurd (nI_pos' (by omega)) q⟩⟩
      · by_cases k0 : k = 0
        · rw [if_pos k0]
          intro q
          have h0 := nI_pos (n := c.2.2 k) (by omega)
          rw [q] at h0
          exact h0 (by decide)
        · rw [if_neg k0]
          intro q
          have := pl (k - 1) (by omega)
          have := hL.1.pinj hk (by omega) (nI_eqP (by omega) (by omega) q)
          omega
      · rcases hL.1.at hk hac ((hQ' p' hp').mp hz) with ⟨q, -⟩ | ⟨q, q'⟩
        · exact .inl q
        · by_cases k0 : k = 0
          · right
            have z1 : prv c k = c.1 - 1 := by unfold prv; rw [if_pos k0]
            have z2 : nxt c k = 1 := by unfold nxt; rw [if_neg (by omega), k0]
            rw [q', z1, z2]
            exact hor
          · rw [if_neg k0] at hb
            have z1 : prv c k = k - 1 := by unfold prv; rw [if_neg k0]
            rw [q, z1] at hb
            exact absurd rfl hb
      · rw [n_cl (by omega)] at e48 e57
        rw [nI_1] at e63
        have hc : Ch 44 51 σ σ63 := by
          rw [e63, e57, e48]
          exact ((hI.1.wi (by decide) (by decide)).wi (by decide) (by decide)).wi (by decide) (by decide)
        have hG2 := hG.ch hc (by omega)
        refine i_X0_farEnd ha (by omega) ?_
        rw [fec_ac hg hG2 b1 ck, b2]
        show ∀ v74 : Int32, v74 = nI k + 1 → Ws x 0 8 [(0, .ref 44), (1, .ref a), (2, .int (nI (c.2.1 0))), (3, .int (nI (c.2.1 (nxt c k)))), (4, .int (nI (c.2.2 k))), (5, .int v74)] [] σ63
        intro v74 e74
        rw [e74, nI_1]
        refine ih σ63 ⟨hc, fun j hj => ?_, fun b j hb1 hb2 => ?_, fun _ => ?_, fun i hi => ?_⟩
        · rw [e63, e57, e48, wi_i, if_neg (fun q => hj q.2), wi_i, if_neg (fun q => absurd q.1 (by decide)), wi_i, if_neg (fun q => absurd q.1 (by decide))]
          exact hI.2.1 j hj
        · rw [e63, e57, e48, wi_i, if_neg (fun q => by omega), wi_i, if_neg (fun q => by omega), wi_i, if_neg (fun q => by omega)]
          exact hI.2.2.1 b j hb1 hb2
        · rw [e63, wi_i, if_pos ⟨rfl, rfl⟩]
        · have f1 : σ63.1 50 i = if i = k then nI (c.2.1 k) else τ.1 50 i := by
            rw [e63, e57, e48, wi_i, if_neg (fun q => absurd q.1 (by decide)), wi_i, if_neg (fun q => absurd q.1 (by decide)), wi_i]
            by_cases d : i = k
            · rw [if_pos ⟨rfl, d⟩, if_pos d]
            · rw [if_neg (fun q => d q.2), if_neg d]
          have f2 : σ63.1 51 i = if i = k then nI (c.2.2 k) else τ.1 51 i := by
            rw [e63, e57, e48, wi_i, if_neg (fun q => absurd q.1 (by decide)), wi_i]
            by_cases d : i = k
            · rw [if_pos ⟨rfl, d⟩, if_pos d]
            · rw [if_neg (fun q => d q.2), if_neg d, wi_i, if_neg (fun q => absurd q.1 (by decide))]
          rw [f1, f2]
          by_cases d : i = k
          · rw [if_pos d, if_pos d, d]; exact ⟨rfl, rfl⟩
          · rw [if_neg d, if_neg d]; exact hI.2.2.2.2 i (by omega)
    refine sg_X1_goRound_8 C r a _ _ _ _ ha τ ⟨fun q => (lit_ge (by decide) (by omega : k < 10) q).elim, fun _ => ⟨fun _ => step, fun q => ⟨fun q2 => ?_, fun _ => step⟩⟩⟩
    have k0 : k ≠ 0 := fun w => q (by rw [w]; rfl)
    have := hL.1.1 _ _ hk hc0 (nI_eqP ck (n10 0 hc0) q2)
    exact absurd this k0) 0 σ (Nat.zero_le _) ⟨Ch.rfl' σ, fun _ _ => rfl, fun _ _ _ _ => rfl, fun q => absurd q (Nat.not_lt_zero 0), fun i hi => absurd hi (Nat.not_lt_zero i)⟩
  rw [if_neg (by omega)] at key
  exact key
theorem ct_X1_goRound (a : Nat) (p1 : Int32) (σ : Mem) (K : Mem → Prop) (X : String → Mem → Prop) (h : sp_X1_goRound a p1 σ K X) : CtV yX1_goRound cX1_goRound 6 none 4 0 [.ref 44, .ref a, .int p1] σ K X :=
  ctV_of (by decide +kernel) (Nat.le_of_ble_eq_true rfl) (fun x C r => vc_X1_goRound C r a p1 σ h)
/-! HeatNetwork$Shape.climb(I)I: level 2, exceptions 0 -/
def sp_X1_climb (p0 : Int32) (σ : Mem) (K : Int32 → Mem → Prop) (X : String → Mem → Prop) : Prop := ((vp_in p0 10) ∧ (∀ v6 : Int32, v6 = (σ.1 48 p0.toNatClampNeg) → sp_X4_isPipe v6 σ (fun r8 σ8 => (r8 = 0 → (vp_in p0 10) ∧ (K (σ8.1 47 p0.toNatClampNeg) σ8)) ∧ (¬ r8 = 0 → (vp_in v6 10) ∧ (∀ σ20 : Mem, σ20 = wi σ8 52 v6.toNatClampNeg 1 → (vp_in p0 10) ∧ (K (σ20.1 47 p0.toNatClampNeg) σ20)))) X))
set_option maxRecDepth 4000 in
theorem sg_X1_climb_0 {x : Ctx} {K : Int32 → Mem → Prop} {X : String → Mem → Prop} (C : Cx x RX1 cX1_climb 3) (r : RtI x 2 0 (some .int) K X) (p0 : Int32)  (σ : Mem) (h : (vp_in p0 10) ∧ (∀ v6 : Int32, v6 = (σ.1 48 p0.toNatClampNeg) → sp_X4_isPipe v6 σ (fun r8 σ8 => (r8 = 0 → (vp_in p0 10) ∧ (K (σ8.1 47 p0.toNatClampNeg) σ8)) ∧ (¬ r8 = 0 → (vp_in v6 10) ∧ (∀ σ20 : Mem, σ20 = wi σ8 52 v6.toNatClampNeg 1 → (vp_in p0 10) ∧ (K (σ20.1 47 p0.toNatClampNeg) σ20)))) X)) : Ws x 0 0 [(0, .ref 44), (1, .int p0)] [] σ := by
  refine r_aload_n (j := 0) C 1 dX1_climb_0 rfl rfl ?_
  refine r_get (k := 4) C cl3 4 dX1_climb_1 rfl kd_44 (by decide) wd_234 (.ref 48) (fun _ => rfl) ?_
  refine r_iload_n (j := 1) C 5 dX1_climb_4 rfl rfl ?_
  obtain ⟨o5, h⟩ := h
  refine r_iald C 6 dX1_climb_5 rfl kd_48 o5 ?_
  refine r_nmI (fun v6 e6 => ?_)
  have h := h v6 e6
  refine r_istore_n C 7 [(2, .int v6), (0, .ref 44), (1, .int p0)] dX1_climb_6 rfl (by decide) rfl ?_
  refine r_iload_n (j := 0) C 8 dX1_climb_7 rfl rfl ?_
  refine r_cNI (b := 0) (as := [.int v6]) (S := []) C r.px 11 (ct_X4_isPipe _ _ _ _ h) dX1_climb_8 rfl wd_443 (nbd_442) wd_444 wd_90 yd_X4_isPipe ⟨Nat.le_of_ble_eq_true rfl, Nat.le_of_ble_eq_true rfl⟩ (Nat.le_of_ble_eq_true rfl) (by decide) (fun r8 σ8 h => ?_)
  refine r_if_eq C 21 14 dX1_climb_11 (by decide) rfl (fun c11 => ?_) (fun c11 => ?_)
  · have h := h.1 c11
    refine r_aload_n (j := 1) C 22 dX1_climb_21 rfl rfl ?_
    refine r_get (k := 3) C cl3 25 dX1_climb_22 rfl kd_44 (by decide) wd_232 (.ref 47) (fun _ => rfl) ?_
    refine r_iload_n (j := 2) C 26 dX1_climb_25 rfl rfl ?_
    obtain ⟨o26, h⟩ := h
    refine r_iald C 27 dX1_climb_26 rfl kd_47 o26 ?_
    exact r_iret (S := []) C r dX1_climb_27 (by decide) rfl h
  · have h := h.2 c11
    refine r_aload_n (j := 1) C 15 dX1_climb_14 rfl rfl ?_
    refine r_get (k := 9) C cl3 18 dX1_climb_15 rfl kd_44 (by decide) wd_246 (.ref 52) (fun _ => rfl) ?_
    refine r_iload_n (j := 0) C 19 dX1_climb_18 rfl rfl ?_
    refine r_iconst C 20 (v := 1) dX1_climb_19 rfl (by decide) ?_
    obtain ⟨o20, h⟩ := h
    refine r_zast C 21 dX1_climb_20 rfl kd_52 o20 (by decide) ?_
    refine r_nmS (fun σ20 e20 => ?_)
    have h := h σ20 e20
    refine r_aload_n (j := 1) C 22 dX1_climb_21 rfl rfl ?_
    refine r_get (k := 3) C cl3 25 dX1_climb_22 rfl kd_44 (by decide) wd_232 (.ref 47) (fun _ => rfl) ?_
    refine r_iload_n (j := 2) C 26 dX1_climb_25 rfl rfl ?_
    obtain ⟨o26, h⟩ := h
    refine r_iald C 27 dX1_climb_26 rfl kd_47 o26 ?_
    exact r_iret (S := []) C r dX1_climb_27 (by decide) rfl h
theorem ct_X1_climb (p0 : Int32) (σ : Mem) (K : Int32 → Mem → Prop) (X : String → Mem → Prop) (h : sp_X1_climb p0 σ K X) : CtI yX1_climb cX1_climb 3 (some .int) 2 0 [.ref 44, .int p0] σ K X := by
  have h := h
  exact ctI_of (by decide +kernel) (Nat.le_of_ble_eq_true rfl) (fun x C r => sg_X1_climb_0 C r p0  σ h)
/-! HeatNetwork$Shape.findLoop(LHeatNetwork$Network;)V: level 5, exceptions 0 -/
def sp_X1_findLoop (a : Nat) (σ : Mem) (K : Mem → Prop) (X : String → Mem → Prop) : Prop := NetA a ∧ ∃ g : Gr, WG g ∧ Own g ∧ NoPar g ∧ GC σ a g ∧ ShD (bfs g 0) σ ∧ ∀ (τ : Mem) (c : Lp), Ch 44 52 σ τ → ShD (bfs g 0) τ → LPo g (bfs g 0) c → ShL c τ → (∀ p, p < 10 → (τ.1 52 p ≠ 0 ↔ inQ c p)) → K τ
set_option maxRecDepth 4000 in
theorem sg_X1_findLoop_0 {x : Ctx} {K : Mem → Prop} {X : String → Mem → Prop} (C : Cx x RX1 cX1_findLoop 6) (r : RtV x 5 0 none K X) (a : Nat) (ha : NetA a) (σ : Mem) (h : Ws x 0 2 [(0, .ref 44), (1, .ref a), (2, .int 0)] [] σ) : Ws x 0 0 [(0, .ref 44), (1, .ref a)] [] σ := by
  refine r_iconst C 1 (v := 0) dX1_findLoop_0 rfl (by decide) ?_
  refine r_istore_n C 2 [(2, .int 0), (0, .ref 44), (1, .ref a)] dX1_findLoop_1 rfl (by decide) rfl ?_
  exact Ws_pick [1, 2, 0] rfl h
set_option maxRecDepth 4000 in
theorem sg_X1_findLoop_2 {x : Ctx} {K : Mem → Prop} {X : String → Mem → Prop} (C : Cx x RX1 cX1_findLoop 6) (r : RtV x 5 0 none K X) (a : Nat) (i2 : Int32) (ha : NetA a) (σ : Mem) (h : (10 ≤ i2 → ∀ σ23 : Mem, σ23 = wi σ 44 8 0 → sp_X1_closingPipe a σ23 (fun r28 σ28 => sp_X4_isPipe r28 σ28 (fun r33 σ33 => (¬ r33 = 0 → (vp_in r28 10) ∧ (∀ σ46 : Mem, σ46 = wi σ33 52 r28.toNatClampNeg 1 → (vp_in r28 10) ∧ (∀ v53 : Int32, v53 = (σ46.1 (a + 2) r28.toNatClampNeg) → (vp_in r28 10) ∧ (∀ v60 : Int32, v60 = (σ46.1 (a + 3) r28.toNatClampNeg) → Ws x 0 65 [(0, .ref 44), (1, .ref a), (3, .int v53), (4, .int v60), (5, .int 0)] [] σ46)))) ∧ (r33 = 0 → K σ33)) X) X) ∧ (¬ 10 ≤ i2 → (vp_in i2 10) ∧ (∀ σ14 : Mem, σ14 = wi σ 52 i2.toNatClampNeg 0 → ∀ v15 : Int32, v15 = i2 + 1 → Ws x 0 2 [(0, .ref 44), (1, .ref a), (2, .int v15)] [] σ14))) : Ws x 0 2 [(0, .ref 44), (1, .ref a), (2, .int i2)] [] σ := by
  refine r_iload_n (j := 2) C 3 dX1_findLoop_2 rfl rfl ?_
  refine r_bipush C 5 (v := 10) dX1_findLoop_3 rfl (by decide) ?_
  refine r_icmp_ge C 21 8 dX1_findLoop_5 (by decide) rfl (fun c5 => ?_) (fun c5 => ?_)
  · have h := h.1 c5
    refine r_aload_n (j := 0) C 22 dX1_findLoop_21 rfl rfl ?_
    refine r_iconst C 23 (v := 0) dX1_findLoop_22 rfl (by decide) ?_
    refine r_putI (k := 8) C cl3 26 dX1_findLoop_23 rfl kd_44 (by decide) wd_243 rfl rfl rfl rfl ?_
    refine r_nmS (fun σ23 e23 => ?_)
    have h := h σ23 e23
    refine r_aload_n (j := 0) C 27 dX1_findLoop_26 rfl rfl ?_
    refine r_aload_n (j := 1) C 28 dX1_findLoop_27 rfl rfl ?_
    refine r_cVI (as := [.ref a]) (S := []) C r.px 31 (ct_X1_closingPipe _ _ _ _ h) dX1_findLoop_28 rfl cl3 kd_44 wd_3 wd_440 rfl wd_438 wd_441 wd_92 yd_X1_closingPipe ⟨Nat.le_of_ble_eq_true rfl, Nat.le_of_ble_eq_true rfl⟩ (Nat.le_of_ble_eq_true rfl) (by decide) (fun r28 σ28 h => ?_)
    refine r_istore_n C 32 [(2, .int r28), (0, .ref 44), (1, .ref a)] dX1_findLoop_31 rfl (by decide) rfl ?_
    refine r_iload_n (j := 0) C 33 dX1_findLoop_32 rfl rfl ?_
    refine r_cNI (b := 0) (as := [.int r28]) (S := []) C r.px 36 (ct_X4_isPipe _ _ _ _ h) dX1_findLoop_33 rfl wd_443 (nbd_442) wd_444 wd_90 yd_X4_isPipe ⟨Nat.le_of_ble_eq_true rfl, Nat.le_of_ble_eq_true rfl⟩ (Nat.le_of_ble_eq_true rfl) (by decide) (fun r33 σ33 h => ?_)
    refine r_if_ne C 40 39 dX1_findLoop_36 (by decide) rfl (fun c36 => ?_) (fun c36 => ?_)
    · have h := h.1 c36
      refine r_aload_n (j := 1) C 41 dX1_findLoop_40 rfl rfl ?_
      refine r_get (k := 9) C cl3 44 dX1_findLoop_41 rfl kd_44 (by decide) wd_246 (.ref 52) (fun _ => rfl) ?_
      refine r_iload_n (j := 0) C 45 dX1_findLoop_44 rfl rfl ?_
      refine r_iconst C 46 (v := 1) dX1_findLoop_45 rfl (by decide) ?_
      obtain ⟨o46, h⟩ := h
      refine r_zast C 47 dX1_findLoop_46 rfl kd_52 o46 (by decide) ?_
      refine r_nmS (fun σ46 e46 => ?_)
      have h := h σ46 e46
      refine r_aload_n (j := 2) C 48 dX1_findLoop_47 rfl rfl ?_
      refine r_get (k := 2) C cl2 51 dX1_findLoop_48 rfl (net0 ha) (by decide) wd_141 (.ref (a + 2)) (fun _ => rfl) ?_
      refine r_iload_n (j := 0) C 52 dX1_findLoop_51 rfl rfl ?_
      obtain ⟨o52, h⟩ := h
      refine r_iald C 53 dX1_findLoop_52 rfl (net2 ha) o52 ?_
      refine r_nmI (fun v53 e53 => ?_)
      have h := h v53 e53
      refine r_istore_n C 54 [(3, .int v53), (2, .int r28), (0, .ref 44), (1, .ref a)] dX1_findLoop_53 rfl (by decide) rfl ?_
      refine r_aload_n (j := 3) C 55 dX1_findLoop_54 rfl rfl ?_
      refine r_get (k := 3) C cl2 58 dX1_findLoop_55 rfl (net0 ha) (by decide) wd_145 (.ref (a + 3)) (fun _ => rfl) ?_
      refine r_iload_n (j := 1) C 59 dX1_findLoop_58 rfl rfl ?_
      obtain ⟨o59, h⟩ := h
      refine r_iald C 60 dX1_findLoop_59 rfl (net3 ha) o59 ?_
      refine r_nmI (fun v60 e60 => ?_)
      have h := h v60 e60
      refine r_istore C 62 [(4, .int v60), (3, .int v53), (2, .int r28), (0, .ref 44), (1, .ref a)] dX1_findLoop_60 rfl (by decide) rfl ?_
      refine r_iconst C 63 (v := 0) dX1_findLoop_62 rfl (by decide) ?_
      refine r_istore C 65 [(5, .int 0), (4, .int v60), (3, .int v53), (2, .int r28), (0, .ref 44), (1, .ref a)] dX1_findLoop_63 rfl (by decide) rfl ?_
      exact Ws_pick [4, 5, 2, 1, 0] rfl h
    · have h := h.2 c36
      exact r_vret (S := []) C r dX1_findLoop_39 (by decide) h
  · have h := h.2 c5
    refine r_aload_n (j := 0) C 9 dX1_findLoop_8 rfl rfl ?_
    refine r_get (k := 9) C cl3 12 dX1_findLoop_9 rfl kd_44 (by decide) wd_246 (.ref 52) (fun _ => rfl) ?_
    refine r_iload_n (j := 2) C 13 dX1_findLoop_12 rfl rfl ?_
    refine r_iconst C 14 (v := 0) dX1_findLoop_13 rfl (by decide) ?_
    obtain ⟨o14, h⟩ := h
    refine r_zast C 15 dX1_findLoop_14 rfl kd_52 o14 (by decide) ?_
    refine r_nmS (fun σ14 e14 => ?_)
    have h := h σ14 e14
    obtain ⟨v15, e15⟩ : ∃ y : Int32, y = i2 + 1 := ⟨_, rfl⟩
    have h := h v15 e15
    refine r_iinc (j := 2) C 18 [(2, .int v15), (0, .ref 44), (1, .ref a)] dX1_findLoop_15 rfl rfl (by rw [e15]; rfl) (by decide) rfl ?_
    refine r_goto C 2 dX1_findLoop_18 (by decide) ?_
    exact Ws_pick [1, 2, 0] rfl h
set_option maxRecDepth 4000 in
theorem sg_X1_findLoop_65 {x : Ctx} {K : Mem → Prop} {X : String → Mem → Prop} (C : Cx x RX1 cX1_findLoop 6) (r : RtV x 5 0 none K X) (a : Nat) (i3 : Int32) (i4 : Int32) (i5 : Int32) (ha : NetA a) (σ : Mem) (h : (10 ≤ i5 → sp_X1_goRound a i3 σ (fun σ135 => K σ135) X) ∧ (¬ 10 ≤ i5 → (i3 = i4 → sp_X1_goRound a i3 σ (fun σ135 => K σ135) X) ∧ (¬ i3 = i4 → sp_X4_isNode i3 σ (fun r79 σ79 => (r79 = 0 → sp_X1_goRound a i3 σ79 (fun σ135 => K σ135) X) ∧ (¬ r79 = 0 → sp_X4_isNode i4 σ79 (fun r87 σ87 => (r87 = 0 → sp_X1_goRound a i3 σ87 (fun σ135 => K σ135) X) ∧ (¬ r87 = 0 → (vp_in i3 10) ∧ ((vp_in i4 10) ∧ (((σ87.1 45 i3.toNatClampNeg) < (σ87.1 45 i4.toNatClampNeg) → sp_X1_climb i4 σ87 (fun r121 σ121 => ∀ v126 : Int32, v126 = i5 + 1 → Ws x 0 65 [(0, .ref 44), (1, .ref a), (3, .int i3), (4, .int r121), (5, .int v126)] [] σ121) X) ∧ (¬ (σ87.1 45 i3.toNatClampNeg) < (σ87.1 45 i4.toNatClampNeg) → sp_X1_climb i3 σ87 (fun r111 σ111 => ∀ v126 : Int32, v126 = i5 + 1 → Ws x 0 65 [(0, .ref 44), (1, .ref a), (3, .int r111), (4, .int i4), (5, .int v126)] [] σ111) X))))) X)) X))) : Ws x 0 65 [(0, .ref 44), (1, .ref a), (3, .int i3), (4, .int i4), (5, .int i5)] [] σ := by
  refine r_iload (j := 4) C 67 dX1_findLoop_65 rfl rfl ?_
  refine r_bipush C 69 (v := 10) dX1_findLoop_67 rfl (by decide) ?_
  refine r_icmp_ge C 132 72 dX1_findLoop_69 (by decide) rfl (fun c69 => ?_) (fun c69 => ?_)
  · have h := h.1 c69
    refine r_aload_n (j := 0) C 133 dX1_findLoop_132 rfl rfl ?_
    refine r_aload_n (j := 1) C 134 dX1_findLoop_133 rfl rfl ?_
    refine r_iload_n (j := 2) C 135 dX1_findLoop_134 rfl rfl ?_
    refine r_cVV (as := [.ref a, .int i3]) (S := []) C r.px 138 (ct_X1_goRound _ _ _ _ _ h) dX1_findLoop_135 rfl cl3 kd_44 wd_5 wd_451 rfl wd_449 wd_452 wd_92 yd_X1_goRound ⟨Nat.le_of_ble_eq_true rfl, Nat.le_of_ble_eq_true rfl⟩ (Nat.le_of_ble_eq_true rfl) (by decide) (fun σ135 h => ?_)
    exact r_vret (S := []) C r dX1_findLoop_138 (by decide) h
  · have h := h.2 c69
    refine r_iload_n (j := 2) C 73 dX1_findLoop_72 rfl rfl ?_
    refine r_iload (j := 3) C 75 dX1_findLoop_73 rfl rfl ?_
    refine r_icmp_eq C 132 78 dX1_findLoop_75 (by decide) rfl (fun c75 => ?_) (fun c75 => ?_)
    · have h := h.1 c75
      refine r_aload_n (j := 0) C 133 dX1_findLoop_132 rfl rfl ?_
      refine r_aload_n (j := 1) C 134 dX1_findLoop_133 rfl rfl ?_
      refine r_iload_n (j := 2) C 135 dX1_findLoop_134 rfl rfl ?_
      refine r_cVV (as := [.ref a, .int i3]) (S := []) C r.px 138 (ct_X1_goRound _ _ _ _ _ h) dX1_findLoop_135 rfl cl3 kd_44 wd_5 wd_451 rfl wd_449 wd_452 wd_92 yd_X1_goRound ⟨Nat.le_of_ble_eq_true rfl, Nat.le_of_ble_eq_true rfl⟩ (Nat.le_of_ble_eq_true rfl) (by decide) (fun σ135 h => ?_)
      exact r_vret (S := []) C r dX1_findLoop_138 (by decide) h
    · have h := h.2 c75
      refine r_iload_n (j := 2) C 79 dX1_findLoop_78 rfl rfl ?_
      refine r_cNI (b := 0) (as := [.int i3]) (S := []) C r.px 82 (ct_X4_isNode _ _ _ _ h) dX1_findLoop_79 rfl wd_429 (nbd_428) wd_430 wd_90 yd_X4_isNode ⟨Nat.le_of_ble_eq_true rfl, Nat.le_of_ble_eq_true rfl⟩ (Nat.le_of_ble_eq_true rfl) (by decide) (fun r79 σ79 h => ?_)
      refine r_if_eq C 132 85 dX1_findLoop_82 (by decide) rfl (fun c82 => ?_) (fun c82 => ?_)
      · have h := h.1 c82
        refine r_aload_n (j := 0) C 133 dX1_findLoop_132 rfl rfl ?_
        refine r_aload_n (j := 1) C 134 dX1_findLoop_133 rfl rfl ?_
        refine r_iload_n (j := 2) C 135 dX1_findLoop_134 rfl rfl ?_
        refine r_cVV (as := [.ref a, .int i3]) (S := []) C r.px 138 (ct_X1_goRound _ _ _ _ _ h) dX1_findLoop_135 rfl cl3 kd_44 wd_5 wd_451 rfl wd_449 wd_452 wd_92 yd_X1_goRound ⟨Nat.le_of_ble_eq_true rfl, Nat.le_of_ble_eq_true rfl⟩ (Nat.le_of_ble_eq_true rfl) (by decide) (fun σ135 h => ?_)
        exact r_vret (S := []) C r dX1_findLoop_138 (by decide) h
      · have h := h.2 c82
        refine r_iload (j := 3) C 87 dX1_findLoop_85 rfl rfl ?_
        refine r_cNI (b := 0) (as := [.int i4]) (S := []) C r.px 90 (ct_X4_isNode _ _ _ _ h) dX1_findLoop_87 rfl wd_429 (nbd_428) wd_430 wd_90 yd_X4_isNode ⟨Nat.le_of_ble_eq_true rfl, Nat.le_of_ble_eq_true rfl⟩ (Nat.le_of_ble_eq_true rfl) (by decide) (fun r87 σ87 h => ?_)
        refine r_if_eq C 132 93 dX1_findLoop_90 (by decide) rfl (fun c90 => ?_) (fun c90 => ?_)
        · have h := h.1 c90
          refine r_aload_n (j := 0) C 133 dX1_findLoop_132 rfl rfl ?_
          refine r_aload_n (j := 1) C 134 dX1_findLoop_133 rfl rfl ?_
          refine r_iload_n (j := 2) C 135 dX1_findLoop_134 rfl rfl ?_
          refine r_cVV (as := [.ref a, .int i3]) (S := []) C r.px 138 (ct_X1_goRound _ _ _ _ _ h) dX1_findLoop_135 rfl cl3 kd_44 wd_5 wd_451 rfl wd_449 wd_452 wd_92 yd_X1_goRound ⟨Nat.le_of_ble_eq_true rfl, Nat.le_of_ble_eq_true rfl⟩ (Nat.le_of_ble_eq_true rfl) (by decide) (fun σ135 h => ?_)
          exact r_vret (S := []) C r dX1_findLoop_138 (by decide) h
        · have h := h.2 c90
          refine r_aload_n (j := 0) C 94 dX1_findLoop_93 rfl rfl ?_
          refine r_get (k := 0) C cl3 97 dX1_findLoop_94 rfl kd_44 (by decide) wd_224 (.ref 45) (fun _ => rfl) ?_
          refine r_iload_n (j := 2) C 98 dX1_findLoop_97 rfl rfl ?_
          obtain ⟨o98, h⟩ := h
          refine r_iald C 99 dX1_findLoop_98 rfl kd_45 o98 ?_
          refine r_aload_n (j := 0) C 100 dX1_findLoop_99 rfl rfl ?_
          refine r_get (k := 0) C cl3 103 dX1_findLoop_100 rfl kd_44 (by decide) wd_224 (.ref 45) (fun _ => rfl) ?_
          refine r_iload (j := 3) C 105 dX1_findLoop_103 rfl rfl ?_
          obtain ⟨o105, h⟩ := h
          refine r_iald C 106 dX1_findLoop_105 rfl kd_45 o105 ?_
          refine r_icmp_lt C 118 109 dX1_findLoop_106 (by decide) rfl (fun c106 => ?_) (fun c106 => ?_)
          · have h := h.1 c106
            refine r_aload_n (j := 0) C 119 dX1_findLoop_118 rfl rfl ?_
            refine r_iload (j := 3) C 121 dX1_findLoop_119 rfl rfl ?_
            refine r_cVI (as := [.int i4]) (S := []) C r.px 124 (ct_X1_climb _ _ _ _ h) dX1_findLoop_121 rfl cl3 kd_44 wd_4 wd_447 rfl wd_445 wd_448 wd_92 yd_X1_climb ⟨Nat.le_of_ble_eq_true rfl, Nat.le_of_ble_eq_true rfl⟩ (Nat.le_of_ble_eq_true rfl) (by decide) (fun r121 σ121 h => ?_)
            refine r_istore C 126 [(4, .int r121), (0, .ref 44), (1, .ref a), (3, .int i3), (5, .int i5)] dX1_findLoop_124 rfl (by decide) rfl ?_
            obtain ⟨v126, e126⟩ : ∃ y : Int32, y = i5 + 1 := ⟨_, rfl⟩
            have h := h v126 e126
            refine r_iinc (j := 4) C 129 [(5, .int v126), (4, .int r121), (0, .ref 44), (1, .ref a), (3, .int i3)] dX1_findLoop_126 rfl rfl (by rw [e126]; rfl) (by decide) rfl ?_
            refine r_goto C 65 dX1_findLoop_129 (by decide) ?_
            exact Ws_pick [2, 3, 4, 1, 0] rfl h
          · have h := h.2 c106
            refine r_aload_n (j := 0) C 110 dX1_findLoop_109 rfl rfl ?_
            refine r_iload_n (j := 2) C 111 dX1_findLoop_110 rfl rfl ?_
            refine r_cVI (as := [.int i3]) (S := []) C r.px 114 (ct_X1_climb _ _ _ _ h) dX1_findLoop_111 rfl cl3 kd_44 wd_4 wd_447 rfl wd_445 wd_448 wd_92 yd_X1_climb ⟨Nat.le_of_ble_eq_true rfl, Nat.le_of_ble_eq_true rfl⟩ (Nat.le_of_ble_eq_true rfl) (by decide) (fun r111 σ111 h => ?_)
            refine r_istore_n C 115 [(3, .int r111), (0, .ref 44), (1, .ref a), (4, .int i4), (5, .int i5)] dX1_findLoop_114 rfl (by decide) rfl ?_
            refine r_goto C 126 dX1_findLoop_115 (by decide) ?_
            obtain ⟨v126, e126⟩ : ∃ y : Int32, y = i5 + 1 := ⟨_, rfl⟩
            have h := h v126 e126
            refine r_iinc (j := 4) C 129 [(5, .int v126), (3, .int r111), (0, .ref 44), (1, .ref a), (4, .int i4)] dX1_findLoop_126 rfl rfl (by rw [e126]; rfl) (by decide) rfl ?_
            refine r_goto C 65 dX1_findLoop_129 (by decide) ?_
            exact Ws_pick [2, 3, 1, 4, 0] rfl h
theorem ShD.eq {L : List Rec} {σ τ : Mem} (h : ShD L σ) (h0 : τ.1 44 2 = σ.1 44 2) (h1 : ∀ b k, 45 ≤ b → b < 50 → τ.1 b k = σ.1 b k) : ShD L τ := by
  obtain ⟨a1, a2, a3, a4, a5, a6⟩ := h
  exact ⟨by rw [h0]; exact a1, fun j hj => by rw [h1 45 j (by decide) (by decide)]; exact a2 j hj, fun i r hr => by rw [h1 46 i (by decide) (by decide)]; exact a3 i r hr, fun j hj => by rw [h1 47 j (by decide) (by decide)]; exact a4 j hj, fun j hj => by rw [h1 48 j (by decide) (by decide)]; exact a5 j hj, fun j hj => by rw [h1 49 j (by decide) (by decide)]; exact a6 j hj⟩
theorem i_X1_climb {n p : Nat} {f : Int32} {σ : Mem} {K : Int32 → Mem → Prop} {X : String → Mem → Prop} (hn : n < 10) (hp : p < 10) (h8 : σ.1 48 n = nI p) (h7 : σ.1 47 n = f) (h : K f (wi σ 52 p 1)) : sp_X1_climb (nI n) σ K X := by
  refine ⟨n_inR hn (by decide), fun v6 e6 => ?_⟩
  rw [n_cl (by omega), h8] at e6
  subst e6
  refine isPipe_br (pipe_in hp) ⟨fun q => absurd q (nI_pos (by omega)), fun _ => ⟨n_inR hp (by decide), fun σ17 e17 => ⟨n_inR hn (by decide), ?_⟩⟩⟩
  rw [n_cl (by omega)] at e17
  rw [e17, n_cl (by omega), wi_i, if_neg (fun q => absurd q.1 (by decide)), h7]
  exact h
theorem vc_X1_findLoop {x : Ctx} {K : Mem → Prop} {X : String → Mem → Prop} (C : Cx x RX1 cX1_findLoop 6) (r : RtV x 5 0 none K X) (a : Nat) (σ : Mem) (h : sp_X1_findLoop a σ K X) : Ws x 0 0 [(0, .ref 44), (1, .ref a)] [] σ := by
  obtain ⟨ha, g, hg, ho, hn, hG, hS, hK⟩ := h
  have hP := hg.1
  have hT := bfs_tre hg (by decide : 0 < 10)
  have hfar := netA_far ha
  generalize hLL : bfs g 0 = L at hS hK hT
  have fin : ∀ (q : Nat) (τ : Mem) (l na : Nat) (fA : Nat → Nat) (nb : Nat) (fB : Nat → Nat), q < g.1 → Off L 0 q → UpI L (g.2.1 q) (g.2.2 q) l l na fA nb fB → Ch 44 52 σ τ → ShD L τ → (∀ p, p < 10 → (τ.1 52 p ≠ 0 ↔ inQ (upL L q l na fA nb fB) p)) → sp_X1_goRound a (nI l) τ (fun σ144 => K σ144) X := by
    intro q τ l na fA nb fB hq hof hU hC hSh hQ
    have h0 := hU.done hg hT ho hn hq rfl rfl hof
    have go : ∀ c : Lp, LPo g L c → 0 < c.1 → c.2.1 0 = l → (∀ p, inQ c p ↔ inQ (upL L q l na fA nb fB) p) → sp_X1_goRound a (nI l) τ (fun σ144 => K σ144) X := by
      intro c hc hc0 hm hiq
      have hc' := hc
      rw [← hLL] at hc'
      refine ⟨ha, g, c, hg, hG.ch hC (by omega), hc', hc0, by rw [hm], fun p hp => by rw [hQ p (by omega), hiq], fun υ u1 u2 u3 u4 => hK υ c (hC.trans (u1.wider (by decide) (by decide))) (hSh.eq (u2 2 (by decide)) u3) hc u4 (fun p hp => ?_)⟩
      rw [(u1.1 52 p (by omega)).1, hQ p hp, hiq]
    rcases h0.orient with hc | hc
    · exact go _ hc (by show 0 < na + nb + 1; omega) rfl (fun p => Iff.rfl)
    · exact go _ hc (by show 0 < na + nb + 1; omega) rfl (fun p => inQ_rv _ p)
  have H62 : ∀ (q : Nat), q < g.1 → Off L 0 q → ∀ (k : Nat) (s : Mem × Nat × Nat), k ≤ 10 → (∃ (na : Nat) (fA : Nat → Nat) (nb : Nat) (fB : Nat → Nat), UpI L (g.2.1 q) (g.2.2 q) s.2.1 s.2.2 na fA nb fB ∧ na + nb = k ∧ Ch 44 52 σ s.1 ∧ ShD L s.1 ∧ (∀ p, p < 10 → (s.1.1 52 p ≠ 0 ↔ inQ (upL L q s.2.1 na fA nb fB) p))) → Ws x 0 65 [(0, .ref 44), (1, .ref a), (3, .int (nI s.2.1)), (4, .int (nI s.2.2)), (5, .int (nI k))] [] s.1 := by
    intro q hq hof
    refine cnt 10 (fun (k : Nat) (s : Mem × Nat × Nat) => ∃ (na : Nat) (fA : Nat → Nat) (nb : Nat) (fB : Nat → Nat), UpI L (g.2.1 q) (g.2.2 q) s.2.1 s.2.2 na fA nb fB ∧ na + nb = k ∧ Ch 44 52 σ s.1 ∧ ShD L s.1 ∧ (∀ p, p < 10 → (s.1.1 52 p ≠ 0 ↔ inQ (upL L q s.2.1 na fA nb fB) p))) (fun k s => Ws x 0 65 [(0, .ref 44), (1, .ref a), (3, .int (nI s.2.1)), (4, .int (nI s.2.2)), (5, .int (nI k))] [] s.1) ?_ ?_
    · rintro ⟨τ, l, w⟩ ⟨na, fA, nb, fB, hU, hk, hC, hSh, hQ⟩
      refine sg_X1_findLoop_65 C r a _ _ _ ha τ ⟨fun _ => ?_, fun c => (lit_lt (by decide) (Nat.le_refl 10) (by decide) c).elim⟩
      by_cases e : l = w
      · subst e
        exact fin q τ l na fA nb fB hq hof hU hC hSh hQ
      · have := hU.le hT e
        omega
    · rintro k ⟨τ, l, w⟩ hk10 ⟨na, fA, nb, fB, hU, hk, hC, hSh, hQ⟩ ih
      have hU : UpI L (g.2.1 q) (g.2.2 q) l w na fA nb fB := hU
      have hC : Ch 44 52 σ τ := hC
      have hSh : ShD L τ := hSh
      have hl : l ∈ nds L := hU.1
      have hw : w ∈ nds L := hU.2.1
      have l10 := hT.lt hl
      have w10 := hT.lt hw
      refine sg_X1_findLoop_65 C r a _ _ _ ha τ ⟨fun c => (lit_ge (by decide) hk10 c).elim, fun _ => ⟨fun c => ?_, fun c => ?_⟩⟩
      · have e : l = w := nI_eqP l10 w10 c
        subst e
        exact fin q τ l na fA nb fB hq hof hU hC hSh hQ
      · have hne : l ≠ w := fun e => c (by show nI l = nI w; rw [e])
        refine isNode_br (node_in l10).2 ⟨fun q => absurd q (nI_pos (n := l) (by omega)), fun _ => isNode_br (node_in w10).2 ⟨fun q => absurd q (nI_pos (n := w) (by omega)), fun _ => ⟨n_inR l10 (by decide), n_inR w10 (by decide), ?_⟩⟩⟩
        show (τ.1 45 (nI l).toNatClampNeg < τ.1 45 (nI w).toNatClampNeg → _) ∧ (¬ τ.1 45 (nI l).toNatClampNeg < τ.1 45 (nI w).toNatClampNeg → _)
        rw [n_cl (n := l) (by omega), n_cl (n := w) (by omega), hSh.2.1 l l10, hSh.2.1 w w10, dOf_in hT hl, dOf_in hT hw]
        have dl := hT.d10 hl
        have dw := hT.d10 hw
        refine ⟨fun d => ?_, fun d => ?_⟩
        · have d : di L l < di L w := (nI_ltI (by omega) (by omega)).mp d
          obtain ⟨w0, hU'⟩ := hU.right hT (by omega)
          obtain ⟨u1, -, u3, -⟩ := hT.up hw w0
          refine i_X1_climb (p := fp L w) (f := nI (fe L w)) w10 (by omega) (by rw [hSh.2.2.2.2.1 w w10, (fOf_in hT hw w0).2]; rfl) (by rw [hSh.2.2.2.1 w w10, (fOf_in hT hw w0).1]; rfl) (fun v135 e135 => ?_)
          generalize e125' : wi τ 52 (fp L w) 1 = σ125
          have e125 := e125'.symm
          have hS1 : ShD L σ125 := by
            rw [e125]
            exact hSh.eq (by rw [wi_i, if_neg (fun q => absurd q.1 (by decide))]) (fun b k b1 b2 => by rw [wi_i, if_neg (fun q => by omega)])
          rw [e135, nI_1]
          refine ih (σ125, l, fe L w) ⟨na, fA, nb + 1, _, hU', by omega, by rw [e125]; exact hC.wi (by decide) (by decide), hS1, fun p hp => ?_⟩
          show σ125.1 52 p ≠ 0 ↔ _
          rw [e125, wi_i, upL_inQ]
          have hQp := hQ p hp
          rw [upL_inQ] at hQp
          by_cases c1 : p = fp L w
          · rw [if_pos ⟨rfl, c1⟩]
            exact ⟨fun _ => .inr (.inr ⟨nb, by omega, by rw [if_pos rfl, c1]⟩), fun _ => by decide⟩
          · rw [if_neg (fun q => c1 q.2)]
            refine hQp.trans ⟨fun z => ?_, fun z => ?_⟩
            · rcases z with z | z | ⟨i, i1, i2⟩
              · exact .inl z
              · exact .inr (.inl z)
              · exact .inr (.inr ⟨i, by omega, by rw [if_neg (by omega), i2]⟩)
            · rcases z with z | z | ⟨i, i1, i2⟩
              · exact .inl z
              · exact .inr (.inl z)
              · by_cases c2 : i = nb
                · rw [if_pos c2] at i2; exact absurd i2.symm c1
                · rw [if_neg c2] at i2; exact .inr (.inr ⟨i, by omega, i2⟩)
        · have d : di L w ≤ di L l := Nat.not_lt.mp (fun z => d ((nI_ltI (by omega) (by omega)).mpr z))
          obtain ⟨l0, hU'⟩ := hU.left hT hne d
          obtain ⟨u1, -, u3, -⟩ := hT.up hl l0
          refine i_X1_climb (p := fp L l) (f := nI (fe L l)) l10 (by omega) (by rw [hSh.2.2.2.2.1 l l10, (fOf_in hT hl l0).2]; rfl) (by rw [hSh.2.2.2.1 l l10, (fOf_in hT hl l0).1]; rfl) (fun v135 e135 => ?_)
          generalize e102' : wi τ 52 (fp L l) 1 = σ102
          have e102 := e102'.symm
          have hS1 : ShD L σ102 := by
            rw [e102]
            exact hSh.eq (by rw [wi_i, if_neg (fun q => absurd q.1 (by decide))]) (fun b k b1 b2 => by rw [wi_i, if_neg (fun q => by omega)])
          rw [e135, nI_1]
          refine ih (σ102, fe L l, w) ⟨na + 1, _, nb, fB, hU', by omega, by rw [e102]; exact hC.wi (by decide) (by decide), hS1, fun p hp => ?_⟩
          show σ102.1 52 p ≠ 0 ↔ _
          rw [e102, wi_i, upL_inQ]
          have hQp := hQ p hp
          rw [upL_inQ] at hQp
          by_cases c1 : p = fp L l
          · rw [if_pos ⟨rfl, c1⟩]
            exact ⟨fun _ => .inr (.inl ⟨0, by omega, by rw [if_pos rfl, c1]⟩), fun _ => by decide⟩
          · rw [if_neg (fun q => c1 q.2)]
            refine hQp.trans ⟨fun z => ?_, fun z => ?_⟩
            · rcases z with z | ⟨i, i1, i2⟩ | z
              · exact .inl z
              · exact .inr (.inl ⟨i + 1, by omega, by rw [if_neg (by omega), Nat.add_sub_cancel, i2]⟩)
              · exact .inr (.inr z)
            · rcases z with z | ⟨i, i1, i2⟩ | z
              · exact .inl z
              · by_cases c2 : i = 0
                · rw [if_pos c2] at i2; exact absurd i2.symm c1
                · rw [if_neg c2] at i2; exact .inr (.inl ⟨i - 1, by omega, i2⟩)
              · exact .inr (.inr z)
  refine sg_X1_findLoop_0 C r a ha σ ?_
  have H2 := cnt 10 (fun k τ => Ch 44 52 σ τ ∧ (∀ b j, b ≠ 52 → τ.1 b j = σ.1 b j) ∧ ∀ p, p < k → τ.1 52 p = 0) (fun k τ => Ws x 0 2 [(0, .ref 44), (1, .ref a), (2, .int (nI k))] [] τ)
    (fun τ hI => by
      refine sg_X1_findLoop_2 C r a _ ha τ ⟨fun _ σ23 e23 => ?_, fun c => (lit_lt (by decide) (Nat.le_refl 10) (by decide) c).elim⟩
      have hC : Ch 44 52 σ σ23 := by rw [e23]; exact hI.1.wi (by decide) (by decide)
      have hS1 : ShD L σ23 := by
        rw [e23]
        exact hS.eq (by rw [wi_i, if_neg (fun q => absurd q.2 (by decide))]; exact hI.2.1 44 2 (by decide)) (fun b k b1 b2 => by rw [wi_i, if_neg (fun q => by omega)]; exact hI.2.1 b k (by omega))
      have hz : ∀ p, p < 10 → σ23.1 52 p = 0 := fun p hp => by rw [e23, wi_i, if_neg (fun q => absurd q.1 (by decide))]; exact hI.2.2 p hp
      have h8 : σ23.1 44 8 = nI 0 := by rw [e23, wi_i, if_pos ⟨rfl, rfl⟩]; rfl
      refine ⟨ha, g, hg, hG.ch hC (by omega), by rw [hLL]; exact hS1, fun q hq hcq hof => ?_, fun hno => ?_⟩
      · rw [hLL] at hcq hof
        refine isPipe_rb (pipe_in (p := q) (by omega)) ⟨fun _ => ⟨n_inR (by omega) (by decide), fun σ43 e43 => ⟨n_inR (by omega) (by decide), fun v50 e50 => ⟨n_inR (by omega) (by decide), fun v57 e57 => ?_⟩⟩⟩, fun c => absurd (nI_pos' (by omega)) c⟩
        rw [n_cl (by omega)] at e43 e50 e57
        have hC1 : Ch 44 52 σ σ43 := by rw [e43]; exact hC.wi (by decide) (by decide)
        have hG1 := (hG.ch hC1 (by omega)).2 q hq
        rw [hG1.1] at e50
        rw [hG1.2] at e57
        rw [e50, e57]
        refine H62 q hq hof 0 (σ43, g.2.1 q, g.2.2 q) (Nat.zero_le _) ⟨0, fun _ => 0, 0, fun _ => 0, UpI.start hcq (ac_conn hT hg hq (ac_ends hg hq).1 hcq).2 _ _, rfl, hC1, ?_, fun p hp => ?_⟩
        · show ShD L σ43
          rw [e43]
          exact hS1.eq (by rw [wi_i, if_neg (fun q => absurd q.1 (by decide))]) (fun b k b1 b2 => by rw [wi_i, if_neg (fun q => by omega)])
        · show σ43.1 52 p ≠ 0 ↔ _
          rw [e43, wi_i, upL_inQ]
          by_cases c1 : p = q
          · rw [if_pos ⟨rfl, c1⟩]
            exact ⟨fun _ => .inl c1, fun _ => by decide⟩
          · rw [if_neg (fun q => c1 q.2), hz p hp]
            refine ⟨fun z => absurd rfl z, fun z => ?_⟩
            rcases z with z | ⟨i, i1, -⟩ | ⟨i, i1, -⟩
            · exact absurd z c1
            · exact absurd i1 (Nat.not_lt_zero i)
            · exact absurd i1 (Nat.not_lt_zero i)
      · rw [hLL] at hno
        refine isPipe_rb (by decide) ⟨fun c => absurd c (by decide), fun _ => hK σ23 (0, fun _ => 0, fun _ => 0) hC hS1 (LP0.none _ _ (fun p hp hcp => ?_)) ⟨h8, fun i hi => absurd hi (Nat.not_lt_zero i)⟩ (fun p hp => ⟨fun z => absurd (hz p hp) z, fun ⟨i, hi, _⟩ => absurd hi (Nat.not_lt_zero i)⟩)⟩
        exact Classical.byContradiction fun w => hno p hp hcp (fun n hn h0 e => w ⟨n, hn, h0, e⟩))
    (fun k τ hk hI ih => by
      refine sg_X1_findLoop_2 C r a _ ha τ ⟨fun c => (lit_ge (by decide) hk c).elim, fun _ => ⟨n_inR hk (by decide), fun σ14 e14 v15 e15 => ?_⟩⟩
      rw [n_cl (by omega)] at e14
      rw [e15, nI_1]
      refine ih σ14 ⟨by rw [e14]; exact hI.1.wi (by decide) (by decide), fun b j hb => by rw [e14, wi_i, if_neg (fun q => hb q.1)]; exact hI.2.1 b j hb, fun p hp => ?_⟩
      rw [e14, wi_i]
      by_cases c : p = k
      · rw [if_pos ⟨rfl, c⟩]
      · rw [if_neg (fun q => c q.2)]; exact hI.2.2 p (by omega)) 0 σ (Nat.zero_le _) ⟨Ch.rfl' σ, fun _ _ _ => rfl, fun p hp => absurd hp (Nat.not_lt_zero p)⟩
  exact H2
theorem ct_X1_findLoop (a : Nat) (σ : Mem) (K : Mem → Prop) (X : String → Mem → Prop) (h : sp_X1_findLoop a σ K X) : CtV yX1_findLoop cX1_findLoop 6 none 5 0 [.ref 44, .ref a] σ K X :=
  ctV_of (by decide +kernel) (Nat.le_of_ble_eq_true rfl) (fun x C r => vc_X1_findLoop C r a σ h)
