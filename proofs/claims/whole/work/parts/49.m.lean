/-! HeatNetwork$State.findLoopHeads(LHeatNetwork$Network;LHeatNetwork$Shape;)V: level 3, exceptions 0 -/
def sp_X2_findLoopHeads (t a : Nat) (σ : Mem) (K : Mem → Prop) (X : String → Mem → Prop) : Prop := StaA t ∧ NetA a ∧ ∃ (w : Nat → Int32) (g : Gr) (c : Lp) (B : Nat → Nat) (f : Nat → Int), WFw w g ∧ NR σ a w g ∧ Shp g (bfs g 0) c σ ∧ 0 < c.1 ∧ (∀ k, k < c.1 → σ.1 (t + 3) k = zI (f k) ∧ -20000 ≤ f k ∧ f k ≤ 20000) ∧ σ.2.1 (t + 12) (c.2.1 0) = zL (hdN w (bfs g 0) c B f (c.2.1 0)) ∧ ∀ τ : Mem, τ.1 = σ.1 → (∀ b k, b ≠ t + 12 → τ.2.1 b k = σ.2.1 b k) → τ.2.2 = σ.2.2 → (∀ n, ¬ inT c n → τ.2.1 (t + 12) n = σ.2.1 (t + 12) n) → (∀ n, inT c n → τ.2.1 (t + 12) n = zL (hdN w (bfs g 0) c B f n)) → K τ
set_option maxRecDepth 4000 in
theorem sg_X2_findLoopHeads_0 {x : Ctx} {K : Mem → Prop} {X : String → Mem → Prop} (C : Cx x RX2 cX2_findLoopHeads 6) (r : RtV x 3 0 none K X) (t : Nat) (a : Nat) (ht : StaA t) (ha : NetA a) (σ : Mem) (h : Ws x 0 2 [(0, .ref t), (1, .ref a), (2, .ref 44), (3, .int 1)] [] σ) : Ws x 0 0 [(0, .ref t), (1, .ref a), (2, .ref 44)] [] σ := by
  refine r_iconst C 1 (v := 1) dX2_findLoopHeads_0 rfl (by decide) ?_
  refine r_istore_n C 2 [(3, .int 1), (0, .ref t), (1, .ref a), (2, .ref 44)] dX2_findLoopHeads_1 rfl (by decide) rfl ?_
  exact Ws_pick [1, 2, 3, 0] rfl h
set_option maxRecDepth 4000 in
theorem sg_X2_findLoopHeads_2 {x : Ctx} {K : Mem → Prop} {X : String → Mem → Prop} (C : Cx x RX2 cX2_findLoopHeads 6) (r : RtV x 3 0 none K X) (t : Nat) (a : Nat) (i3 : Int32) (ht : StaA t) (ha : NetA a) (σ : Mem) (h : ((σ.1 44 8) ≤ i3 → K σ) ∧ (¬ (σ.1 44 8) ≤ i3 → (vp_in (i3 - 1) 10) ∧ ((vp_in (i3 - 1) 10) ∧ (sp_X0_dropOf a (σ.1 51 ((i3 - 1)).toNatClampNeg) (σ.1 (t + 3) ((i3 - 1)).toNatClampNeg) σ (fun r27 σ27 => (vp_in i3 10) ∧ ((vp_in (i3 - 1) 10) ∧ ((vp_in (σ27.1 50 ((i3 - 1)).toNatClampNeg) 10) ∧ ((vp_in (σ27.1 50 i3.toNatClampNeg) 10) ∧ (∀ σ58 : Mem, σ58 = wl σ27 (t + 12) ((σ27.1 50 i3.toNatClampNeg)).toNatClampNeg ((σ27.2.1 (t + 12) ((σ27.1 50 ((i3 - 1)).toNatClampNeg)).toNatClampNeg) + r27) → ∀ v59 : Int32, v59 = i3 + 1 → Ws x 0 2 [(0, .ref t), (1, .ref a), (2, .ref 44), (3, .int v59)] [] σ58))))) X)))) : Ws x 0 2 [(0, .ref t), (1, .ref a), (2, .ref 44), (3, .int i3)] [] σ := by
  refine r_iload_n (j := 3) C 3 dX2_findLoopHeads_2 rfl rfl ?_
  refine r_aload_n (j := 2) C 4 dX2_findLoopHeads_3 rfl rfl ?_
  refine r_get (k := 8) C cl3 7 dX2_findLoopHeads_4 rfl kd_44 (by decide) wd_244 (.int (σ.1 44 8)) (fun _ => rfl) ?_
  refine r_icmp_ge C 65 10 dX2_findLoopHeads_7 (by decide) rfl (fun c7 => ?_) (fun c7 => ?_)
  · have h := h.1 c7
    exact r_vret (S := []) C r dX2_findLoopHeads_65 (by decide) h
  · have h := h.2 c7
    refine r_aload_n (j := 1) C 11 dX2_findLoopHeads_10 rfl rfl ?_
    refine r_aload_n (j := 2) C 12 dX2_findLoopHeads_11 rfl rfl ?_
    refine r_get (k := 7) C cl3 15 dX2_findLoopHeads_12 rfl kd_44 (by decide) wd_242 (.ref 51) (fun _ => rfl) ?_
    refine r_iload_n (j := 3) C 16 dX2_findLoopHeads_15 rfl rfl ?_
    refine r_iconst C 17 (v := 1) dX2_findLoopHeads_16 rfl (by decide) ?_
    refine r_isub C 18 dX2_findLoopHeads_17 rfl ?_
    obtain ⟨o18, h⟩ := h
    refine r_iald C 19 dX2_findLoopHeads_18 rfl kd_51 o18 ?_
    refine r_aload_n (j := 0) C 20 dX2_findLoopHeads_19 rfl rfl ?_
    refine r_get (k := 2) C cl4 23 dX2_findLoopHeads_20 rfl (sta0 ht) (by decide) wd_280 (.ref (t + 3)) (fun _ => rfl) ?_
    refine r_iload_n (j := 3) C 24 dX2_findLoopHeads_23 rfl rfl ?_
    refine r_iconst C 25 (v := 1) dX2_findLoopHeads_24 rfl (by decide) ?_
    refine r_isub C 26 dX2_findLoopHeads_25 rfl ?_
    obtain ⟨o26, h⟩ := h
    refine r_iald C 27 dX2_findLoopHeads_26 rfl (sta3 ht) o26 ?_
    refine r_cVL (as := [.int (σ.1 51 ((i3 - 1)).toNatClampNeg), .int (σ.1 (t + 3) ((i3 - 1)).toNatClampNeg)]) (S := []) C r.px 30 (ct_X0_dropOf _ _ _ _ _ _ h) dX2_findLoopHeads_27 rfl cl2 (net0 ha) wd_508 wd_507 rfl wd_506 wd_509 wd_91 yd_X0_dropOf ⟨Nat.le_of_ble_eq_true rfl, Nat.le_of_ble_eq_true rfl⟩ (Nat.le_of_ble_eq_true rfl) (by decide) (fun r27 σ27 h => ?_)
    refine r_lstore C 32 [(4, .long r27), (0, .ref t), (1, .ref a), (2, .ref 44), (3, .int i3)] dX2_findLoopHeads_30 rfl (by decide) rfl ?_
    refine r_aload_n (j := 1) C 33 dX2_findLoopHeads_32 rfl rfl ?_
    refine r_get (k := 11) C cl4 36 dX2_findLoopHeads_33 rfl (sta0 ht) (by decide) wd_293 (.ref (t + 12)) (fun _ => rfl) ?_
    refine r_aload_n (j := 3) C 37 dX2_findLoopHeads_36 rfl rfl ?_
    refine r_get (k := 6) C cl3 40 dX2_findLoopHeads_37 rfl kd_44 (by decide) wd_239 (.ref 50) (fun _ => rfl) ?_
    refine r_iload_n (j := 4) C 41 dX2_findLoopHeads_40 rfl rfl ?_
    obtain ⟨o41, h⟩ := h
    refine r_iald C 42 dX2_findLoopHeads_41 rfl kd_50 o41 ?_
    refine r_aload_n (j := 1) C 43 dX2_findLoopHeads_42 rfl rfl ?_
    refine r_get (k := 11) C cl4 46 dX2_findLoopHeads_43 rfl (sta0 ht) (by decide) wd_293 (.ref (t + 12)) (fun _ => rfl) ?_
    refine r_aload_n (j := 3) C 47 dX2_findLoopHeads_46 rfl rfl ?_
    refine r_get (k := 6) C cl3 50 dX2_findLoopHeads_47 rfl kd_44 (by decide) wd_239 (.ref 50) (fun _ => rfl) ?_
    refine r_iload_n (j := 4) C 51 dX2_findLoopHeads_50 rfl rfl ?_
    refine r_iconst C 52 (v := 1) dX2_findLoopHeads_51 rfl (by decide) ?_
    refine r_isub C 53 dX2_findLoopHeads_52 rfl ?_
    obtain ⟨o53, h⟩ := h
    refine r_iald C 54 dX2_findLoopHeads_53 rfl kd_50 o53 ?_
    obtain ⟨o54, h⟩ := h
    refine r_lald C 55 dX2_findLoopHeads_54 rfl (sta12 ht) o54 ?_
    refine r_lload (j := 0) C 57 dX2_findLoopHeads_55 rfl rfl ?_
    refine r_ladd C 58 dX2_findLoopHeads_57 rfl ?_
    obtain ⟨o58, h⟩ := h
    refine r_last C 59 dX2_findLoopHeads_58 rfl (sta12 ht) o58 ?_
    refine r_nmS (fun σ58 e58 => ?_)
    have h := h σ58 e58
    obtain ⟨v59, e59⟩ : ∃ y : Int32, y = i3 + 1 := ⟨_, rfl⟩
    have h := h v59 e59
    refine r_iinc (j := 4) C 62 [(3, .int v59), (4, .long r27), (0, .ref t), (1, .ref a), (2, .ref 44)] dX2_findLoopHeads_59 rfl rfl (by rw [e59]; rfl) (by decide) rfl ?_
    refine r_goto C 2 dX2_findLoopHeads_62 (by decide) ?_
    exact Ws_pick [2, 3, 4, 0] rfl h
theorem vc_X2_findLoopHeads {x : Ctx} {K : Mem → Prop} {X : String → Mem → Prop} (C : Cx x RX2 cX2_findLoopHeads 6) (r : RtV x 3 0 none K X) (t a : Nat) (σ : Mem) (h : sp_X2_findLoopHeads t a σ K X) : Ws x 0 0 [(0, .ref t), (1, .ref a), (2, .ref 44)] [] σ := by
  obtain ⟨ht, ha, w, g, c, B, f, hw, hN, hS, cpos, hf, h0, hK⟩ := h
  have hg := hw.2.1
  have hP := hg.1
  have hT := bfs_tre hg (by decide : 0 < 10)
  have hL := hS.1.1
  have ht2 := staA_is ht
  generalize bfs g 0 = L at hT hS hL h0 hK
  have hle := hL.le hT
  have n10 : ∀ i, i < c.1 → c.2.1 i < 10 := fun i hi => hT.lt (hL.2.2.2.1 i hi)
  refine sg_X2_findLoopHeads_0 C r t a ht ha σ ?_
  have key := cnt c.1 (fun k (τ : Mem) => 1 ≤ k ∧ τ.1 = σ.1 ∧ (∀ b k, b ≠ t + 12 → τ.2.1 b k = σ.2.1 b k) ∧ τ.2.2 = σ.2.2 ∧ (∀ n, ¬ inT c n → τ.2.1 (t + 12) n = σ.2.1 (t + 12) n) ∧ ∀ i, i < k → τ.2.1 (t + 12) (c.2.1 i) = zL (hdN w L c B f (c.2.1 i))) (fun k τ => Ws x 0 2 [(0, .ref t), (1, .ref a), (2, .ref 44), (3, .int (nI k))] [] τ)
    (fun τ ⟨_, j1, j2, j3, j4, j5⟩ => by
      refine sg_X2_findLoopHeads_2 C r t a _ ht ha τ ?_
      rw [j1, hS.2.1.1]
      exact ⟨fun _ => hK τ j1 j2 j3 j4 (fun n ⟨i, i0, i1, i2⟩ => by rw [← i2]; exact j5 i i1), fun q => absurd (nI_le (Nat.le_refl c.1) (by omega)) q⟩)
    (fun k τ hk ⟨k1, j1, j2, j3, j4, j5⟩ ih => by
      obtain ⟨m, rfl⟩ : ∃ m, k = m + 1 := ⟨k - 1, by omega⟩
      have hN' : NR τ a w g := by
        unfold NR GC
        rw [j1]; exact hN
      refine sg_X2_findLoopHeads_2 C r t a _ ht ha τ ?_
      rw [j1, hS.2.1.1, nI_pred, n_cl (n := m) (by omega), n_cl (n := m + 1) (by omega), (hS.2.1.2 m (by omega)).2, (hf m (by omega)).1]
      refine ⟨fun q => absurd (n_le (by omega) (by omega) q) (by omega), fun _ => ⟨n_inR (by omega) (by decide), n_inR (by omega) (by decide), i_X0_dropOf ha hw hN' (hL.2.1 m (by omega)).1 (by have := (hf m (by omega)).2; omega) (by have := (hf m (by omega)).2; omega) ?_⟩⟩
      rw [j1, (hS.2.1.2 m (by omega)).1, (hS.2.1.2 (m + 1) hk).1, n_cl (n := c.2.1 m) (by have := n10 m (by omega); omega), n_cl (n := c.2.1 (m + 1)) (by have := n10 (m + 1) hk; omega), j5 m (by omega), zL_add, ← hdN_s hT hL hk]
      refine ⟨n_inR (by omega) (by decide), n_inR (by omega) (by decide), n_inR (n10 m (by omega)) (by decide), n_inR (n10 (m + 1) hk) (by decide), fun σ58 e58 v59 e59 => ?_⟩
      rw [e59, nI_1]
      refine ih σ58 ⟨by omega, by rw [e58]; exact j1, fun b k hb => by rw [e58, wl_l, if_neg (fun q => hb q.1)]; exact j2 b k hb, by rw [e58]; exact j3, fun n hn => ?_, fun i hi => ?_⟩
      · rw [e58, wl_l, if_neg (fun q => hn ⟨m + 1, by omega, hk, q.2.symm⟩)]; exact j4 n hn
      · rw [e58, wl_l]
        by_cases d : i = m + 1
        · rw [d, if_pos ⟨rfl, rfl⟩]
        · rw [if_neg (fun q => d (hL.1 i (m + 1) (by omega) hk q.2))]; exact j5 i (by omega)) 1 σ (by omega) ⟨Nat.le_refl 1, rfl, fun _ _ _ => rfl, rfl, fun _ _ => rfl, fun i hi => by rw [show i = 0 by omega]; exact h0⟩
  exact key
theorem ct_X2_findLoopHeads (t : Nat) (a : Nat) (σ : Mem) (K : Mem → Prop) (X : String → Mem → Prop) (h : sp_X2_findLoopHeads t a σ K X) : CtV yX2_findLoopHeads cX2_findLoopHeads 6 none 3 0 [.ref t, .ref a, .ref 44] σ K X :=
  ctV_of (by decide +kernel) (Nat.le_of_ble_eq_true rfl) (fun x C r => vc_X2_findLoopHeads C r t a σ h)
/-! HeatNetwork$State.findHeads(LHeatNetwork$Network;LHeatNetwork$Shape;)V: level 4, exceptions 0 -/
def sp_X2_findHeads (t a : Nat) (σ : Mem) (K : Mem → Prop) (X : String → Mem → Prop) : Prop := StaA t ∧ NetA a ∧ ∃ (w : Nat → Int32) (g : Gr) (c : Lp) (B : Nat → Nat) (f : Nat → Int), WFw w g ∧ NR σ a w g ∧ Shp g (bfs g 0) c σ ∧ (∀ k, k < c.1 → σ.1 (t + 3) k = zI (f k) ∧ -20000 ≤ f k ∧ f k ≤ 20000) ∧ (∀ n, n ∈ nds (bfs g 0) → B n ≤ 9990 ∧ σ.1 (t + 4) n = nI (B n)) ∧ ∀ τ : Mem, τ.1 = σ.1 → (∀ b k, b ≠ t + 12 → τ.2.1 b k = σ.2.1 b k) → τ.2.2 = σ.2.2 → (∀ n, n ∈ nds (bfs g 0) → τ.2.1 (t + 12) n = zL (hdN w (bfs g 0) c B f n)) → K τ
set_option maxRecDepth 4000 in
theorem sg_X2_findHeads_0 {x : Ctx} {K : Mem → Prop} {X : String → Mem → Prop} (C : Cx x RX2 cX2_findHeads 7) (r : RtV x 4 0 none K X) (t : Nat) (a : Nat) (ht : StaA t) (ha : NetA a) (σ : Mem) (h : sp_J7_fill_d0a16 (t + 12) 10 0 σ (fun σ5 => Ws x 0 10 [(0, .ref t), (1, .ref a), (2, .ref 44), (3, .int 0)] [] σ5) X) : Ws x 0 0 [(0, .ref t), (1, .ref a), (2, .ref 44)] [] σ := by
  refine r_aload_n (j := 0) C 1 dX2_findHeads_0 rfl rfl ?_
  refine r_get (k := 11) C cl4 4 dX2_findHeads_1 rfl (sta0 ht) (by decide) wd_293 (.ref (t + 12)) (fun _ => rfl) ?_
  refine r_lconst C 5 (v := 0) dX2_findHeads_4 rfl rfl ?_
  refine r_cSV (b := 0) (as := [.ref (t + 12), .long 0]) (S := []) C r.px 8 (ct_J7_fill_d0a16 _ _ _ _ _ _ h) dX2_findHeads_5 rfl wd_534 wd_533 wd_535 wd_108 yd_J7_fill_d0a16 ⟨Nat.le_of_ble_eq_true rfl, Nat.le_of_ble_eq_true rfl⟩ (Nat.le_of_ble_eq_true rfl) (by decide) (fun σ5 h => ?_)
  refine r_iconst C 9 (v := 0) dX2_findHeads_8 rfl (by decide) ?_
  refine r_istore_n C 10 [(3, .int 0), (0, .ref t), (1, .ref a), (2, .ref 44)] dX2_findHeads_9 rfl (by decide) rfl ?_
  exact Ws_pick [1, 2, 3, 0] rfl h
set_option maxRecDepth 4000 in
theorem sg_X2_findHeads_10 {x : Ctx} {K : Mem → Prop} {X : String → Mem → Prop} (C : Cx x RX2 cX2_findHeads 7) (r : RtV x 4 0 none K X) (t : Nat) (a : Nat) (i3 : Int32) (ht : StaA t) (ha : NetA a) (σ : Mem) (h : ((σ.1 44 2) ≤ i3 → K σ) ∧ (¬ (σ.1 44 2) ≤ i3 → (vp_in i3 10) ∧ (∀ v24 : Int32, v24 = (σ.1 46 i3.toNatClampNeg) → (vp_in v24 10) ∧ (∀ v33 : Int32, v33 = (σ.1 47 v24.toNatClampNeg) → (vp_in v24 10) ∧ (∀ v42 : Int32, v42 = (σ.1 48 v24.toNatClampNeg) → sp_X4_isNode v33 σ (fun r46 σ46 => (r46 = 0 → sp_X1_isLoopBeginning v24 σ46 (fun r101 σ101 => (r101 = 0 → ∀ v113 : Int32, v113 = i3 + 1 → Ws x 0 10 [(0, .ref t), (1, .ref a), (2, .ref 44), (3, .int v113)] [] σ101) ∧ (¬ r101 = 0 → sp_X2_findLoopHeads t a σ101 (fun σ110 => ∀ v113 : Int32, v113 = i3 + 1 → Ws x 0 10 [(0, .ref t), (1, .ref a), (2, .ref 44), (3, .int v113)] [] σ110) X)) X) ∧ (¬ r46 = 0 → sp_X4_isPipe v42 σ46 (fun r54 σ54 => (r54 = 0 → sp_X1_isLoopBeginning v24 σ54 (fun r101 σ101 => (r101 = 0 → ∀ v113 : Int32, v113 = i3 + 1 → Ws x 0 10 [(0, .ref t), (1, .ref a), (2, .ref 44), (3, .int v113)] [] σ101) ∧ (¬ r101 = 0 → sp_X2_findLoopHeads t a σ101 (fun σ110 => ∀ v113 : Int32, v113 = i3 + 1 → Ws x 0 10 [(0, .ref t), (1, .ref a), (2, .ref 44), (3, .int v113)] [] σ110) X)) X) ∧ (¬ r54 = 0 → (vp_in v24 10) ∧ ((0 ≤ (σ54.1 49 v24.toNatClampNeg) → sp_X1_isLoopBeginning v24 σ54 (fun r101 σ101 => (r101 = 0 → ∀ v113 : Int32, v113 = i3 + 1 → Ws x 0 10 [(0, .ref t), (1, .ref a), (2, .ref 44), (3, .int v113)] [] σ101) ∧ (¬ r101 = 0 → sp_X2_findLoopHeads t a σ101 (fun σ110 => ∀ v113 : Int32, v113 = i3 + 1 → Ws x 0 10 [(0, .ref t), (1, .ref a), (2, .ref 44), (3, .int v113)] [] σ110) X)) X) ∧ (¬ 0 ≤ (σ54.1 49 v24.toNatClampNeg) → (vp_in v33 10) ∧ ((vp_in v24 10) ∧ (sp_X0_dropOf a v42 (σ54.1 (t + 4) v24.toNatClampNeg) σ54 (fun r93 σ93 => (vp_in v24 10) ∧ (∀ σ97 : Mem, σ97 = wl σ93 (t + 12) v24.toNatClampNeg ((σ54.2.1 (t + 12) v33.toNatClampNeg) + r93) → sp_X1_isLoopBeginning v24 σ97 (fun r101 σ101 => (r101 = 0 → ∀ v113 : Int32, v113 = i3 + 1 → Ws x 0 10 [(0, .ref t), (1, .ref a), (2, .ref 44), (3, .int v113)] [] σ101) ∧ (¬ r101 = 0 → sp_X2_findLoopHeads t a σ101 (fun σ110 => ∀ v113 : Int32, v113 = i3 + 1 → Ws x 0 10 [(0, .ref t), (1, .ref a), (2, .ref 44), (3, .int v113)] [] σ110) X)) X)) X)))))) X)) X))))) : Ws x 0 10 [(0, .ref t), (1, .ref a), (2, .ref 44), (3, .int i3)] [] σ := by
  refine r_iload_n (j := 3) C 11 dX2_findHeads_10 rfl rfl ?_
  refine r_aload_n (j := 2) C 12 dX2_findHeads_11 rfl rfl ?_
  refine r_get (k := 2) C cl3 15 dX2_findHeads_12 rfl kd_44 (by decide) wd_230 (.int (σ.1 44 2)) (fun _ => rfl) ?_
  refine r_icmp_ge C 119 18 dX2_findHeads_15 (by decide) rfl (fun c15 => ?_) (fun c15 => ?_)
  · have h := h.1 c15
    exact r_vret (S := []) C r dX2_findHeads_119 (by decide) h
  · have h := h.2 c15
    refine r_aload_n (j := 2) C 19 dX2_findHeads_18 rfl rfl ?_
    refine r_get (k := 1) C cl3 22 dX2_findHeads_19 rfl kd_44 (by decide) wd_228 (.ref 46) (fun _ => rfl) ?_
    refine r_iload_n (j := 3) C 23 dX2_findHeads_22 rfl rfl ?_
    obtain ⟨o23, h⟩ := h
    refine r_iald C 24 dX2_findHeads_23 rfl kd_46 o23 ?_
    refine r_nmI (fun v24 e24 => ?_)
    have h := h v24 e24
    refine r_istore C 26 [(4, .int v24), (0, .ref t), (1, .ref a), (2, .ref 44), (3, .int i3)] dX2_findHeads_24 rfl (by decide) rfl ?_
    refine r_aload_n (j := 3) C 27 dX2_findHeads_26 rfl rfl ?_
    refine r_get (k := 3) C cl3 30 dX2_findHeads_27 rfl kd_44 (by decide) wd_233 (.ref 47) (fun _ => rfl) ?_
    refine r_iload (j := 0) C 32 dX2_findHeads_30 rfl rfl ?_
    obtain ⟨o32, h⟩ := h
    refine r_iald C 33 dX2_findHeads_32 rfl kd_47 o32 ?_
    refine r_nmI (fun v33 e33 => ?_)
    have h := h v33 e33
    refine r_istore C 35 [(5, .int v33), (4, .int v24), (0, .ref t), (1, .ref a), (2, .ref 44), (3, .int i3)] dX2_findHeads_33 rfl (by decide) rfl ?_
    refine r_aload_n (j := 4) C 36 dX2_findHeads_35 rfl rfl ?_
    refine r_get (k := 4) C cl3 39 dX2_findHeads_36 rfl kd_44 (by decide) wd_235 (.ref 48) (fun _ => rfl) ?_
    refine r_iload (j := 1) C 41 dX2_findHeads_39 rfl rfl ?_
    obtain ⟨o41, h⟩ := h
    refine r_iald C 42 dX2_findHeads_41 rfl kd_48 o41 ?_
    refine r_nmI (fun v42 e42 => ?_)
    have h := h v42 e42
    refine r_istore C 44 [(6, .int v42), (5, .int v33), (4, .int v24), (0, .ref t), (1, .ref a), (2, .ref 44), (3, .int i3)] dX2_findHeads_42 rfl (by decide) rfl ?_
    refine r_iload (j := 1) C 46 dX2_findHeads_44 rfl rfl ?_
    refine r_cNI (b := 0) (as := [.int v33]) (S := []) C r.px 49 (ct_X4_isNode _ _ _ _ h) dX2_findHeads_46 rfl wd_429 (nbd_492) wd_430 wd_90 yd_X4_isNode ⟨Nat.le_of_ble_eq_true rfl, Nat.le_of_ble_eq_true rfl⟩ (Nat.le_of_ble_eq_true rfl) (by decide) (fun r46 σ46 h => ?_)
    refine r_if_eq C 98 52 dX2_findHeads_49 (by decide) rfl (fun c49 => ?_) (fun c49 => ?_)
    · have h := h.1 c49
      refine r_aload_n (j := 5) C 99 dX2_findHeads_98 rfl rfl ?_
      refine r_iload (j := 2) C 101 dX2_findHeads_99 rfl rfl ?_
      refine r_cVI (as := [.int v24]) (S := []) C r.px 104 (ct_X1_isLoopBeginning _ _ _ _ h) dX2_findHeads_101 rfl cl3 kd_44 wd_523 wd_522 rfl wd_521 wd_524 wd_92 yd_X1_isLoopBeginning ⟨Nat.le_of_ble_eq_true rfl, Nat.le_of_ble_eq_true rfl⟩ (Nat.le_of_ble_eq_true rfl) (by decide) (fun r101 σ101 h => ?_)
      refine r_if_eq C 113 107 dX2_findHeads_104 (by decide) rfl (fun c104 => ?_) (fun c104 => ?_)
      · have h := h.1 c104
        obtain ⟨v113, e113⟩ : ∃ y : Int32, y = i3 + 1 := ⟨_, rfl⟩
        have h := h v113 e113
        refine r_iinc (j := 6) C 116 [(3, .int v113), (6, .int v42), (5, .int v33), (4, .int v24), (0, .ref t), (1, .ref a), (2, .ref 44)] dX2_findHeads_113 rfl rfl (by rw [e113]; rfl) (by decide) rfl ?_
        refine r_goto C 10 dX2_findHeads_116 (by decide) ?_
        exact Ws_pick [4, 5, 6, 0] rfl h
      · have h := h.2 c104
        refine r_aload_n (j := 3) C 108 dX2_findHeads_107 rfl rfl ?_
        refine r_aload_n (j := 4) C 109 dX2_findHeads_108 rfl rfl ?_
        refine r_aload_n (j := 5) C 110 dX2_findHeads_109 rfl rfl ?_
        refine r_cVV (as := [.ref a, .ref 44]) (S := []) C r.px 113 (ct_X2_findLoopHeads _ _ _ _ _ h) dX2_findHeads_110 rfl cl4 (sta0 ht) wd_22 wd_565 rfl wd_563 wd_566 wd_93 yd_X2_findLoopHeads ⟨Nat.le_of_ble_eq_true rfl, Nat.le_of_ble_eq_true rfl⟩ (Nat.le_of_ble_eq_true rfl) (by decide) (fun σ110 h => ?_)
        obtain ⟨v113, e113⟩ : ∃ y : Int32, y = i3 + 1 := ⟨_, rfl⟩
        have h := h v113 e113
        refine r_iinc (j := 6) C 116 [(3, .int v113), (6, .int v42), (5, .int v33), (4, .int v24), (0, .ref t), (1, .ref a), (2, .ref 44)] dX2_findHeads_113 rfl rfl (by rw [e113]; rfl) (by decide) rfl ?_
        refine r_goto C 10 dX2_findHeads_116 (by decide) ?_
        exact Ws_pick [4, 5, 6, 0] rfl h
    · have h := h.2 c49
      refine r_iload (j := 0) C 54 dX2_findHeads_52 rfl rfl ?_
      refine r_cNI (b := 0) (as := [.int v42]) (S := []) C r.px 57 (ct_X4_isPipe _ _ _ _ h) dX2_findHeads_54 rfl wd_443 (nbd_497) wd_444 wd_90 yd_X4_isPipe ⟨Nat.le_of_ble_eq_true rfl, Nat.le_of_ble_eq_true rfl⟩ (Nat.le_of_ble_eq_true rfl) (by decide) (fun r54 σ54 h => ?_)
      refine r_if_eq C 98 60 dX2_findHeads_57 (by decide) rfl (fun c57 => ?_) (fun c57 => ?_)
      · have h := h.1 c57
        refine r_aload_n (j := 5) C 99 dX2_findHeads_98 rfl rfl ?_
        refine r_iload (j := 2) C 101 dX2_findHeads_99 rfl rfl ?_
        refine r_cVI (as := [.int v24]) (S := []) C r.px 104 (ct_X1_isLoopBeginning _ _ _ _ h) dX2_findHeads_101 rfl cl3 kd_44 wd_523 wd_522 rfl wd_521 wd_524 wd_92 yd_X1_isLoopBeginning ⟨Nat.le_of_ble_eq_true rfl, Nat.le_of_ble_eq_true rfl⟩ (Nat.le_of_ble_eq_true rfl) (by decide) (fun r101 σ101 h => ?_)
        refine r_if_eq C 113 107 dX2_findHeads_104 (by decide) rfl (fun c104 => ?_) (fun c104 => ?_)
        · have h := h.1 c104
          obtain ⟨v113, e113⟩ : ∃ y : Int32, y = i3 + 1 := ⟨_, rfl⟩
          have h := h v113 e113
          refine r_iinc (j := 6) C 116 [(3, .int v113), (6, .int v42), (5, .int v33), (4, .int v24), (0, .ref t), (1, .ref a), (2, .ref 44)] dX2_findHeads_113 rfl rfl (by rw [e113]; rfl) (by decide) rfl ?_
          refine r_goto C 10 dX2_findHeads_116 (by decide) ?_
          exact Ws_pick [4, 5, 6, 0] rfl h
        · have h := h.2 c104
          refine r_aload_n (j := 3) C 108 dX2_findHeads_107 rfl rfl ?_
          refine r_aload_n (j := 4) C 109 dX2_findHeads_108 rfl rfl ?_
          refine r_aload_n (j := 5) C 110 dX2_findHeads_109 rfl rfl ?_
          refine r_cVV (as := [.ref a, .ref 44]) (S := []) C r.px 113 (ct_X2_findLoopHeads _ _ _ _ _ h) dX2_findHeads_110 rfl cl4 (sta0 ht) wd_22 wd_565 rfl wd_563 wd_566 wd_93 yd_X2_findLoopHeads ⟨Nat.le_of_ble_eq_true rfl, Nat.le_of_ble_eq_true rfl⟩ (Nat.le_of_ble_eq_true rfl) (by decide) (fun σ110 h => ?_)
          obtain ⟨v113, e113⟩ : ∃ y : Int32, y = i3 + 1 := ⟨_, rfl⟩
          have h := h v113 e113
          refine r_iinc (j := 6) C 116 [(3, .int v113), (6, .int v42), (5, .int v33), (4, .int v24), (0, .ref t), (1, .ref a), (2, .ref 44)] dX2_findHeads_113 rfl rfl (by rw [e113]; rfl) (by decide) rfl ?_
          refine r_goto C 10 dX2_findHeads_116 (by decide) ?_
          exact Ws_pick [4, 5, 6, 0] rfl h
      · have h := h.2 c57
        refine r_aload_n (j := 5) C 61 dX2_findHeads_60 rfl rfl ?_
        refine r_get (k := 5) C cl3 64 dX2_findHeads_61 rfl kd_44 (by decide) wd_237 (.ref 49) (fun _ => rfl) ?_
        refine r_iload (j := 2) C 66 dX2_findHeads_64 rfl rfl ?_
        obtain ⟨o66, h⟩ := h
        refine r_iald C 67 dX2_findHeads_66 rfl kd_49 o66 ?_
        refine r_if_ge C 98 70 dX2_findHeads_67 (by decide) rfl (fun c67 => ?_) (fun c67 => ?_)
        · have h := h.1 c67
          refine r_aload_n (j := 5) C 99 dX2_findHeads_98 rfl rfl ?_
          refine r_iload (j := 2) C 101 dX2_findHeads_99 rfl rfl ?_
          refine r_cVI (as := [.int v24]) (S := []) C r.px 104 (ct_X1_isLoopBeginning _ _ _ _ h) dX2_findHeads_101 rfl cl3 kd_44 wd_523 wd_522 rfl wd_521 wd_524 wd_92 yd_X1_isLoopBeginning ⟨Nat.le_of_ble_eq_true rfl, Nat.le_of_ble_eq_true rfl⟩ (Nat.le_of_ble_eq_true rfl) (by decide) (fun r101 σ101 h => ?_)
          refine r_if_eq C 113 107 dX2_findHeads_104 (by decide) rfl (fun c104 => ?_) (fun c104 => ?_)
          · have h := h.1 c104
            obtain ⟨v113, e113⟩ : ∃ y : Int32, y = i3 + 1 := ⟨_, rfl⟩
            have h := h v113 e113
            refine r_iinc (j := 6) C 116 [(3, .int v113), (6, .int v42), (5, .int v33), (4, .int v24), (0, .ref t), (1, .ref a), (2, .ref 44)] dX2_findHeads_113 rfl rfl (by rw [e113]; rfl) (by decide) rfl ?_
            refine r_goto C 10 dX2_findHeads_116 (by decide) ?_
            exact Ws_pick [4, 5, 6, 0] rfl h
          · have h := h.2 c104
            refine r_aload_n (j := 3) C 108 dX2_findHeads_107 rfl rfl ?_
            refine r_aload_n (j := 4) C 109 dX2_findHeads_108 rfl rfl ?_
            refine r_aload_n (j := 5) C 110 dX2_findHeads_109 rfl rfl ?_
            refine r_cVV (as := [.ref a, .ref 44]) (S := []) C r.px 113 (ct_X2_findLoopHeads _ _ _ _ _ h) dX2_findHeads_110 rfl cl4 (sta0 ht) wd_22 wd_565 rfl wd_563 wd_566 wd_93 yd_X2_findLoopHeads ⟨Nat.le_of_ble_eq_true rfl, Nat.le_of_ble_eq_true rfl⟩ (Nat.le_of_ble_eq_true rfl) (by decide) (fun σ110 h => ?_)
            obtain ⟨v113, e113⟩ : ∃ y : Int32, y = i3 + 1 := ⟨_, rfl⟩
            have h := h v113 e113
            refine r_iinc (j := 6) C 116 [(3, .int v113), (6, .int v42), (5, .int v33), (4, .int v24), (0, .ref t), (1, .ref a), (2, .ref 44)] dX2_findHeads_113 rfl rfl (by rw [e113]; rfl) (by decide) rfl ?_
            refine r_goto C 10 dX2_findHeads_116 (by decide) ?_
            exact Ws_pick [4, 5, 6, 0] rfl h
        · have h := h.2 c67
          refine r_aload_n (j := 3) C 71 dX2_findHeads_70 rfl rfl ?_
          refine r_get (k := 11) C cl4 74 dX2_findHeads_71 rfl (sta0 ht) (by decide) wd_293 (.ref (t + 12)) (fun _ => rfl) ?_
          refine r_iload (j := 2) C 76 dX2_findHeads_74 rfl rfl ?_
          refine r_aload_n (j := 3) C 77 dX2_findHeads_76 rfl rfl ?_
          refine r_get (k := 11) C cl4 80 dX2_findHeads_77 rfl (sta0 ht) (by decide) wd_293 (.ref (t + 12)) (fun _ => rfl) ?_
          refine r_iload (j := 1) C 82 dX2_findHeads_80 rfl rfl ?_
          obtain ⟨o82, h⟩ := h
          refine r_lald C 83 dX2_findHeads_82 rfl (sta12 ht) o82 ?_
          refine r_aload_n (j := 4) C 84 dX2_findHeads_83 rfl rfl ?_
          refine r_iload (j := 0) C 86 dX2_findHeads_84 rfl rfl ?_
          refine r_aload_n (j := 3) C 87 dX2_findHeads_86 rfl rfl ?_
          refine r_get (k := 3) C cl4 90 dX2_findHeads_87 rfl (sta0 ht) (by decide) wd_281 (.ref (t + 4)) (fun _ => rfl) ?_
          refine r_iload (j := 2) C 92 dX2_findHeads_90 rfl rfl ?_
          obtain ⟨o92, h⟩ := h
          refine r_iald C 93 dX2_findHeads_92 rfl (sta4 ht) o92 ?_
          refine r_cVL (as := [.int v42, .int (σ54.1 (t + 4) v24.toNatClampNeg)]) (S := [.long (σ54.2.1 (t + 12) v33.toNatClampNeg), .int v24, .ref (t + 12)]) C r.px 96 (ct_X0_dropOf _ _ _ _ _ _ h) dX2_findHeads_93 rfl cl2 (net0 ha) wd_508 wd_507 rfl wd_506 wd_509 wd_91 yd_X0_dropOf ⟨Nat.le_of_ble_eq_true rfl, Nat.le_of_ble_eq_true rfl⟩ (Nat.le_of_ble_eq_true rfl) (by decide) (fun r93 σ93 h => ?_)
          refine r_ladd C 97 dX2_findHeads_96 rfl ?_
          obtain ⟨o97, h⟩ := h
          refine r_last C 98 dX2_findHeads_97 rfl (sta12 ht) o97 ?_
          refine r_nmS (fun σ97 e97 => ?_)
          have h := h σ97 e97
          refine r_aload_n (j := 5) C 99 dX2_findHeads_98 rfl rfl ?_
          refine r_iload (j := 2) C 101 dX2_findHeads_99 rfl rfl ?_
          refine r_cVI (as := [.int v24]) (S := []) C r.px 104 (ct_X1_isLoopBeginning _ _ _ _ h) dX2_findHeads_101 rfl cl3 kd_44 wd_523 wd_522 rfl wd_521 wd_524 wd_92 yd_X1_isLoopBeginning ⟨Nat.le_of_ble_eq_true rfl, Nat.le_of_ble_eq_true rfl⟩ (Nat.le_of_ble_eq_true rfl) (by decide) (fun r101 σ101 h => ?_)
          refine r_if_eq C 113 107 dX2_findHeads_104 (by decide) rfl (fun c104 => ?_) (fun c104 => ?_)
          · have h := h.1 c104
            obtain ⟨v113, e113⟩ : ∃ y : Int32, y = i3 + 1 := ⟨_, rfl⟩
            have h := h v113 e113
            refine r_iinc (j := 6) C 116 [(3, .int v113), (6, .int v42), (5, .int v33), (4, .int v24), (0, .ref t), (1, .ref a), (2, .ref 44)] dX2_findHeads_113 rfl rfl (by rw [e113]; rfl) (by decide) rfl ?_
            refine r_goto C 10 dX2_findHeads_116 (by decide) ?_
            exact Ws_pick [4, 5, 6, 0] rfl h
          · have h := h.2 c104
            refine r_aload_n (j := 3) C 108 dX2_findHeads_107 rfl rfl ?_
            refine r_aload_n (j := 4) C 109 dX2_findHeads_108 rfl rfl ?_
            refine r_aload_n (j := 5) C 110 dX2_findHeads_109 rfl rfl ?_
            refine r_cVV (as := [.ref a, .ref 44]) (S := []) C r.px 113 (ct_X2_findLoopHeads _ _ _ _ _ h) dX2_findHeads_110 rfl cl4 (sta0 ht) wd_22 wd_565 rfl wd_563 wd_566 wd_93 yd_X2_findLoopHeads ⟨Nat.le_of_ble_eq_true rfl, Nat.le_of_ble_eq_true rfl⟩ (Nat.le_of_ble_eq_true rfl) (by decide) (fun σ110 h => ?_)
            obtain ⟨v113, e113⟩ : ∃ y : Int32, y = i3 + 1 := ⟨_, rfl⟩
            have h := h v113 e113
            refine r_iinc (j := 6) C 116 [(3, .int v113), (6, .int v42), (5, .int v33), (4, .int v24), (0, .ref t), (1, .ref a), (2, .ref 44)] dX2_findHeads_113 rfl rfl (by rw [e113]; rfl) (by decide) rfl ?_
            refine r_goto C 10 dX2_findHeads_116 (by decide) ?_
            exact Ws_pick [4, 5, 6, 0] rfl h
theorem vc_X2_findHeads {x : Ctx} {K : Mem → Prop} {X : String → Mem → Prop} (C : Cx x RX2 cX2_findHeads 7) (r : RtV x 4 0 none K X) (t a : Nat) (σ : Mem) (h : sp_X2_findHeads t a σ K X) : Ws x 0 0 [(0, .ref t), (1, .ref a), (2, .ref 44)] [] σ := by
  obtain ⟨ht, ha, w, g, c, B, f, hw, hN, hS, hf, hB, hK⟩ := h
  have hg := hw.2.1
  have hP := hg.1
  have hT := bfs_tre hg (by decide : 0 < 10)
  have hL := hS.1.1
  have ht2 := staA_is ht
  generalize hLL : bfs g 0 = L at hT hS hL hB hK
  have hle := hL.le hT
  have hlen := hT.1.len
  have n10 : ∀ i, i < c.1 → c.2.1 i < 10 := fun i hi => hT.lt (hL.2.2.2.1 i hi)
  refine sg_X2_findHeads_0 C r t a ht ha σ ⟨by rcases ht2 with q | q <;> (rw [q]; decide +kernel), by decide, ?_⟩
  have key := cnt L.length (fun k (τ : Mem) => τ.1 = σ.1 ∧ (∀ b k, b ≠ t + 12 → τ.2.1 b k = σ.2.1 b k) ∧ τ.2.2 = σ.2.2 ∧ τ.2.1 (t + 12) 0 = 0 ∧ ∀ n, n ∈ nds L → ((¬ inT c n ∧ ixr L n < k) ∨ (inT c n ∧ ixr L (c.2.1 0) < k)) → τ.2.1 (t + 12) n = zL (hdN w L c B f n)) (fun k τ => Ws x 0 10 [(0, .ref t), (1, .ref a), (2, .ref 44), (3, .int (nI k))] [] τ)
    (fun τ ⟨j1, j2, j3, _, j4⟩ => by
      refine sg_X2_findHeads_10 C r t a _ ht ha τ ?_
      rw [j1, hS.2.2.2.1]
      refine ⟨fun _ => hK τ j1 j2 j3 (fun n hn => j4 n hn ?_), fun q => absurd (nI_le (Nat.le_refl L.length) (by omega)) q⟩
      by_cases z : inT c n
      · exact .inr ⟨z, ixr_lt hT (chain_ix hT hL hg z).2.2.1⟩
      · exact .inl ⟨z, ixr_lt hT hn⟩)
    (fun k τ hk ⟨j1, j2, j3, j0, j4⟩ ih => by
      have hm := ndAt_mem hk
      have him := ix_ndAt hT hk
      have e46 : τ.1 46 k = nI (ndAt L k) := by
        rw [j1, hS.2.2.2.2.2.1 k _ (List.getElem?_eq_getElem hk), ndAt_some (List.getElem?_eq_getElem hk)]
      generalize ndAt L k = m at hm him e46
      have m10 := hT.lt hm
      -- the loop's heads behind its beginning
      have beg : ∀ υ : Mem, υ.1 = σ.1 → (∀ b k, b ≠ t + 12 → υ.2.1 b k = σ.2.1 b k) → υ.2.2 = σ.2.2 → υ.2.1 (t + 12) 0 = 0 → (∀ n, n ∈ nds L → ((¬ inT c n ∧ ixr L n < k + 1) ∨ (inT c n ∧ ixr L (c.2.1 0) < k)) → υ.2.1 (t + 12) n = zL (hdN w L c B f n)) → sp_X1_isLoopBeginning (nI m) υ (fun r85 σ85 => (r85 = 0 → ∀ v97 : Int32, v97 = nI k + 1 → Ws x 0 10 [(0, .ref t), (1, .ref a), (2, .ref 44), (3, .int v97)] [] σ85) ∧ (¬ r85 = 0 → sp_X2_findLoopHeads t a σ85 (fun σ94 => ∀ v97 : Int32, v97 = nI k + 1 → Ws x 0 10 [(0, .ref t), (1, .ref a), (2, .ref 44), (3, .int v97)] [] σ94) X)) X := by
        intro υ u1 u2 u3 u0 u4
        have no : (¬ (0 < c.1 ∧ c.2.1 0 = m)) → ∀ v97 : Int32, v97 = nI k + 1 → Ws x 0 10 [(0, .ref t), (1, .ref a), (2, .ref 44), (3, .int v97)] [] υ := fun hno v e => by
          rw [e, nI_1]
          refine ih υ ⟨u1, u2, u3, u0, fun n hn hc => u4 n hn ?_⟩
          rcases hc with hc | ⟨z, q⟩
          · exact .inl hc
          · refine .inr ⟨z, ?_⟩
            obtain ⟨i, i0, i1, -⟩ := id z
            have h0 := hL.2.2.2.1 0 (by omega)
            have : ixr L (c.2.1 0) ≠ k := fun e => hno ⟨by omega, ixr_inj hT h0 hm (by rw [e, him])⟩
            omega
        refine ⟨?_, ?_⟩
        · rw [u1, hS.2.1.1]
          intro q
          have c0 : c.1 = 0 := by have := n_le (b := 0) (by omega) (by decide) q; omega
          exact ⟨fun _ => no (fun w => by omega), fun w => absurd rfl w⟩
        · rw [u1, hS.2.1.1]
          intro q
          have cpos : 0 < c.1 := by
            apply Nat.pos_of_ne_zero
            intro e
            rw [e] at q
            exact q (by decide)
          rw [(hS.2.1.2 0 cpos).1, nI_e10 (n10 0 cpos) m10]
          refine ⟨fun q2 => ⟨fun _ => no (fun w => q2 w.2), fun w => absurd rfl w⟩, fun q2 => ⟨fun w => absurd w (by decide), fun _ => ?_⟩⟩
          have h0T : ¬ inT c m := fun ⟨i, i0, i1, i2⟩ => by
            have := hL.1 0 i cpos i1 (by rw [q2, i2])
            omega
          have hN' : NR υ a w g := by
            unfold NR GC
            rw [u1]; exact hN
          have hS' : Shp g L c υ := by
            unfold Shp ShL
            rw [u1]; exact hS
          refine ⟨ht, ha, w, g, c, B, f, hw, hN', by rw [hLL]; exact hS', cpos, fun i hi => by rw [u1]; exact hf i hi, ?_, ?_⟩
          · rw [hLL, q2]
            exact u4 m hm (.inl ⟨h0T, by omega⟩)
          · rw [hLL]
            intro υ2 w1 w2 w3 w4 w5 v97 e97
            rw [e97, nI_1]
            have z0T : ¬ inT c 0 := fun z => (chain_ix hT hL hg z).2.1 rfl
            refine ih υ2 ⟨w1.trans u1, fun b j hb => (w2 b j hb).trans (u2 b j hb), w3.trans u3, by rw [w4 0 z0T]; exact u0, fun n hn hc => ?_⟩
            by_cases z : inT c n
            · exact w5 n z
            · rw [w4 n z]
              refine u4 n hn ?_
              rcases hc with hc | ⟨hc, -⟩
              · exact .inl hc
              · exact absurd hc z
      refine sg_X2_findHeads_10 C r t a _ ht ha τ ?_
      rw [j1, hS.2.2.2.1, n_cl (n := k) (by omega)]
      refine ⟨fun q => absurd (n_le (by omega) (by omega) q) (by omega), fun _ => ⟨n_inR (by omega) (by decide), fun v24 e24 => ?_⟩⟩
      rw [← j1, e46] at e24
      subst e24
      rw [n_cl (n := m) (by omega)]
      have stay : (inT c m ∨ m = 0) → sp_X1_isLoopBeginning (nI m) τ (fun r85 σ85 => (r85 = 0 → ∀ v97 : Int32, v97 = nI k + 1 → Ws x 0 10 [(0, .ref t), (1, .ref a), (2, .ref 44), (3, .int v97)] [] σ85) ∧ (¬ r85 = 0 → sp_X2_findLoopHeads t a σ85 (fun σ94 => ∀ v97 : Int32, v97 = nI k + 1 → Ws x 0 10 [(0, .ref t), (1, .ref a), (2, .ref 44), (3, .int v97)] [] σ94) X)) X := fun hh => by
        refine beg τ j1 j2 j3 j0 (fun n hn hc => ?_)
        by_cases e : n = m
        · rcases hh with hh | hh
          · rcases hc with ⟨z, -⟩ | hc
            · rw [e] at z; exact absurd hh z
            · exact j4 n hn (.inr hc)
          · rw [e, hh, hdN_0]; rw [j0]; rfl
        · refine j4 n hn ?_
          rcases hc with ⟨z1, z2⟩ | hc
          · refine .inl ⟨z1, ?_⟩
            have : ixr L n ≠ k := fun y => e (ixr_inj hT hn hm (by rw [y, him]))
            omega
          · exact .inr hc
      have e48z : m = 0 → σ.1 48 m = -1 := fun e => by rw [e]; exact hS.2.2.2.2.2.2.2.2.1
      refine ⟨n_inR m10 (by decide), fun v33 e33 => ⟨n_inR m10 (by decide), fun v42 e42 => ?_⟩⟩
      have off : ¬ (inT c m ∨ m = 0) → v33 = nI (fe L m) ∧ v42 = nI (fp L m) ∧ σ.1 49 m = -1 := fun z => by
        obtain ⟨s1, s2, s3⟩ := hS.2.2.2.2.2.2.1 m hm (fun e => z (.inr e)) (fun e => z (.inl e))
        rw [e33, e42]
        exact ⟨s1, s2, s3⟩
      have hup : ¬ (inT c m ∨ m = 0) → fe L m < 10 ∧ fp L m < 10 := fun z => by
        obtain ⟨u1, u2, u3, u4⟩ := hT.up hm (fun e => z (.inr e))
        exact ⟨hT.lt u1, by omega⟩
      have n33 : ¬ (9 : Int32) < v33 := by
        by_cases z : inT c m ∨ m = 0
        · rcases z with z | z
          · obtain ⟨j, j0, j1, j2⟩ := z
            rw [e33, ← j2, (hS.2.2.2.2.2.2.2.1 j j0 j1).1]
            exact (node_in (n10 0 (by omega))).2
          · rw [e33, z, hS.2.2.2.2.2.2.2.2.2.2]; decide
        · rw [(off z).1]; exact (node_in (hup z).1).2
      have n42 : ¬ (10 : Int32) ≤ v42 := by
        by_cases z : inT c m ∨ m = 0
        · rcases z with z | z
          · obtain ⟨j, j0, j1, j2⟩ := z
            rw [e42, ← j2, (hS.2.2.2.2.2.2.2.1 j j0 j1).2.1]
            have := (hL.2.1 (j - 1) (by omega)).1
            exact pipe_in (by omega)
          · rw [e42, e48z z]; decide
        · rw [(off z).2.1]; exact pipe_in (hup z).2
      refine isNode_br n33 ⟨fun q => stay (Classical.byContradiction fun z => ?_), fun q => isPipe_br n42 ⟨fun q1 => stay (Classical.byContradiction fun z => ?_), fun q1 => ⟨n_inR m10 (by decide), fun q2 => stay (Classical.byContradiction fun z => ?_), fun q2 => ?_⟩⟩⟩
      · rw [(off z).1] at q
        exact nI_pos (by have := hup z; omega) q
      · rw [(off z).2.1] at q1
        exact nI_pos (by have := hup z; omega) q1
      · rw [j1, (off z).2.2] at q2
        exact absurd q2 (by decide)
      · have m0 : m ≠ 0 := fun e => by
          rw [e42, e48z e] at q1
          exact q1 (by decide)
        have hnt : ¬ inT c m := fun ⟨j, i0, i1, i2⟩ => by
          apply q2
          rw [j1, ← i2, (hS.2.2.2.2.2.2.2.1 j i0 i1).2.2]
          have := (hL.2.1 j i1).1
          exact nI_pos' (by omega)
        · obtain ⟨s1, s2, -⟩ := hS.2.2.2.2.2.2.1 m hm m0 hnt
          obtain ⟨u1, u2, u3, u4⟩ := hT.up hm m0
          have hix := ixr_up hT hm m0
          have f10 := hT.lt u1
          have hN' : NR τ a w g := by
            unfold NR GC
            rw [j1]; exact hN
          obtain ⟨b1, b2⟩ := hB m hm
          rw [e33, e42, s1, s2, j1, b2, nI_z (B m), n_cl (n := fe L m) (by omega)]
          refine ⟨n_inR f10 (by decide), n_inR m10 (by decide), i_X0_dropOf ha hw hN' u3 (by omega) (by omega) ?_⟩
          have hfe : τ.2.1 (t + 12) (fe L m) = zL (hdN w L c B f (fe L m)) := by
            refine j4 _ u1 ?_
            by_cases z : inT c (fe L m)
            · have := (chain_ix hT hL hg z).2.2.2
              exact .inr ⟨z, by omega⟩
            · exact .inl ⟨z, by omega⟩
          rw [hfe, zL_add, ← hdN_t hT hL hm m0 hnt]
          refine ⟨n_inR m10 (by decide), fun σ81 e81 => ?_⟩
          refine beg σ81 (by rw [e81]; exact j1) (fun b j hb => by rw [e81, wl_l, if_neg (fun q => hb q.1)]; exact j2 b j hb) (by rw [e81]; exact j3) (by rw [e81, wl_l, if_neg (fun q => m0 q.2.symm)]; exact j0) (fun n hn hc => ?_)
          rw [e81, wl_l]
          by_cases e : n = m
          · rw [if_pos ⟨rfl, e⟩, e]
          · rw [if_neg (fun q => e q.2)]
            refine j4 n hn ?_
            rcases hc with ⟨z1, z2⟩ | hc
            · refine .inl ⟨z1, ?_⟩
              have : ixr L n ≠ k := fun y => e (ixr_inj hT hn hm (by rw [y, him]))
              omega
            · exact .inr hc) 0 (fl σ (t + 12) 10 0) (Nat.zero_le _) ⟨rfl, fun b k hb => by rw [fl_l, if_neg (fun q => hb q.1)], rfl, by rw [fl_l, if_pos ⟨rfl, by decide⟩], fun n hn hc => by
      rcases hc with ⟨-, q⟩ | ⟨-, q⟩
      · exact absurd q (Nat.not_lt_zero _)
      · exact absurd q (Nat.not_lt_zero _)⟩
  exact key
theorem ct_X2_findHeads (t : Nat) (a : Nat) (σ : Mem) (K : Mem → Prop) (X : String → Mem → Prop) (h : sp_X2_findHeads t a σ K X) : CtV yX2_findHeads cX2_findHeads 7 none 4 0 [.ref t, .ref a, .ref 44] σ K X :=
  ctV_of (by decide +kernel) (Nat.le_of_ble_eq_true rfl) (fun x C r => vc_X2_findHeads C r t a σ h)
