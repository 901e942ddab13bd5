/-! HeatNetwork$State.find(LHeatNetwork$Network;LHeatNetwork$Shape;)V: level 5, exceptions 0 -/
def sp_X2_find (t a : Nat) (σ : Mem) (K : Mem → Prop) (X : String → Mem → Prop) : Prop := StaA t ∧ NetA a ∧ ∃ (w : Nat → Int32) (g : Gr) (c : Lp), WFw w g ∧ NR σ a w g ∧ Shp g (bfs g 0) c σ ∧ ∀ (τ : Mem) (R : Nat) (D T : Nat → Nat → Nat) (B S : Nat → Nat) (z : Int), Ch t (t + 12) σ τ → Hist w g c R D T → StF w g c R (D R) B (T R) S z t τ → K τ
set_option maxRecDepth 4000 in
theorem sg_X2_find_0 {x : Ctx} {K : Mem → Prop} {X : String → Mem → Prop} (C : Cx x RX2 cX2_find 6) (r : RtV x 5 0 none K X) (t : Nat) (a : Nat) (ht : StaA t) (ha : NetA a) (σ : Mem) (h : sp_J7_fill_53178 (t + 6) 10 (σ.1 (a + 1) 0) σ (fun σ10 => Ws x 0 18 [(0, .ref t), (1, .ref a), (2, .ref 44), (3, .int 0), (4, .int 1)] [] σ10) X) : Ws x 0 0 [(0, .ref t), (1, .ref a), (2, .ref 44)] [] σ := by
  refine r_aload_n (j := 0) C 1 dX2_find_0 rfl rfl ?_
  refine r_get (k := 5) C cl4 4 dX2_find_1 rfl (sta0 ht) (by decide) wd_283 (.ref (t + 6)) (fun _ => rfl) ?_
  refine r_aload_n (j := 1) C 5 dX2_find_4 rfl rfl ?_
  refine r_get (k := 0) C cl2 8 dX2_find_5 rfl (net0 ha) (by decide) wd_135 (.ref (a + 1)) (fun _ => rfl) ?_
  refine r_iconst C 9 (v := 0) dX2_find_8 rfl (by decide) ?_
  refine r_iald C 10 dX2_find_9 rfl (net1 ha) (n_inR (n := 0) (by decide) (by decide)) ?_
  refine r_cSV (b := 0) (as := [.ref (t + 6), .int (σ.1 (a + 1) 0)]) (S := []) C r.px 13 (ct_J7_fill_53178 _ _ _ _ _ _ h) dX2_find_10 rfl wd_422 wd_461 wd_423 wd_108 yd_J7_fill_53178 ⟨Nat.le_of_ble_eq_true rfl, Nat.le_of_ble_eq_true rfl⟩ (Nat.le_of_ble_eq_true rfl) (by decide) (fun σ10 h => ?_)
  refine r_iconst C 14 (v := 0) dX2_find_13 rfl (by decide) ?_
  refine r_istore_n C 15 [(3, .int 0), (0, .ref t), (1, .ref a), (2, .ref 44)] dX2_find_14 rfl (by decide) rfl ?_
  refine r_iconst C 16 (v := 1) dX2_find_15 rfl (by decide) ?_
  refine r_istore C 18 [(4, .int 1), (3, .int 0), (0, .ref t), (1, .ref a), (2, .ref 44)] dX2_find_16 rfl (by decide) rfl ?_
  exact Ws_pick [2, 3, 4, 1, 0] rfl h
set_option maxRecDepth 4000 in
theorem sg_X2_find_18 {x : Ctx} {K : Mem → Prop} {X : String → Mem → Prop} (C : Cx x RX2 cX2_find 6) (r : RtV x 5 0 none K X) (t : Nat) (a : Nat) (i3 : Int32) (i4 : Int32) (ht : StaA t) (ha : NetA a) (σ : Mem) (h : (12 < i4 → sp_X2_findReturns t a σ (fun σ96 => sp_X2_findHeads t a σ96 (fun σ102 => K σ102) X) X) ∧ (¬ 12 < i4 → (¬ i3 = 0 → sp_X2_findReturns t a σ (fun σ96 => sp_X2_findHeads t a σ96 (fun σ102 => K σ102) X) X) ∧ (i3 = 0 → sp_X2_findStationFlows t a σ (fun r32 σ32 => (r32 = 0 → ∀ σ57 : Mem, σ57 = wi σ32 t 13 i4 → (¬ (0 : Int32) = 0 → ∀ v87 : Int32, v87 = i4 + 1 → Ws x 0 18 [(0, .ref t), (1, .ref a), (2, .ref 44), (3, .int 0), (4, .int v87)] [] σ57) ∧ ((0 : Int32) = 0 → sp_X2_findTreeFlows t a σ57 (fun σ67 => sp_X2_findLoopFlows t a σ67 (fun σ73 => sp_X2_findWaterOrder t σ73 (fun σ78 => sp_X2_findTemperatures t a σ78 (fun σ84 => ∀ v87 : Int32, v87 = i4 + 1 → Ws x 0 18 [(0, .ref t), (1, .ref a), (2, .ref 44), (3, .int 0), (4, .int v87)] [] σ84) X) X) X) X)) ∧ (¬ r32 = 0 → (i4 ≤ 1 → ∀ σ57 : Mem, σ57 = wi σ32 t 13 i4 → (¬ (0 : Int32) = 0 → ∀ v87 : Int32, v87 = i4 + 1 → Ws x 0 18 [(0, .ref t), (1, .ref a), (2, .ref 44), (3, .int 0), (4, .int v87)] [] σ57) ∧ ((0 : Int32) = 0 → sp_X2_findTreeFlows t a σ57 (fun σ67 => sp_X2_findLoopFlows t a σ67 (fun σ73 => sp_X2_findWaterOrder t σ73 (fun σ78 => sp_X2_findTemperatures t a σ78 (fun σ84 => ∀ v87 : Int32, v87 = i4 + 1 → Ws x 0 18 [(0, .ref t), (1, .ref a), (2, .ref 44), (3, .int 0), (4, .int v87)] [] σ84) X) X) X) X)) ∧ (¬ i4 ≤ 1 → ∀ σ57 : Mem, σ57 = wi σ32 t 13 i4 → (¬ (1 : Int32) = 0 → ∀ v87 : Int32, v87 = i4 + 1 → Ws x 0 18 [(0, .ref t), (1, .ref a), (2, .ref 44), (3, .int 1), (4, .int v87)] [] σ57) ∧ ((1 : Int32) = 0 → sp_X2_findTreeFlows t a σ57 (fun σ67 => sp_X2_findLoopFlows t a σ67 (fun σ73 => sp_X2_findWaterOrder t σ73 (fun σ78 => sp_X2_findTemperatures t a σ78 (fun σ84 => ∀ v87 : Int32, v87 = i4 + 1 → Ws x 0 18 [(0, .ref t), (1, .ref a), (2, .ref 44), (3, .int 1), (4, .int v87)] [] σ84) X) X) X) X)))) X))) : Ws x 0 18 [(0, .ref t), (1, .ref a), (2, .ref 44), (3, .int i3), (4, .int i4)] [] σ := by
  refine r_iload (j := 4) C 20 dX2_find_18 rfl rfl ?_
  refine r_bipush C 22 (v := 12) dX2_find_20 rfl (by decide) ?_
  refine r_icmp_gt C 93 25 dX2_find_22 (by decide) rfl (fun c22 => ?_) (fun c22 => ?_)
  · have h := h.1 c22
    refine r_aload_n (j := 0) C 94 dX2_find_93 rfl rfl ?_
    refine r_aload_n (j := 1) C 95 dX2_find_94 rfl rfl ?_
    refine r_aload_n (j := 2) C 96 dX2_find_95 rfl rfl ?_
    refine r_cVV (as := [.ref a, .ref 44]) (S := []) C r.px 99 (ct_X2_findReturns _ _ _ _ _ h) dX2_find_96 rfl cl4 (sta0 ht) wd_19 wd_553 rfl wd_551 wd_554 wd_93 yd_X2_findReturns ⟨Nat.le_of_ble_eq_true rfl, Nat.le_of_ble_eq_true rfl⟩ (Nat.le_of_ble_eq_true rfl) (by decide) (fun σ96 h => ?_)
    refine r_aload_n (j := 0) C 100 dX2_find_99 rfl rfl ?_
    refine r_aload_n (j := 1) C 101 dX2_find_100 rfl rfl ?_
    refine r_aload_n (j := 2) C 102 dX2_find_101 rfl rfl ?_
    refine r_cVV (as := [.ref a, .ref 44]) (S := []) C r.px 105 (ct_X2_findHeads _ _ _ _ _ h) dX2_find_102 rfl cl4 (sta0 ht) wd_21 wd_561 rfl wd_559 wd_562 wd_93 yd_X2_findHeads ⟨Nat.le_of_ble_eq_true rfl, Nat.le_of_ble_eq_true rfl⟩ (Nat.le_of_ble_eq_true rfl) (by decide) (fun σ102 h => ?_)
    exact r_vret (S := []) C r dX2_find_105 (by decide) h
  · have h := h.2 c22
    refine r_iload_n (j := 3) C 26 dX2_find_25 rfl rfl ?_
    refine r_if_ne C 93 29 dX2_find_26 (by decide) rfl (fun c26 => ?_) (fun c26 => ?_)
    · have h := h.1 c26
      refine r_aload_n (j := 0) C 94 dX2_find_93 rfl rfl ?_
      refine r_aload_n (j := 1) C 95 dX2_find_94 rfl rfl ?_
      refine r_aload_n (j := 2) C 96 dX2_find_95 rfl rfl ?_
      refine r_cVV (as := [.ref a, .ref 44]) (S := []) C r.px 99 (ct_X2_findReturns _ _ _ _ _ h) dX2_find_96 rfl cl4 (sta0 ht) wd_19 wd_553 rfl wd_551 wd_554 wd_93 yd_X2_findReturns ⟨Nat.le_of_ble_eq_true rfl, Nat.le_of_ble_eq_true rfl⟩ (Nat.le_of_ble_eq_true rfl) (by decide) (fun σ96 h => ?_)
      refine r_aload_n (j := 0) C 100 dX2_find_99 rfl rfl ?_
      refine r_aload_n (j := 1) C 101 dX2_find_100 rfl rfl ?_
      refine r_aload_n (j := 2) C 102 dX2_find_101 rfl rfl ?_
      refine r_cVV (as := [.ref a, .ref 44]) (S := []) C r.px 105 (ct_X2_findHeads _ _ _ _ _ h) dX2_find_102 rfl cl4 (sta0 ht) wd_21 wd_561 rfl wd_559 wd_562 wd_93 yd_X2_findHeads ⟨Nat.le_of_ble_eq_true rfl, Nat.le_of_ble_eq_true rfl⟩ (Nat.le_of_ble_eq_true rfl) (by decide) (fun σ102 h => ?_)
      exact r_vret (S := []) C r dX2_find_105 (by decide) h
    · have h := h.2 c26
      refine r_aload_n (j := 0) C 30 dX2_find_29 rfl rfl ?_
      refine r_aload_n (j := 1) C 31 dX2_find_30 rfl rfl ?_
      refine r_aload_n (j := 2) C 32 dX2_find_31 rfl rfl ?_
      refine r_cVI (as := [.ref a, .ref 44]) (S := []) C r.px 35 (ct_X2_findStationFlows _ _ _ _ _ h) dX2_find_32 rfl cl4 (sta0 ht) wd_7 wd_464 rfl wd_462 wd_465 wd_93 yd_X2_findStationFlows ⟨Nat.le_of_ble_eq_true rfl, Nat.le_of_ble_eq_true rfl⟩ (Nat.le_of_ble_eq_true rfl) (by decide) (fun r32 σ32 h => ?_)
      refine r_istore C 37 [(5, .int r32), (0, .ref t), (1, .ref a), (2, .ref 44), (3, .int i3), (4, .int i4)] dX2_find_35 rfl (by decide) rfl ?_
      refine r_iload (j := 0) C 39 dX2_find_37 rfl rfl ?_
      refine r_if_eq C 52 42 dX2_find_39 (by decide) rfl (fun c39 => ?_) (fun c39 => ?_)
      · have h := h.1 c39
        refine r_iconst C 53 (v := 0) dX2_find_52 rfl (by decide) ?_
        refine r_istore_n C 54 [(3, .int 0), (5, .int r32), (0, .ref t), (1, .ref a), (2, .ref 44), (4, .int i4)] dX2_find_53 rfl (by decide) rfl ?_
        refine r_aload_n (j := 2) C 55 dX2_find_54 rfl rfl ?_
        refine r_iload (j := 5) C 57 dX2_find_55 rfl rfl ?_
        refine r_putI (k := 13) C cl4 60 dX2_find_57 rfl (sta0 ht) (by decide) wd_297 rfl rfl rfl rfl ?_
        refine r_nmS (fun σ57 e57 => ?_)
        have h := h σ57 e57
        refine r_iload_n (j := 0) C 61 dX2_find_60 rfl rfl ?_
        refine r_if_ne C 87 64 dX2_find_61 (by decide) rfl (fun c61 => ?_) (fun c61 => ?_)
        · have h := h.1 c61
          obtain ⟨v87, e87⟩ : ∃ y : Int32, y = i4 + 1 := ⟨_, rfl⟩
          have h := h v87 e87
          refine r_iinc (j := 5) C 90 [(4, .int v87), (3, .int 0), (5, .int r32), (0, .ref t), (1, .ref a), (2, .ref 44)] dX2_find_87 rfl rfl (by rw [e87]; rfl) (by decide) rfl ?_
          refine r_goto C 18 dX2_find_90 (by decide) ?_
          exact Ws_pick [3, 4, 5, 1, 0] rfl h
        · have h := h.2 c61
          refine r_aload_n (j := 2) C 65 dX2_find_64 rfl rfl ?_
          refine r_aload_n (j := 3) C 66 dX2_find_65 rfl rfl ?_
          refine r_aload_n (j := 4) C 67 dX2_find_66 rfl rfl ?_
          refine r_cVV (as := [.ref a, .ref 44]) (S := []) C r.px 70 (ct_X2_findTreeFlows _ _ _ _ _ h) dX2_find_67 rfl cl4 (sta0 ht) wd_9 wd_487 rfl wd_485 wd_488 wd_93 yd_X2_findTreeFlows ⟨Nat.le_of_ble_eq_true rfl, Nat.le_of_ble_eq_true rfl⟩ (Nat.le_of_ble_eq_true rfl) (by decide) (fun σ67 h => ?_)
          refine r_aload_n (j := 2) C 71 dX2_find_70 rfl rfl ?_
          refine r_aload_n (j := 3) C 72 dX2_find_71 rfl rfl ?_
          refine r_aload_n (j := 4) C 73 dX2_find_72 rfl rfl ?_
          refine r_cVV (as := [.ref a, .ref 44]) (S := []) C r.px 76 (ct_X2_findLoopFlows _ _ _ _ _ h) dX2_find_73 rfl cl4 (sta0 ht) wd_11 wd_500 rfl wd_498 wd_501 wd_93 yd_X2_findLoopFlows ⟨Nat.le_of_ble_eq_true rfl, Nat.le_of_ble_eq_true rfl⟩ (Nat.le_of_ble_eq_true rfl) (by decide) (fun σ73 h => ?_)
          refine r_aload_n (j := 2) C 77 dX2_find_76 rfl rfl ?_
          refine r_aload_n (j := 4) C 78 dX2_find_77 rfl rfl ?_
          refine r_cVV (as := [.ref 44]) (S := []) C r.px 81 (ct_X2_findWaterOrder _ _ _ _ h) dX2_find_78 rfl cl4 (sta0 ht) wd_13 wd_515 rfl wd_513 wd_516 wd_93 yd_X2_findWaterOrder ⟨Nat.le_of_ble_eq_true rfl, Nat.le_of_ble_eq_true rfl⟩ (Nat.le_of_ble_eq_true rfl) (by decide) (fun σ78 h => ?_)
          refine r_aload_n (j := 2) C 82 dX2_find_81 rfl rfl ?_
          refine r_aload_n (j := 3) C 83 dX2_find_82 rfl rfl ?_
          refine r_aload_n (j := 4) C 84 dX2_find_83 rfl rfl ?_
          refine r_cVV (as := [.ref a, .ref 44]) (S := []) C r.px 87 (ct_X2_findTemperatures _ _ _ _ _ h) dX2_find_84 rfl cl4 (sta0 ht) wd_16 wd_531 rfl wd_529 wd_532 wd_93 yd_X2_findTemperatures ⟨Nat.le_of_ble_eq_true rfl, Nat.le_of_ble_eq_true rfl⟩ (Nat.le_of_ble_eq_true rfl) (by decide) (fun σ84 h => ?_)
          obtain ⟨v87, e87⟩ : ∃ y : Int32, y = i4 + 1 := ⟨_, rfl⟩
          have h := h v87 e87
          refine r_iinc (j := 5) C 90 [(4, .int v87), (3, .int 0), (5, .int r32), (0, .ref t), (1, .ref a), (2, .ref 44)] dX2_find_87 rfl rfl (by rw [e87]; rfl) (by decide) rfl ?_
          refine r_goto C 18 dX2_find_90 (by decide) ?_
          exact Ws_pick [3, 4, 5, 1, 0] rfl h
      · have h := h.2 c39
        refine r_iload (j := 5) C 44 dX2_find_42 rfl rfl ?_
        refine r_iconst C 45 (v := 1) dX2_find_44 rfl (by decide) ?_
        refine r_icmp_le C 52 48 dX2_find_45 (by decide) rfl (fun c45 => ?_) (fun c45 => ?_)
        · have h := h.1 c45
          refine r_iconst C 53 (v := 0) dX2_find_52 rfl (by decide) ?_
          refine r_istore_n C 54 [(3, .int 0), (5, .int r32), (0, .ref t), (1, .ref a), (2, .ref 44), (4, .int i4)] dX2_find_53 rfl (by decide) rfl ?_
          refine r_aload_n (j := 2) C 55 dX2_find_54 rfl rfl ?_
          refine r_iload (j := 5) C 57 dX2_find_55 rfl rfl ?_
          refine r_putI (k := 13) C cl4 60 dX2_find_57 rfl (sta0 ht) (by decide) wd_297 rfl rfl rfl rfl ?_
          refine r_nmS (fun σ57 e57 => ?_)
          have h := h σ57 e57
          refine r_iload_n (j := 0) C 61 dX2_find_60 rfl rfl ?_
          refine r_if_ne C 87 64 dX2_find_61 (by decide) rfl (fun c61 => ?_) (fun c61 => ?_)
          · have h := h.1 c61
            obtain ⟨v87, e87⟩ : ∃ y : Int32, y = i4 + 1 := ⟨_, rfl⟩
            have h := h v87 e87
            refine r_iinc (j := 5) C 90 [(4, .int v87), (3, .int 0), (5, .int r32), (0, .ref t), (1, .ref a), (2, .ref 44)] dX2_find_87 rfl rfl (by rw [e87]; rfl) (by decide) rfl ?_
            refine r_goto C 18 dX2_find_90 (by decide) ?_
            exact Ws_pick [3, 4, 5, 1, 0] rfl h
          · have h := h.2 c61
            refine r_aload_n (j := 2) C 65 dX2_find_64 rfl rfl ?_
            refine r_aload_n (j := 3) C 66 dX2_find_65 rfl rfl ?_
            refine r_aload_n (j := 4) C 67 dX2_find_66 rfl rfl ?_
            refine r_cVV (as := [.ref a, .ref 44]) (S := []) C r.px 70 (ct_X2_findTreeFlows _ _ _ _ _ h) dX2_find_67 rfl cl4 (sta0 ht) wd_9 wd_487 rfl wd_485 wd_488 wd_93 yd_X2_findTreeFlows ⟨Nat.le_of_ble_eq_true rfl, Nat.le_of_ble_eq_true rfl⟩ (Nat.le_of_ble_eq_true rfl) (by decide) (fun σ67 h => ?_)
            refine r_aload_n (j := 2) C 71 dX2_find_70 rfl rfl ?_
            refine r_aload_n (j := 3) C 72 dX2_find_71 rfl rfl ?_
            refine r_aload_n (j := 4) C 73 dX2_find_72 rfl rfl ?_
            refine r_cVV (as := [.ref a, .ref 44]) (S := []) C r.px 76 (ct_X2_findLoopFlows _ _ _ _ _ h) dX2_find_73 rfl cl4 (sta0 ht) wd_11 wd_500 rfl wd_498 wd_501 wd_93 yd_X2_findLoopFlows ⟨Nat.le_of_ble_eq_true rfl, Nat.le_of_ble_eq_true rfl⟩ (Nat.le_of_ble_eq_true rfl) (by decide) (fun σ73 h => ?_)
            refine r_aload_n (j := 2) C 77 dX2_find_76 rfl rfl ?_
            refine r_aload_n (j := 4) C 78 dX2_find_77 rfl rfl ?_
            refine r_cVV (as := [.ref 44]) (S := []) C r.px 81 (ct_X2_findWaterOrder _ _ _ _ h) dX2_find_78 rfl cl4 (sta0 ht) wd_13 wd_515 rfl wd_513 wd_516 wd_93 yd_X2_findWaterOrder ⟨Nat.le_of_ble_eq_true rfl, Nat.le_of_ble_eq_true rfl⟩ (Nat.le_of_ble_eq_true rfl) (by decide) (fun σ78 h => ?_)
            refine r_aload_n (j := 2) C 82 dX2_find_81 rfl rfl ?_
            refine r_aload_n (j := 3) C 83 dX2_find_82 rfl rfl ?_
            refine r_aload_n (j := 4) C 84 dX2_find_83 rfl rfl ?_
            refine r_cVV (as := [.ref a, .ref 44]) (S := []) C r.px 87 (ct_X2_findTemperatures _ _ _ _ _ h) dX2_find_84 rfl cl4 (sta0 ht) wd_16 wd_531 rfl wd_529 wd_532 wd_93 yd_X2_findTemperatures ⟨Nat.le_of_ble_eq_true rfl, Nat.le_of_ble_eq_true rfl⟩ (Nat.le_of_ble_eq_true rfl) (by decide) (fun σ84 h => ?_)
            obtain ⟨v87, e87⟩ : ∃ y : Int32, y = i4 + 1 := ⟨_, rfl⟩
            have h := h v87 e87
            refine r_iinc (j := 5) C 90 [(4, .int v87), (3, .int 0), (5, .int r32), (0, .ref t), (1, .ref a), (2, .ref 44)] dX2_find_87 rfl rfl (by rw [e87]; rfl) (by decide) rfl ?_
            refine r_goto C 18 dX2_find_90 (by decide) ?_
            exact Ws_pick [3, 4, 5, 1, 0] rfl h
        · have h := h.2 c45
          refine r_iconst C 49 (v := 1) dX2_find_48 rfl (by decide) ?_
          refine r_goto C 53 dX2_find_49 (by decide) ?_
          refine r_istore_n C 54 [(3, .int 1), (5, .int r32), (0, .ref t), (1, .ref a), (2, .ref 44), (4, .int i4)] dX2_find_53 rfl (by decide) rfl ?_
          refine r_aload_n (j := 2) C 55 dX2_find_54 rfl rfl ?_
          refine r_iload (j := 5) C 57 dX2_find_55 rfl rfl ?_
          refine r_putI (k := 13) C cl4 60 dX2_find_57 rfl (sta0 ht) (by decide) wd_297 rfl rfl rfl rfl ?_
          refine r_nmS (fun σ57 e57 => ?_)
          have h := h σ57 e57
          refine r_iload_n (j := 0) C 61 dX2_find_60 rfl rfl ?_
          refine r_if_ne C 87 64 dX2_find_61 (by decide) rfl (fun c61 => ?_) (fun c61 => ?_)
          · have h := h.1 c61
            obtain ⟨v87, e87⟩ : ∃ y : Int32, y = i4 + 1 := ⟨_, rfl⟩
            have h := h v87 e87
            refine r_iinc (j := 5) C 90 [(4, .int v87), (3, .int 1), (5, .int r32), (0, .ref t), (1, .ref a), (2, .ref 44)] dX2_find_87 rfl rfl (by rw [e87]; rfl) (by decide) rfl ?_
            refine r_goto C 18 dX2_find_90 (by decide) ?_
            exact Ws_pick [3, 4, 5, 1, 0] rfl h
          · have h := h.2 c61
            refine r_aload_n (j := 2) C 65 dX2_find_64 rfl rfl ?_
            refine r_aload_n (j := 3) C 66 dX2_find_65 rfl rfl ?_
            refine r_aload_n (j := 4) C 67 dX2_find_66 rfl rfl ?_
            refine r_cVV (as := [.ref a, .ref 44]) (S := []) C r.px 70 (ct_X2_findTreeFlows _ _ _ _ _ h) dX2_find_67 rfl cl4 (sta0 ht) wd_9 wd_487 rfl wd_485 wd_488 wd_93 yd_X2_findTreeFlows ⟨Nat.le_of_ble_eq_true rfl, Nat.le_of_ble_eq_true rfl⟩ (Nat.le_of_ble_eq_true rfl) (by decide) (fun σ67 h => ?_)
            refine r_aload_n (j := 2) C 71 dX2_find_70 rfl rfl ?_
            refine r_aload_n (j := 3) C 72 dX2_find_71 rfl rfl ?_
            refine r_aload_n (j := 4) C 73 dX2_find_72 rfl rfl ?_
            refine r_cVV (as := [.ref a, .ref 44]) (S := []) C r.px 76 (ct_X2_findLoopFlows _ _ _ _ _ h) dX2_find_73 rfl cl4 (sta0 ht) wd_11 wd_500 rfl wd_498 wd_501 wd_93 yd_X2_findLoopFlows ⟨Nat.le_of_ble_eq_true rfl, Nat.le_of_ble_eq_true rfl⟩ (Nat.le_of_ble_eq_true rfl) (by decide) (fun σ73 h => ?_)
            refine r_aload_n (j := 2) C 77 dX2_find_76 rfl rfl ?_
            refine r_aload_n (j := 4) C 78 dX2_find_77 rfl rfl ?_
            refine r_cVV (as := [.ref 44]) (S := []) C r.px 81 (ct_X2_findWaterOrder _ _ _ _ h) dX2_find_78 rfl cl4 (sta0 ht) wd_13 wd_515 rfl wd_513 wd_516 wd_93 yd_X2_findWaterOrder ⟨Nat.le_of_ble_eq_true rfl, Nat.le_of_ble_eq_true rfl⟩ (Nat.le_of_ble_eq_true rfl) (by decide) (fun σ78 h => ?_)
            refine r_aload_n (j := 2) C 82 dX2_find_81 rfl rfl ?_
            refine r_aload_n (j := 3) C 83 dX2_find_82 rfl rfl ?_
            refine r_aload_n (j := 4) C 84 dX2_find_83 rfl rfl ?_
            refine r_cVV (as := [.ref a, .ref 44]) (S := []) C r.px 87 (ct_X2_findTemperatures _ _ _ _ _ h) dX2_find_84 rfl cl4 (sta0 ht) wd_16 wd_531 rfl wd_529 wd_532 wd_93 yd_X2_findTemperatures ⟨Nat.le_of_ble_eq_true rfl, Nat.le_of_ble_eq_true rfl⟩ (Nat.le_of_ble_eq_true rfl) (by decide) (fun σ84 h => ?_)
            obtain ⟨v87, e87⟩ : ∃ y : Int32, y = i4 + 1 := ⟨_, rfl⟩
            have h := h v87 e87
            refine r_iinc (j := 5) C 90 [(4, .int v87), (3, .int 1), (5, .int r32), (0, .ref t), (1, .ref a), (2, .ref 44)] dX2_find_87 rfl rfl (by rw [e87]; rfl) (by decide) rfl ?_
            refine r_goto C 18 dX2_find_90 (by decide) ?_
            exact Ws_pick [3, 4, 5, 1, 0] rfl h
theorem vc_X2_find {x : Ctx} {K : Mem → Prop} {X : String → Mem → Prop} (C : Cx x RX2 cX2_find 6) (r : RtV x 5 0 none K X) (t a : Nat) (σ : Mem) (h : sp_X2_find t a σ K X) : Ws x 0 0 [(0, .ref t), (1, .ref a), (2, .ref 44)] [] σ := by
  obtain ⟨ht, ha, w, g, c, hw, hN, hS, hK⟩ := h
  have hg := hw.2.1
  have hT := bfs_tre hg (by decide : 0 < 10)
  have hfar := netA_far ha
  have ht2 := staA_is ht
  obtain ⟨sp1, sp2, sp3⟩ := sup_bd hw
  have esup : σ.1 (a + 1) 0 = nI (nV (w 0)) := by rw [hN.1 0 (by decide)]; exact sp1
  refine sg_X2_find_0 C r t a ht ha σ ⟨by rcases ht2 with q | q <;> (rw [q]; decide +kernel), by decide, ?_⟩
  rw [esup]
  -- k rounds are over
  refine cnt 12 (fun k (τ : Mem) => Ch t (t + 12) σ τ ∧ ∃ D T, HistP w g c k D T ∧ (k = 0 → ∀ n, n < 10 → τ.1 (t + 6) n = nI (nV (w 0))) ∧ (1 ≤ k → ∃ (B : Nat → Nat) (z : Int) (W : List Nat), Mid w g c (D k) B (T k) z W t a τ ∧ τ.1 t 13 = nI k)) (fun k τ => Ws x 0 18 [(0, .ref t), (1, .ref a), (2, .ref 44), (3, .int 0), (4, .int (nI (k + 1)))] [] τ) ?_ ?_ 0 (fi σ (t + 6) 10 (nI (nV (w 0)))) (Nat.zero_le _) ⟨(Ch.rfl' σ).fi (by omega) (by omega), fun _ _ => 0, fun _ _ => 0, ⟨fun j j1 j2 => absurd j2 (by omega), fun j j1 j2 => absurd j2 (by omega)⟩, fun _ n hn => by rw [fi_i, if_pos ⟨rfl, hn⟩], fun q => absurd q (by decide)⟩
  · rintro τ ⟨hc, D, T, hH, -, hM⟩
    obtain ⟨B, z, W, hMid, h13⟩ := hM (by decide)
    refine sg_X2_find_18 C r t a _ _ ht ha τ ⟨fun _ => ?_, fun q => absurd (nI_lt (a := 12) (by decide) (by decide)) q⟩
    refine end_ok ht ha hMid (fun n hn => by rw [(hH.1 12 (by decide) (by decide)).1]; exact drNx_bd hw hn) h13 (fun υ S u1 u2 => hK υ 12 D T B S z (hc.trans u1) ⟨by decide, by decide, hH.1, fun j j1 j2 => hH.2 j j1 (by omega), .inl rfl⟩ u2)
  · rintro k τ hk ⟨hc, D, T, hH, h0, hM⟩ ih
    have hN' := hN.ch hc (by omega)
    have hS' := hS.ch hc (by omega)
    refine sg_X2_find_18 C r t a _ _ ht ha τ ⟨fun q => absurd q (nI_nlt (a := 12) (b := k + 1) (by omega) (by decide)), fun _ => ⟨fun q => absurd rfl q, fun _ => ?_⟩⟩
    have hTn : ∃ Tn : Nat → Nat, (∀ n, n < 10 → τ.1 (t + 6) n = nI (Tn n) ∧ Tn n ≤ 1200) ∧ (fun n => drW w (bfs g 0) (Tn n) n) = drNx w g T (k + 1) := by
      by_cases k0 : k = 0
      · refine ⟨fun _ => nV (w 0), fun n hn => ⟨h0 k0 n hn, sp3⟩, ?_⟩
        unfold drNx
        funext n
        rw [if_pos (by omega)]
      · obtain ⟨B, z, W, hMid, -⟩ := hM (by omega)
        refine ⟨T k, fun n hn => ⟨(hMid.2.2.1 n hn).1, (hMid.2.2.1 n hn).2.1.2⟩, ?_⟩
        unfold drNx
        funext n
        rw [if_neg (by omega), Nat.add_sub_cancel]
    obtain ⟨Tn, t1, t2⟩ := hTn
    refine ⟨ht, ha, w, g, c, Tn, hw, hN', hS', t1, fun υ u1 u2 u3 => ?_⟩
    have cu : Ch t (t + 12) τ υ := Ch.of1 (fun b j q => u1 b j (fun y => by omega)) (fun b j _ => by rw [u2]) (by rw [u2])
    have edr : ∀ n, drW w (bfs g 0) (Tn n) n = drNx w g T (k + 1) n := fun n => congrFun t2 n
    -- another round
    have goOn : (1 ≤ k → ∃ n, n < 10 ∧ drNx w g T (k + 1) n ≠ D k n) → ∀ (i3 : Int32) (σ57 : Mem), σ57 = wi υ t 13 (nI (k + 1)) → sp_X2_findTreeFlows t a σ57 (fun σ67 => sp_X2_findLoopFlows t a σ67 (fun σ73 => sp_X2_findWaterOrder t σ73 (fun σ78 => sp_X2_findTemperatures t a σ78 (fun σ84 => ∀ v87 : Int32, v87 = nI (k + 1) + 1 → Ws x 0 18 [(0, .ref t), (1, .ref a), (2, .ref 44), (3, .int 0), (4, .int v87)] [] σ84) X) X) X) X := fun hne i3 σ57 e57 => by
      have c57 : Ch t (t + 12) τ σ57 := by rw [e57]; exact cu.wi (Nat.le_refl _) (by omega)
      refine round_ok (dr := drNx w g T (k + 1)) ht ha hw (hN'.ch c57 (by omega)) (hS'.ch c57 (by omega)) (fun n hn => ⟨?_, (drNx_bd hw hn).1⟩) (fun ρ B T1 z W r1 r2 r3 v87 e87 => ?_)
      · rw [e57, wi_i, if_neg (fun q => by omega), u3 n hn, edr]
      · rw [e87, nI_1]
        refine ih ρ ⟨(hc.trans c57).trans r1, _, _, hH.next (dr := drNx w g T (k + 1)) (T1 := T1) rfl ?_ hne, fun q => absurd q (by omega), fun _ => ⟨B, z, W, ?_, ?_⟩⟩
        · obtain ⟨cb, -, m2, -⟩ := r3
          obtain ⟨_, _, hSb, hFb, w1, w2, w3, w4, w5⟩ := cb
          exact ⟨B, z, _, _, hFb, hFb.ok hw hT hSb.1.1 w1 w2 w3 w5, fun n hn => ⟨(m2 n hn).2.2.1, (m2 n hn).2.1⟩⟩
        · show Mid w g c (if k + 1 = k + 1 then drNx w g T (k + 1) else D (k + 1)) B (if k + 1 = k + 1 then T1 else T (k + 1)) z W t a ρ
          rw [if_pos rfl, if_pos rfl]; exact r3
        · rw [r2, e57, wi_i, if_pos ⟨rfl, rfl⟩]
    have same : (List.range 10).all (fun n => decide (nI (drW w (bfs g 0) (Tn n) n) = τ.1 (t + 1) n)) = true ↔ ∀ n, n < 10 → nI (drNx w g T (k + 1) n) = τ.1 (t + 1) n := by
      rw [List.all_eq_true]
      constructor
      · intro q n hn
        rw [← edr]
        exact of_decide_eq_true (q n (List.mem_range.mpr hn))
      · intro q n hn
        rw [edr]
        exact decide_eq_true (q n (List.mem_range.mp hn))
    refine ⟨fun q σ57 e57 => ⟨fun y => absurd rfl y, fun _ => goOn (fun k1 => ?_) 0 σ57 e57⟩, fun q => ⟨fun q2 σ57 e57 => ⟨fun y => absurd rfl y, fun _ => goOn (fun k1 => ?_) 0 σ57 e57⟩, fun q2 σ57 e57 => ⟨fun _ v87 e87 => ?_, fun y => absurd y (by decide)⟩⟩⟩
    · have hno : ¬ ∀ n, n < 10 → nI (drNx w g T (k + 1) n) = τ.1 (t + 1) n := fun y => by
        rw [if_pos (same.mpr y)] at q
        exact absurd q (by decide)
      obtain ⟨B, z, W, hMid, -⟩ := hM k1
      apply Classical.byContradiction
      intro y
      apply hno
      intro n hn
      rw [hMid.2.1 n hn]
      apply Classical.byContradiction
      intro y2
      exact y ⟨n, hn, fun y3 => y2 (by rw [y3])⟩
    · have := n_le (b := 1) (by omega) (by decide) q2
      omega
    · have k1 : 1 ≤ k := by
        apply Classical.byContradiction
        intro y
        apply q2
        rw [show k = 0 by omega]; decide
      have hyes : ∀ n, n < 10 → nI (drNx w g T (k + 1) n) = τ.1 (t + 1) n := same.mp (Classical.byContradiction fun y => q (by rw [if_neg y]))
      obtain ⟨B, z, W, hMid, -⟩ := hM k1
      have hDk := (hH.1 k k1 (Nat.le_refl k)).1
      have hD : drNx w g T (k + 1) = D k := by
        funext n
        by_cases hn : n < 10
        · have y := hyes n hn
          rw [hMid.2.1 n hn] at y
          have b1 := (drNx_bd (g := g) hw (T := T) (j := k + 1) hn).1
          have b2 : D k n ≤ 999 := by rw [hDk]; exact (drNx_bd hw hn).1
          exact (nI_eq (by omega) (by omega)).mp y
        · have hno : n ∉ nds (bfs g 0) := fun y => hn (hT.lt y)
          rw [hDk, drNx_out hno, drNx_out hno]
      rw [e87, nI_1]
      refine sg_X2_find_18 C r t a _ _ ht ha σ57 ?_
      have c57 : Ch t (t + 12) τ σ57 := by rw [e57]; exact cu.wi (Nat.le_refl _) (by omega)
      have i57 : ∀ b j, ¬ (b = t ∧ j = 13) → (b ≠ t + 1 ∨ j < 10 ∨ True) → σ57.1 b j = υ.1 b j := fun b j hb _ => by rw [e57, wi_i, if_neg hb]
      have l57 : σ57.2 = τ.2 := by rw [e57]; exact u2
      have o57 : ∀ b j, b ≠ t → b ≠ t + 1 → σ57.1 b j = τ.1 b j := fun b j h1 h2 => by rw [i57 b j (fun y => h1 y.1) (.inl h2), u1 b j (fun y => h2 y.1)]
      have e2 : (fun p => σ57.1 (t + 2) p) = (fun p => τ.1 (t + 2) p) := funext fun p => o57 _ _ (by omega) (by omega)
      have hMid' : Mid w g c (D k) B (T k) z W t a σ57 := by
        obtain ⟨cb, m1, m2, m3, m4, m5, m6⟩ := hMid
        obtain ⟨a1, a2, a3, a4, a5, a6, a7, a8, a9⟩ := cb
        refine ⟨⟨a1, a2.ch c57 (by omega), a3.ch c57 (by omega), by rw [e2]; exact a4, a5, a6, a7, fun i v hi => by rw [o57 _ _ (by omega) (by omega)]; exact a8 i v hi, a9⟩, fun n hn => ?_, fun n hn => ?_, fun p hp => ?_, fun j hj => by rw [o57 _ _ (by omega) (by omega)]; exact m4 j hj, fun n hn => by rw [o57 _ _ (by omega) (by omega)]; exact m5 n hn, by rw [l57]; exact m6⟩
        · rw [i57 _ _ (fun y => by omega) (.inr (.inr trivial)), u3 n hn, edr, hD]
        · rw [e2, l57, o57 _ _ (by omega) (by omega)]; exact m2 n hn
        · rw [e2, l57]; exact m3 p hp
      have h13 : σ57.1 t 13 = nI (k + 1) := by rw [e57, wi_i, if_pos ⟨rfl, rfl⟩]
      -- the same, once more, as the last round
      have hfin : sp_X2_findReturns t a σ57 (fun σ96 => sp_X2_findHeads t a σ96 (fun σ102 => K σ102) X) X := by
        refine end_ok (R := k + 1) ht ha hMid' (fun n hn => by rw [hDk]; exact drNx_bd hw hn) h13 (fun ρ S r1 r2 => ?_)
        have nx : ∀ j, j ≤ k + 1 → drNx w g (fun j => if j = k + 1 then T k else T j) j = drNx w g T j := fun j hj => by
          unfold drNx
          funext n
          by_cases y : j = 1
          · rw [if_pos y, if_pos y]
          · rw [if_neg y, if_neg y]
            show drW w (bfs g 0) ((if j - 1 = k + 1 then T k else T (j - 1)) n) n = _
            rw [if_neg (by omega)]
        refine hK ρ (k + 1) (fun j => if j = k + 1 then D k else D j) (fun j => if j = k + 1 then T k else T j) B S z ((hc.trans c57).trans r1) ⟨by omega, by omega, fun j j1 j2 => ?_, fun j j1 j2 => ?_, .inr ⟨by omega, fun n hn => ?_⟩⟩ ?_
        · rw [nx j j2]
          show (if j = k + 1 then D k else D j) = _ ∧ RdS w g c (if j = k + 1 then D k else D j) (if j = k + 1 then T k else T j)
          by_cases y : j = k + 1
          · rw [if_pos y, if_pos y, y]
            exact ⟨hD.symm, (hH.1 k k1 (Nat.le_refl k)).2⟩
          · rw [if_neg y, if_neg y]; exact hH.1 j j1 (by omega)
        · show ∃ n, n < 10 ∧ (if j = k + 1 then D k else D j) n ≠ (if j - 1 = k + 1 then D k else D (j - 1)) n
          rw [if_neg (by omega), if_neg (by omega)]; exact hH.2 j j1 (by omega)
        · show (if k + 1 = k + 1 then D k else D (k + 1)) n = (if k + 1 - 1 = k + 1 then D k else D (k + 1 - 1)) n
          rw [if_pos rfl, if_neg (by omega), Nat.add_sub_cancel]
        · show StF w g c (k + 1) (if k + 1 = k + 1 then D k else D (k + 1)) B (if k + 1 = k + 1 then T k else T (k + 1)) S z t ρ
          rw [if_pos rfl, if_pos rfl]; exact r2
      exact ⟨fun _ => hfin, fun _ => ⟨fun _ => hfin, fun y => absurd y (by decide)⟩⟩
theorem ct_X2_find (t : Nat) (a : Nat) (σ : Mem) (K : Mem → Prop) (X : String → Mem → Prop) (h : sp_X2_find t a σ K X) : CtV yX2_find cX2_find 6 none 5 0 [.ref t, .ref a, .ref 44] σ K X :=
  ctV_of (by decide +kernel) (Nat.le_of_ble_eq_true rfl) (fun x C r => vc_X2_find C r t a σ h)
/-! HeatNetwork.settle()V: level 7, exceptions 0 -/
def sp_X4_settle  (σ : Mem) (K : Mem → Prop) (X : String → Mem → Prop) : Prop := ((¬ (σ.1 0 11) = 0 → K σ) ∧ ((σ.1 0 11) = 0 → sp_X1_follow 1 σ (fun σ15 => sp_X2_find 53 1 σ15 (fun σ30 => ∀ σ35 : Mem, σ35 = wi σ30 0 11 1 → K σ35) X) X))
set_option maxRecDepth 4000 in
theorem sg_X4_settle_0 {x : Ctx} {K : Mem → Prop} {X : String → Mem → Prop} (C : Cx x RX4 cX4_settle 1) (r : RtV x 7 0 none K X)   (σ : Mem) (h : (¬ (σ.1 0 11) = 0 → K σ) ∧ ((σ.1 0 11) = 0 → sp_X1_follow 1 σ (fun σ15 => sp_X2_find 53 1 σ15 (fun σ30 => ∀ σ35 : Mem, σ35 = wi σ30 0 11 1 → K σ35) X) X)) : Ws x 0 0 [(0, .ref 0)] [] σ := by
  refine r_aload_n (j := 0) C 1 dX4_settle_0 rfl rfl ?_
  refine r_get (k := 11) C cl6 4 dX4_settle_1 rfl kd_0 (by decide) wd_369 (.int (σ.1 0 11)) (fun _ => rfl) ?_
  refine r_if_ne C 38 7 dX4_settle_4 (by decide) rfl (fun c4 => ?_) (fun c4 => ?_)
  · have h := h.1 c4
    exact r_vret (S := []) C r dX4_settle_38 (by decide) h
  · have h := h.2 c4
    refine r_aload_n (j := 0) C 8 dX4_settle_7 rfl rfl ?_
    refine r_get (k := 4) C cl6 11 dX4_settle_8 rfl kd_0 (by decide) wd_362 (.ref 44) (fun _ => rfl) ?_
    refine r_aload_n (j := 0) C 12 dX4_settle_11 rfl rfl ?_
    refine r_get (k := 0) C cl6 15 dX4_settle_12 rfl kd_0 (by decide) wd_358 (.ref 1) (fun _ => rfl) ?_
    refine r_cVV (as := [.ref 1]) (S := []) C r.px 18 (ct_X1_follow _ _ _ _ h) dX4_settle_15 rfl cl3 kd_44 wd_415 wd_414 rfl wd_413 wd_416 wd_92 yd_X1_follow ⟨Nat.le_of_ble_eq_true rfl, Nat.le_of_ble_eq_true rfl⟩ (Nat.le_of_ble_eq_true rfl) (by decide) (fun σ15 h => ?_)
    refine r_aload_n (j := 0) C 19 dX4_settle_18 rfl rfl ?_
    refine r_get (k := 5) C cl6 22 dX4_settle_19 rfl kd_0 (by decide) wd_363 (.ref 53) (fun _ => rfl) ?_
    refine r_aload_n (j := 0) C 23 dX4_settle_22 rfl rfl ?_
    refine r_get (k := 0) C cl6 26 dX4_settle_23 rfl kd_0 (by decide) wd_358 (.ref 1) (fun _ => rfl) ?_
    refine r_aload_n (j := 0) C 27 dX4_settle_26 rfl rfl ?_
    refine r_get (k := 4) C cl6 30 dX4_settle_27 rfl kd_0 (by decide) wd_362 (.ref 44) (fun _ => rfl) ?_
    refine r_cVV (as := [.ref 1, .ref 44]) (S := []) C r.px 33 (ct_X2_find _ _ _ _ _ h) dX4_settle_30 rfl cl4 kd_53 wd_459 wd_458 rfl wd_457 wd_460 wd_93 yd_X2_find ⟨Nat.le_of_ble_eq_true rfl, Nat.le_of_ble_eq_true rfl⟩ (Nat.le_of_ble_eq_true rfl) (by decide) (fun σ30 h => ?_)
    refine r_aload_n (j := 0) C 34 dX4_settle_33 rfl rfl ?_
    refine r_iconst C 35 (v := 1) dX4_settle_34 rfl (by decide) ?_
    refine r_putI (k := 11) C cl6 38 dX4_settle_35 rfl kd_0 (by decide) wd_369 rfl rfl rfl rfl ?_
    refine r_nmS (fun σ35 e35 => ?_)
    have h := h σ35 e35
    exact r_vret (S := []) C r dX4_settle_38 (by decide) h
theorem ct_X4_settle  (σ : Mem) (K : Mem → Prop) (X : String → Mem → Prop) (h : sp_X4_settle  σ K X) : CtV yX4_settle cX4_settle 1 none 7 0 [.ref 0] σ K X := by
  have h := h
  exact ctV_of (by decide +kernel) (Nat.le_of_ble_eq_true rfl) (fun x C r => sg_X4_settle_0 C r   σ h)
/-! HeatNetwork.tryReturn(II)V: level 6, exceptions 0 -/
def sp_X4_tryReturn (p0 : Int32) (p1 : Int32) (σ : Mem) (K : Mem → Prop) (X : String → Mem → Prop) : Prop := (sp_X0_takeOver 29 1 σ (fun σ8 => (vp_in p0 10) ∧ (∀ σ20 : Mem, σ20 = wi σ8 36 p0.toNatClampNeg p1 → sp_X2_find 66 29 σ20 (fun σ33 => K σ33) X)) X)
set_option maxRecDepth 4000 in
theorem sg_X4_tryReturn_0 {x : Ctx} {K : Mem → Prop} {X : String → Mem → Prop} (C : Cx x RX4 cX4_tryReturn 3) (r : RtV x 6 0 none K X) (p0 : Int32) (p1 : Int32)  (σ : Mem) (h : sp_X0_takeOver 29 1 σ (fun σ8 => (vp_in p0 10) ∧ (∀ σ20 : Mem, σ20 = wi σ8 36 p0.toNatClampNeg p1 → sp_X2_find 66 29 σ20 (fun σ33 => K σ33) X)) X) : Ws x 0 0 [(0, .ref 0), (1, .int p0), (2, .int p1)] [] σ := by
  refine r_aload_n (j := 0) C 1 dX4_tryReturn_0 rfl rfl ?_
  refine r_get (k := 2) C cl6 4 dX4_tryReturn_1 rfl kd_0 (by decide) wd_360 (.ref 29) (fun _ => rfl) ?_
  refine r_aload_n (j := 0) C 5 dX4_tryReturn_4 rfl rfl ?_
  refine r_get (k := 0) C cl6 8 dX4_tryReturn_5 rfl kd_0 (by decide) wd_358 (.ref 1) (fun _ => rfl) ?_
  refine r_cVV (as := [.ref 1]) (S := []) C r.px 11 (ct_X0_takeOver _ _ _ _ _ h) dX4_tryReturn_8 rfl cl2 kd_29 wd_589 wd_588 rfl wd_587 wd_590 wd_91 yd_X0_takeOver ⟨Nat.le_of_ble_eq_true rfl, Nat.le_of_ble_eq_true rfl⟩ (Nat.le_of_ble_eq_true rfl) (by decide) (fun σ8 h => ?_)
  refine r_aload_n (j := 0) C 12 dX4_tryReturn_11 rfl rfl ?_
  refine r_get (k := 2) C cl6 15 dX4_tryReturn_12 rfl kd_0 (by decide) wd_360 (.ref 29) (fun _ => rfl) ?_
  refine r_get (k := 7) C cl2 18 dX4_tryReturn_15 rfl kd_29 (by decide) wd_156 (.ref 36) (fun _ => rfl) ?_
  refine r_iload_n (j := 1) C 19 dX4_tryReturn_18 rfl rfl ?_
  refine r_iload_n (j := 2) C 20 dX4_tryReturn_19 rfl rfl ?_
  obtain ⟨o20, h⟩ := h
  refine r_iast C 21 dX4_tryReturn_20 rfl kd_36 o20 ?_
  refine r_nmS (fun σ20 e20 => ?_)
  have h := h σ20 e20
  refine r_aload_n (j := 0) C 22 dX4_tryReturn_21 rfl rfl ?_
  refine r_get (k := 6) C cl6 25 dX4_tryReturn_22 rfl kd_0 (by decide) wd_364 (.ref 66) (fun _ => rfl) ?_
  refine r_aload_n (j := 0) C 26 dX4_tryReturn_25 rfl rfl ?_
  refine r_get (k := 2) C cl6 29 dX4_tryReturn_26 rfl kd_0 (by decide) wd_360 (.ref 29) (fun _ => rfl) ?_
  refine r_aload_n (j := 0) C 30 dX4_tryReturn_29 rfl rfl ?_
  refine r_get (k := 4) C cl6 33 dX4_tryReturn_30 rfl kd_0 (by decide) wd_362 (.ref 44) (fun _ => rfl) ?_
  refine r_cVV (as := [.ref 29, .ref 44]) (S := []) C r.px 36 (ct_X2_find _ _ _ _ _ h) dX4_tryReturn_33 rfl cl4 kd_66 wd_459 wd_458 rfl wd_457 wd_460 wd_93 yd_X2_find ⟨Nat.le_of_ble_eq_true rfl, Nat.le_of_ble_eq_true rfl⟩ (Nat.le_of_ble_eq_true rfl) (by decide) (fun σ33 h => ?_)
  exact r_vret (S := []) C r dX4_tryReturn_36 (by decide) h
theorem ct_X4_tryReturn (p0 : Int32) (p1 : Int32) (σ : Mem) (K : Mem → Prop) (X : String → Mem → Prop) (h : sp_X4_tryReturn p0 p1 σ K X) : CtV yX4_tryReturn cX4_tryReturn 3 none 6 0 [.ref 0, .int p0, .int p1] σ K X := by
  have h := h
  exact ctV_of (by decide +kernel) (Nat.le_of_ble_eq_true rfl) (fun x C r => sg_X4_tryReturn_0 C r p0 p1  σ h)
/-! HeatNetwork.returnDegrees()F: level 8, exceptions 0 -/
def sp_X4_returnDegrees  (σ : Mem) (K : UInt32 → Mem → Prop) (X : String → Mem → Prop) : Prop := (sp_X4_settle  σ (fun σ1 => (vf_n32 (FP.fdiv (FP.i2f (σ1.1 60 0)) 1092616192)) ∧ (K (FP.fdiv (FP.i2f (σ1.1 60 0)) 1092616192) σ1)) X)
set_option maxRecDepth 4000 in
theorem sg_X4_returnDegrees_0 {x : Ctx} {K : UInt32 → Mem → Prop} {X : String → Mem → Prop} (C : Cx x RX4 cX4_returnDegrees 1) (r : RtF x 8 0 (some .float) K X)   (σ : Mem) (h : sp_X4_settle  σ (fun σ1 => (vf_n32 (FP.fdiv (FP.i2f (σ1.1 60 0)) 1092616192)) ∧ (K (FP.fdiv (FP.i2f (σ1.1 60 0)) 1092616192) σ1)) X) : Ws x 0 0 [(0, .ref 0)] [] σ := by
  refine r_aload_n (j := 0) C 1 dX4_returnDegrees_0 rfl rfl ?_
  refine r_cVV (as := []) (S := []) C r.px 4 (ct_X4_settle  _ _ _ h) dX4_returnDegrees_1 rfl cl6 kd_0 wd_0 wd_411 rfl wd_409 wd_412 wd_90 yd_X4_settle ⟨Nat.le_of_ble_eq_true rfl, Nat.le_of_ble_eq_true rfl⟩ (Nat.le_of_ble_eq_true rfl) (by decide) (fun σ1 h => ?_)
  refine r_aload_n (j := 0) C 5 dX4_returnDegrees_4 rfl rfl ?_
  refine r_get (k := 5) C cl6 8 dX4_returnDegrees_5 rfl kd_0 (by decide) wd_363 (.ref 53) (fun _ => rfl) ?_
  refine r_get (k := 6) C cl4 11 dX4_returnDegrees_8 rfl kd_53 (by decide) wd_286 (.ref 60) (fun _ => rfl) ?_
  refine r_iconst C 12 (v := 0) dX4_returnDegrees_11 rfl (by decide) ?_
  refine r_iald C 13 dX4_returnDegrees_12 rfl kd_60 (n_inR (n := 0) (by decide) (by decide)) ?_
  refine r_i2f C 14 dX4_returnDegrees_13 rfl ?_
  refine r_ldcfw C 17 (v := 1092616192) dX4_returnDegrees_14 rfl wd_582 ?_
  obtain ⟨o17, h⟩ := h
  refine r_fdiv C 18 dX4_returnDegrees_17 rfl o17 ?_
  exact r_fret (S := []) C r dX4_returnDegrees_18 (by decide) h
theorem ct_X4_returnDegrees  (σ : Mem) (K : UInt32 → Mem → Prop) (X : String → Mem → Prop) (h : sp_X4_returnDegrees  σ K X) : CtF yX4_returnDegrees cX4_returnDegrees 1 (some .float) 8 0 [.ref 0] σ K X := by
  have h := h
  exact ctF_of (by decide +kernel) (Nat.le_of_ble_eq_true rfl) (fun x C r => sg_X4_returnDegrees_0 C r   σ h)
/-! HeatNetwork.rounds()I: level 8, exceptions 0 -/
def sp_X4_rounds  (σ : Mem) (K : Int32 → Mem → Prop) (X : String → Mem → Prop) : Prop := (sp_X4_settle  σ (fun σ1 => K (σ1.1 53 13) σ1) X)
set_option maxRecDepth 4000 in
theorem sg_X4_rounds_0 {x : Ctx} {K : Int32 → Mem → Prop} {X : String → Mem → Prop} (C : Cx x RX4 cX4_rounds 1) (r : RtI x 8 0 (some .int) K X)   (σ : Mem) (h : sp_X4_settle  σ (fun σ1 => K (σ1.1 53 13) σ1) X) : Ws x 0 0 [(0, .ref 0)] [] σ := by
  refine r_aload_n (j := 0) C 1 dX4_rounds_0 rfl rfl ?_
  refine r_cVV (as := []) (S := []) C r.px 4 (ct_X4_settle  _ _ _ h) dX4_rounds_1 rfl cl6 kd_0 wd_0 wd_411 rfl wd_409 wd_412 wd_90 yd_X4_settle ⟨Nat.le_of_ble_eq_true rfl, Nat.le_of_ble_eq_true rfl⟩ (Nat.le_of_ble_eq_true rfl) (by decide) (fun σ1 h => ?_)
  refine r_aload_n (j := 0) C 5 dX4_rounds_4 rfl rfl ?_
  refine r_get (k := 5) C cl6 8 dX4_rounds_5 rfl kd_0 (by decide) wd_363 (.ref 53) (fun _ => rfl) ?_
  refine r_get (k := 13) C cl4 11 dX4_rounds_8 rfl kd_53 (by decide) wd_298 (.int (σ1.1 53 13)) (fun _ => rfl) ?_
  exact r_iret (S := []) C r dX4_rounds_11 (by decide) rfl h
theorem ct_X4_rounds  (σ : Mem) (K : Int32 → Mem → Prop) (X : String → Mem → Prop) (h : sp_X4_rounds  σ K X) : CtI yX4_rounds cX4_rounds 1 (some .int) 8 0 [.ref 0] σ K X := by
  have h := h
  exact ctI_of (by decide +kernel) (Nat.le_of_ble_eq_true rfl) (fun x C r => sg_X4_rounds_0 C r   σ h)
/-! HeatNetwork.imbalance()J: level 8, exceptions 1 -/
def sp_X4_imbalance  (σ : Mem) (K : Int64 → Mem → Prop) (X : String → Mem → Prop) : Prop := (sp_X4_settle  σ (fun σ1 => (¬ (σ1.1 44 8) = 0 → K (σ1.2.1 53 12) σ1) ∧ ((σ1.1 44 8) = 0 → X "java/util/NoSuchElementException" σ1)) X)
set_option maxRecDepth 4000 in
theorem sg_X4_imbalance_0 {x : Ctx} {K : Int64 → Mem → Prop} {X : String → Mem → Prop} (C : Cx x RX4 cX4_imbalance 1) (r : RtL x 8 1 (some .long) K X)   (σ : Mem) (h : sp_X4_settle  σ (fun σ1 => (¬ (σ1.1 44 8) = 0 → K (σ1.2.1 53 12) σ1) ∧ ((σ1.1 44 8) = 0 → X "java/util/NoSuchElementException" σ1)) X) : Ws x 0 0 [(0, .ref 0)] [] σ := by
  refine r_aload_n (j := 0) C 1 dX4_imbalance_0 rfl rfl ?_
  refine r_cVV (as := []) (S := []) C r.px 4 (ct_X4_settle  _ _ _ h) dX4_imbalance_1 rfl cl6 kd_0 wd_0 wd_411 rfl wd_409 wd_412 wd_90 yd_X4_settle ⟨Nat.le_of_ble_eq_true rfl, Nat.le_of_ble_eq_true rfl⟩ (Nat.le_of_ble_eq_true rfl) (by decide) (fun σ1 h => ?_)
  refine r_aload_n (j := 0) C 5 dX4_imbalance_4 rfl rfl ?_
  refine r_get (k := 4) C cl6 8 dX4_imbalance_5 rfl kd_0 (by decide) wd_362 (.ref 44) (fun _ => rfl) ?_
  refine r_get (k := 8) C cl3 11 dX4_imbalance_8 rfl kd_44 (by decide) wd_245 (.int (σ1.1 44 8)) (fun _ => rfl) ?_
  refine r_if_ne C 25 14 dX4_imbalance_11 (by decide) rfl (fun c11 => ?_) (fun c11 => ?_)
  · have h := h.1 c11
    refine r_aload_n (j := 0) C 26 dX4_imbalance_25 rfl rfl ?_
    refine r_get (k := 5) C cl6 29 dX4_imbalance_26 rfl kd_0 (by decide) wd_363 (.ref 53) (fun _ => rfl) ?_
    refine r_get (k := 12) C cl4 32 dX4_imbalance_29 rfl kd_53 (by decide) wd_296 (.long (σ1.2.1 53 12)) (fun _ => rfl) ?_
    exact r_lret (S := []) C r dX4_imbalance_32 (by decide) h
  · have h := h.2 c11
    exact r_throwNW (own := "") (text := "the part of the plant has no loop") C r.px dX4_imbalance_14 dX4_imbalance_17 dX4_imbalance_18 dX4_imbalance_21 dX4_imbalance_24 (by decide) (Nat.le_of_ble_eq_true rfl) (Nat.le_of_ble_eq_true rfl) (by decide) h
theorem ct_X4_imbalance  (σ : Mem) (K : Int64 → Mem → Prop) (X : String → Mem → Prop) (h : sp_X4_imbalance  σ K X) : CtL yX4_imbalance cX4_imbalance 1 (some .long) 8 1 [.ref 0] σ K X := by
  have h := h
  exact ctL_of (by decide +kernel) (Nat.le_of_ble_eq_true rfl) (fun x C r => sg_X4_imbalance_0 C r   σ h)
/-! HeatNetwork.loop(I)I: level 8, exceptions 1 -/
def sp_X4_loop (p0 : Int32) (σ : Mem) (K : Int32 → Mem → Prop) (X : String → Mem → Prop) : Prop := (sp_X4_settle  σ (fun σ1 => (p0 < 0 → X "java/util/NoSuchElementException" σ1) ∧ (¬ p0 < 0 → (p0 < (σ1.1 44 8) → (vp_in p0 10) ∧ (K (σ1.1 50 p0.toNatClampNeg) σ1)) ∧ (¬ p0 < (σ1.1 44 8) → X "java/util/NoSuchElementException" σ1))) X)
set_option maxRecDepth 4000 in
theorem sg_X4_loop_0 {x : Ctx} {K : Int32 → Mem → Prop} {X : String → Mem → Prop} (C : Cx x RX4 cX4_loop 2) (r : RtI x 8 1 (some .int) K X) (p0 : Int32)  (σ : Mem) (h : sp_X4_settle  σ (fun σ1 => (p0 < 0 → X "java/util/NoSuchElementException" σ1) ∧ (¬ p0 < 0 → (p0 < (σ1.1 44 8) → (vp_in p0 10) ∧ (K (σ1.1 50 p0.toNatClampNeg) σ1)) ∧ (¬ p0 < (σ1.1 44 8) → X "java/util/NoSuchElementException" σ1))) X) : Ws x 0 0 [(0, .ref 0), (1, .int p0)] [] σ := by
  refine r_aload_n (j := 0) C 1 dX4_loop_0 rfl rfl ?_
  refine r_cVV (as := []) (S := []) C r.px 4 (ct_X4_settle  _ _ _ h) dX4_loop_1 rfl cl6 kd_0 wd_0 wd_411 rfl wd_409 wd_412 wd_90 yd_X4_settle ⟨Nat.le_of_ble_eq_true rfl, Nat.le_of_ble_eq_true rfl⟩ (Nat.le_of_ble_eq_true rfl) (by decide) (fun σ1 h => ?_)
  refine r_iload_n (j := 1) C 5 dX4_loop_4 rfl rfl ?_
  refine r_if_lt C 19 8 dX4_loop_5 (by decide) rfl (fun c5 => ?_) (fun c5 => ?_)
  · have h := h.1 c5
    exact r_throwNW (own := "") (text := "the loop has no such node") C r.px dX4_loop_19 dX4_loop_22 dX4_loop_23 dX4_loop_26 dX4_loop_29 (by decide) (Nat.le_of_ble_eq_true rfl) (Nat.le_of_ble_eq_true rfl) (by decide) h
  · have h := h.2 c5
    refine r_iload_n (j := 1) C 9 dX4_loop_8 rfl rfl ?_
    refine r_aload_n (j := 0) C 10 dX4_loop_9 rfl rfl ?_
    refine r_get (k := 4) C cl6 13 dX4_loop_10 rfl kd_0 (by decide) wd_362 (.ref 44) (fun _ => rfl) ?_
    refine r_get (k := 8) C cl3 16 dX4_loop_13 rfl kd_44 (by decide) wd_245 (.int (σ1.1 44 8)) (fun _ => rfl) ?_
    refine r_icmp_lt C 30 19 dX4_loop_16 (by decide) rfl (fun c16 => ?_) (fun c16 => ?_)
    · have h := h.1 c16
      refine r_aload_n (j := 0) C 31 dX4_loop_30 rfl rfl ?_
      refine r_get (k := 4) C cl6 34 dX4_loop_31 rfl kd_0 (by decide) wd_362 (.ref 44) (fun _ => rfl) ?_
      refine r_get (k := 6) C cl3 37 dX4_loop_34 rfl kd_44 (by decide) wd_240 (.ref 50) (fun _ => rfl) ?_
      refine r_iload_n (j := 1) C 38 dX4_loop_37 rfl rfl ?_
      obtain ⟨o38, h⟩ := h
      refine r_iald C 39 dX4_loop_38 rfl kd_50 o38 ?_
      exact r_iret (S := []) C r dX4_loop_39 (by decide) rfl h
    · have h := h.2 c16
      exact r_throwNW (own := "") (text := "the loop has no such node") C r.px dX4_loop_19 dX4_loop_22 dX4_loop_23 dX4_loop_26 dX4_loop_29 (by decide) (Nat.le_of_ble_eq_true rfl) (Nat.le_of_ble_eq_true rfl) (by decide) h
theorem ct_X4_loop (p0 : Int32) (σ : Mem) (K : Int32 → Mem → Prop) (X : String → Mem → Prop) (h : sp_X4_loop p0 σ K X) : CtI yX4_loop cX4_loop 2 (some .int) 8 1 [.ref 0, .int p0] σ K X := by
  have h := h
  exact ctI_of (by decide +kernel) (Nat.le_of_ble_eq_true rfl) (fun x C r => sg_X4_loop_0 C r p0  σ h)
/-! HeatNetwork.count(I)I: level 9, exceptions 1 -/
def sp_X4_count (p0 : Int32) (σ : Mem) (K : Int32 → Mem → Prop) (X : String → Mem → Prop) : Prop := (sp_X4_needRange p0 0 5 σ (fun σ3 => (p0 = 0 → K (σ3.1 1 1) σ3) ∧ (p0 = 1 → sp_X0_stationCount 1 σ3 (fun r52 σ52 => K r52 σ52) X) ∧ (p0 = 2 → sp_X4_settle  σ3 (fun σ57 => K (σ57.1 44 2) σ57) X) ∧ (p0 = 3 → sp_X4_settle  σ3 (fun σ69 => K (σ69.1 44 8) σ69) X) ∧ (p0 = 4 → K (σ3.1 0 9) σ3) ∧ (¬ p0 = 0 → ¬ p0 = 1 → ¬ p0 = 2 → ¬ p0 = 3 → ¬ p0 = 4 → K (σ3.1 79 1) σ3)) X)
set_option maxRecDepth 4000 in
theorem sg_X4_count_0 {x : Ctx} {K : Int32 → Mem → Prop} {X : String → Mem → Prop} (C : Cx x RX4 cX4_count 2) (r : RtI x 9 1 (some .int) K X) (p0 : Int32)  (σ : Mem) (h : sp_X4_needRange p0 0 5 σ (fun σ3 => (p0 = 0 → K (σ3.1 1 1) σ3) ∧ (p0 = 1 → sp_X0_stationCount 1 σ3 (fun r52 σ52 => K r52 σ52) X) ∧ (p0 = 2 → sp_X4_settle  σ3 (fun σ57 => K (σ57.1 44 2) σ57) X) ∧ (p0 = 3 → sp_X4_settle  σ3 (fun σ69 => K (σ69.1 44 8) σ69) X) ∧ (p0 = 4 → K (σ3.1 0 9) σ3) ∧ (¬ p0 = 0 → ¬ p0 = 1 → ¬ p0 = 2 → ¬ p0 = 3 → ¬ p0 = 4 → K (σ3.1 79 1) σ3)) X) : Ws x 0 0 [(0, .ref 0), (1, .int p0)] [] σ := by
  refine r_iload_n (j := 1) C 1 dX4_count_0 rfl rfl ?_
  refine r_iconst C 2 (v := 0) dX4_count_1 rfl (by decide) ?_
  refine r_iconst C 3 (v := 5) dX4_count_2 rfl (by decide) ?_
  refine r_cSV (b := 0) (as := [.int p0, .int 0, .int 5]) (S := []) C r.px 6 (ct_X4_needRange _ _ _ _ _ _ h) dX4_count_3 rfl wd_869 wd_868 wd_870 wd_90 yd_X4_needRange ⟨Nat.le_of_ble_eq_true rfl, Nat.le_of_ble_eq_true rfl⟩ (Nat.le_of_ble_eq_true rfl) (by decide) (fun σ3 h => ?_)
  refine r_iload_n (j := 1) C 7 dX4_count_6 rfl rfl ?_
  by_cases c7_0 : p0 = 0
  · have h := h.1 c7_0
    refine r_tblIn C 40 (off := 33) dX4_count_7 (by rw [c7_0]; decide) (by rw [c7_0]; decide) (by rw [c7_0] <;> rfl) (by decide) ?_
    refine r_aload_n (j := 0) C 41 dX4_count_40 rfl rfl ?_
    refine r_get (k := 0) C cl6 44 dX4_count_41 rfl kd_0 (by decide) wd_358 (.ref 1) (fun _ => rfl) ?_
    refine r_get (k := 1) C cl2 47 dX4_count_44 rfl kd_1 (by decide) wd_138 (.int (σ3.1 1 1)) (fun _ => rfl) ?_
    exact r_iret (S := []) C r dX4_count_47 (by decide) rfl h
  by_cases c7_1 : p0 = 1
  · have h := h.2.1 c7_1
    refine r_tblIn C 48 (off := 41) dX4_count_7 (by rw [c7_1]; decide) (by rw [c7_1]; decide) (by rw [c7_1] <;> rfl) (by decide) ?_
    refine r_aload_n (j := 0) C 49 dX4_count_48 rfl rfl ?_
    refine r_get (k := 0) C cl6 52 dX4_count_49 rfl kd_0 (by decide) wd_358 (.ref 1) (fun _ => rfl) ?_
    refine r_cVI (as := []) (S := []) C r.px 55 (ct_X0_stationCount _ _ _ _ h) dX4_count_52 rfl cl2 kd_1 wd_822 wd_821 rfl wd_820 wd_823 wd_91 yd_X0_stationCount ⟨Nat.le_of_ble_eq_true rfl, Nat.le_of_ble_eq_true rfl⟩ (Nat.le_of_ble_eq_true rfl) (by decide) (fun r52 σ52 h => ?_)
    exact r_iret (S := []) C r dX4_count_55 (by decide) rfl h
  by_cases c7_2 : p0 = 2
  · have h := h.2.2.1 c7_2
    refine r_tblIn C 56 (off := 49) dX4_count_7 (by rw [c7_2]; decide) (by rw [c7_2]; decide) (by rw [c7_2] <;> rfl) (by decide) ?_
    refine r_aload_n (j := 0) C 57 dX4_count_56 rfl rfl ?_
    refine r_cVV (as := []) (S := []) C r.px 60 (ct_X4_settle  _ _ _ h) dX4_count_57 rfl cl6 kd_0 wd_0 wd_411 rfl wd_409 wd_412 wd_90 yd_X4_settle ⟨Nat.le_of_ble_eq_true rfl, Nat.le_of_ble_eq_true rfl⟩ (Nat.le_of_ble_eq_true rfl) (by decide) (fun σ57 h => ?_)
    refine r_aload_n (j := 0) C 61 dX4_count_60 rfl rfl ?_
    refine r_get (k := 4) C cl6 64 dX4_count_61 rfl kd_0 (by decide) wd_362 (.ref 44) (fun _ => rfl) ?_
    refine r_get (k := 2) C cl3 67 dX4_count_64 rfl kd_44 (by decide) wd_231 (.int (σ57.1 44 2)) (fun _ => rfl) ?_
    exact r_iret (S := []) C r dX4_count_67 (by decide) rfl h
  by_cases c7_3 : p0 = 3
  · have h := h.2.2.2.1 c7_3
    refine r_tblIn C 68 (off := 61) dX4_count_7 (by rw [c7_3]; decide) (by rw [c7_3]; decide) (by rw [c7_3] <;> rfl) (by decide) ?_
    refine r_aload_n (j := 0) C 69 dX4_count_68 rfl rfl ?_
    refine r_cVV (as := []) (S := []) C r.px 72 (ct_X4_settle  _ _ _ h) dX4_count_69 rfl cl6 kd_0 wd_0 wd_411 rfl wd_409 wd_412 wd_90 yd_X4_settle ⟨Nat.le_of_ble_eq_true rfl, Nat.le_of_ble_eq_true rfl⟩ (Nat.le_of_ble_eq_true rfl) (by decide) (fun σ69 h => ?_)
    refine r_aload_n (j := 0) C 73 dX4_count_72 rfl rfl ?_
    refine r_get (k := 4) C cl6 76 dX4_count_73 rfl kd_0 (by decide) wd_362 (.ref 44) (fun _ => rfl) ?_
    refine r_get (k := 8) C cl3 79 dX4_count_76 rfl kd_44 (by decide) wd_245 (.int (σ69.1 44 8)) (fun _ => rfl) ?_
    exact r_iret (S := []) C r dX4_count_79 (by decide) rfl h
  by_cases c7_4 : p0 = 4
  · have h := h.2.2.2.2.1 c7_4
    refine r_tblIn C 80 (off := 73) dX4_count_7 (by rw [c7_4]; decide) (by rw [c7_4]; decide) (by rw [c7_4] <;> rfl) (by decide) ?_
    refine r_aload_n (j := 0) C 81 dX4_count_80 rfl rfl ?_
    refine r_get (k := 9) C cl6 84 dX4_count_81 rfl kd_0 (by decide) wd_367 (.int (σ3.1 0 9)) (fun _ => rfl) ?_
    exact r_iret (S := []) C r dX4_count_84 (by decide) rfl h
  have h := h.2.2.2.2.2 c7_0 c7_1 c7_2 c7_3 c7_4
  refine r_tblOut C 85 dX4_count_7 (tsw_out 5 (by decide) (fun k hk => by
    match k, hk with
    | 0, _ => exact c7_0
    | 1, _ => exact c7_1
    | 2, _ => exact c7_2
    | 3, _ => exact c7_3
    | 4, _ => exact c7_4
    | k + 5, hk => exact absurd hk (by omega))) (by decide) ?_
  refine r_aload_n (j := 0) C 86 dX4_count_85 rfl rfl ?_
  refine r_get (k := 7) C cl6 89 dX4_count_86 rfl kd_0 (by decide) wd_365 (.ref 79) (fun _ => rfl) ?_
  refine r_get (k := 1) C cl5 92 dX4_count_89 rfl kd_79 (by decide) wd_337 (.int (σ3.1 79 1)) (fun _ => rfl) ?_
  exact r_iret (S := []) C r dX4_count_92 (by decide) rfl h
theorem ct_X4_count (p0 : Int32) (σ : Mem) (K : Int32 → Mem → Prop) (X : String → Mem → Prop) (h : sp_X4_count p0 σ K X) : CtI yX4_count cX4_count 2 (some .int) 9 1 [.ref 0, .int p0] σ K X := by
  have h := h
  exact ctI_of (by decide +kernel) (Nat.le_of_ble_eq_true rfl) (fun x C r => sg_X4_count_0 C r p0  σ h)
/-! HeatNetwork.direction(I)C: level 9, exceptions 1 -/
def sp_X4_direction (p0 : Int32) (σ : Mem) (K : Int32 → Mem → Prop) (X : String → Mem → Prop) : Prop := (sp_X4_needPipe p0 σ (fun σ2 => sp_X4_settle  σ2 (fun σ6 => (vp_in p0 10) ∧ (∀ v18 : Int32, v18 = (σ6.1 55 p0.toNatClampNeg) → (¬ v18 = 0 → (v18 ≤ 0 → K 45 σ6) ∧ (¬ v18 ≤ 0 → K 43 σ6)) ∧ (v18 = 0 → K 48 σ6))) X) X)
set_option maxRecDepth 4000 in
theorem sg_X4_direction_0 {x : Ctx} {K : Int32 → Mem → Prop} {X : String → Mem → Prop} (C : Cx x RX4 cX4_direction 3) (r : RtI x 9 1 (some .char) K X) (p0 : Int32)  (σ : Mem) (h : sp_X4_needPipe p0 σ (fun σ2 => sp_X4_settle  σ2 (fun σ6 => (vp_in p0 10) ∧ (∀ v18 : Int32, v18 = (σ6.1 55 p0.toNatClampNeg) → (¬ v18 = 0 → (v18 ≤ 0 → K 45 σ6) ∧ (¬ v18 ≤ 0 → K 43 σ6)) ∧ (v18 = 0 → K 48 σ6))) X) X) : Ws x 0 0 [(0, .ref 0), (1, .int p0)] [] σ := by
  refine r_aload_n (j := 0) C 1 dX4_direction_0 rfl rfl ?_
  refine r_iload_n (j := 1) C 2 dX4_direction_1 rfl rfl ?_
  refine r_cVV (as := [.int p0]) (S := []) C r.px 5 (ct_X4_needPipe _ _ _ _ h) dX4_direction_2 rfl cl6 kd_0 wd_27 wd_797 rfl wd_795 wd_798 wd_90 yd_X4_needPipe ⟨Nat.le_of_ble_eq_true rfl, Nat.le_of_ble_eq_true rfl⟩ (Nat.le_of_ble_eq_true rfl) (by decide) (fun σ2 h => ?_)
  refine r_aload_n (j := 0) C 6 dX4_direction_5 rfl rfl ?_
  refine r_cVV (as := []) (S := []) C r.px 9 (ct_X4_settle  _ _ _ h) dX4_direction_6 rfl cl6 kd_0 wd_0 wd_411 rfl wd_409 wd_412 wd_90 yd_X4_settle ⟨Nat.le_of_ble_eq_true rfl, Nat.le_of_ble_eq_true rfl⟩ (Nat.le_of_ble_eq_true rfl) (by decide) (fun σ6 h => ?_)
  refine r_aload_n (j := 0) C 10 dX4_direction_9 rfl rfl ?_
  refine r_get (k := 5) C cl6 13 dX4_direction_10 rfl kd_0 (by decide) wd_363 (.ref 53) (fun _ => rfl) ?_
  refine r_get (k := 1) C cl4 16 dX4_direction_13 rfl kd_53 (by decide) wd_279 (.ref 55) (fun _ => rfl) ?_
  refine r_iload_n (j := 1) C 17 dX4_direction_16 rfl rfl ?_
  obtain ⟨o17, h⟩ := h
  refine r_iald C 18 dX4_direction_17 rfl kd_55 o17 ?_
  refine r_nmI (fun v18 e18 => ?_)
  have h := h v18 e18
  refine r_istore_n C 19 [(2, .int v18), (0, .ref 0), (1, .int p0)] dX4_direction_18 rfl (by decide) rfl ?_
  refine r_iload_n (j := 0) C 20 dX4_direction_19 rfl rfl ?_
  refine r_if_ne C 26 23 dX4_direction_20 (by decide) rfl (fun c20 => ?_) (fun c20 => ?_)
  · have h := h.1 c20
    refine r_iload_n (j := 0) C 27 dX4_direction_26 rfl rfl ?_
    refine r_if_le C 35 30 dX4_direction_27 (by decide) rfl (fun c27 => ?_) (fun c27 => ?_)
    · have h := h.1 c27
      refine r_bipush C 37 (v := 45) dX4_direction_35 rfl (by decide) ?_
      exact r_iret (S := []) C r dX4_direction_37 (by decide) (by decide) h
    · have h := h.2 c27
      refine r_bipush C 32 (v := 43) dX4_direction_30 rfl (by decide) ?_
      refine r_goto C 37 dX4_direction_32 (by decide) ?_
      exact r_iret (S := []) C r dX4_direction_37 (by decide) (by decide) h
  · have h := h.2 c20
    refine r_bipush C 25 (v := 48) dX4_direction_23 rfl (by decide) ?_
    exact r_iret (S := []) C r dX4_direction_25 (by decide) (by decide) h
theorem ct_X4_direction (p0 : Int32) (σ : Mem) (K : Int32 → Mem → Prop) (X : String → Mem → Prop) (h : sp_X4_direction p0 σ K X) : CtI yX4_direction cX4_direction 3 (some .char) 9 1 [.ref 0, .int p0] σ K X := by
  have h := h
  exact ctI_of (by decide +kernel) (Nat.le_of_ble_eq_true rfl) (fun x C r => sg_X4_direction_0 C r p0  σ h)
/-! HeatNetwork.distance(I)I: level 9, exceptions 1 -/
def sp_X4_distance (p0 : Int32) (σ : Mem) (K : Int32 → Mem → Prop) (X : String → Mem → Prop) : Prop := (sp_X4_settle  σ (fun σ1 => sp_X4_needConnected p0 σ1 (fun σ6 => (vp_in p0 10) ∧ (K (σ6.1 45 p0.toNatClampNeg) σ6)) X) X)
set_option maxRecDepth 4000 in
theorem sg_X4_distance_0 {x : Ctx} {K : Int32 → Mem → Prop} {X : String → Mem → Prop} (C : Cx x RX4 cX4_distance 2) (r : RtI x 9 1 (some .int) K X) (p0 : Int32)  (σ : Mem) (h : sp_X4_settle  σ (fun σ1 => sp_X4_needConnected p0 σ1 (fun σ6 => (vp_in p0 10) ∧ (K (σ6.1 45 p0.toNatClampNeg) σ6)) X) X) : Ws x 0 0 [(0, .ref 0), (1, .int p0)] [] σ := by
  refine r_aload_n (j := 0) C 1 dX4_distance_0 rfl rfl ?_
  refine r_cVV (as := []) (S := []) C r.px 4 (ct_X4_settle  _ _ _ h) dX4_distance_1 rfl cl6 kd_0 wd_0 wd_411 rfl wd_409 wd_412 wd_90 yd_X4_settle ⟨Nat.le_of_ble_eq_true rfl, Nat.le_of_ble_eq_true rfl⟩ (Nat.le_of_ble_eq_true rfl) (by decide) (fun σ1 h => ?_)
  refine r_aload_n (j := 0) C 5 dX4_distance_4 rfl rfl ?_
  refine r_iload_n (j := 1) C 6 dX4_distance_5 rfl rfl ?_
  refine r_cVV (as := [.int p0]) (S := []) C r.px 9 (ct_X4_needConnected _ _ _ _ h) dX4_distance_6 rfl cl6 kd_0 wd_38 wd_1076 rfl wd_1074 wd_1077 wd_90 yd_X4_needConnected ⟨Nat.le_of_ble_eq_true rfl, Nat.le_of_ble_eq_true rfl⟩ (Nat.le_of_ble_eq_true rfl) (by decide) (fun σ6 h => ?_)
  refine r_aload_n (j := 0) C 10 dX4_distance_9 rfl rfl ?_
  refine r_get (k := 4) C cl6 13 dX4_distance_10 rfl kd_0 (by decide) wd_362 (.ref 44) (fun _ => rfl) ?_
  refine r_get (k := 0) C cl3 16 dX4_distance_13 rfl kd_44 (by decide) wd_226 (.ref 45) (fun _ => rfl) ?_
  refine r_iload_n (j := 1) C 17 dX4_distance_16 rfl rfl ?_
  obtain ⟨o17, h⟩ := h
  refine r_iald C 18 dX4_distance_17 rfl kd_45 o17 ?_
  exact r_iret (S := []) C r dX4_distance_18 (by decide) rfl h
theorem ct_X4_distance (p0 : Int32) (σ : Mem) (K : Int32 → Mem → Prop) (X : String → Mem → Prop) (h : sp_X4_distance p0 σ K X) : CtI yX4_distance cX4_distance 2 (some .int) 9 1 [.ref 0, .int p0] σ K X := by
  have h := h
  exact ctI_of (by decide +kernel) (Nat.le_of_ble_eq_true rfl) (fun x C r => sg_X4_distance_0 C r p0  σ h)
/-! HeatNetwork.flow(I)I: level 9, exceptions 1 -/
def sp_X4_flow (p0 : Int32) (σ : Mem) (K : Int32 → Mem → Prop) (X : String → Mem → Prop) : Prop := (sp_X4_needPipe p0 σ (fun σ2 => sp_X4_settle  σ2 (fun σ6 => (vp_in p0 10) ∧ (K (σ6.1 55 p0.toNatClampNeg) σ6)) X) X)
set_option maxRecDepth 4000 in
theorem sg_X4_flow_0 {x : Ctx} {K : Int32 → Mem → Prop} {X : String → Mem → Prop} (C : Cx x RX4 cX4_flow 2) (r : RtI x 9 1 (some .int) K X) (p0 : Int32)  (σ : Mem) (h : sp_X4_needPipe p0 σ (fun σ2 => sp_X4_settle  σ2 (fun σ6 => (vp_in p0 10) ∧ (K (σ6.1 55 p0.toNatClampNeg) σ6)) X) X) : Ws x 0 0 [(0, .ref 0), (1, .int p0)] [] σ := by
  refine r_aload_n (j := 0) C 1 dX4_flow_0 rfl rfl ?_
  refine r_iload_n (j := 1) C 2 dX4_flow_1 rfl rfl ?_
  refine r_cVV (as := [.int p0]) (S := []) C r.px 5 (ct_X4_needPipe _ _ _ _ h) dX4_flow_2 rfl cl6 kd_0 wd_27 wd_797 rfl wd_795 wd_798 wd_90 yd_X4_needPipe ⟨Nat.le_of_ble_eq_true rfl, Nat.le_of_ble_eq_true rfl⟩ (Nat.le_of_ble_eq_true rfl) (by decide) (fun σ2 h => ?_)
  refine r_aload_n (j := 0) C 6 dX4_flow_5 rfl rfl ?_
  refine r_cVV (as := []) (S := []) C r.px 9 (ct_X4_settle  _ _ _ h) dX4_flow_6 rfl cl6 kd_0 wd_0 wd_411 rfl wd_409 wd_412 wd_90 yd_X4_settle ⟨Nat.le_of_ble_eq_true rfl, Nat.le_of_ble_eq_true rfl⟩ (Nat.le_of_ble_eq_true rfl) (by decide) (fun σ6 h => ?_)
  refine r_aload_n (j := 0) C 10 dX4_flow_9 rfl rfl ?_
  refine r_get (k := 5) C cl6 13 dX4_flow_10 rfl kd_0 (by decide) wd_363 (.ref 53) (fun _ => rfl) ?_
  refine r_get (k := 1) C cl4 16 dX4_flow_13 rfl kd_53 (by decide) wd_279 (.ref 55) (fun _ => rfl) ?_
  refine r_iload_n (j := 1) C 17 dX4_flow_16 rfl rfl ?_
  obtain ⟨o17, h⟩ := h
  refine r_iald C 18 dX4_flow_17 rfl kd_55 o17 ?_
  exact r_iret (S := []) C r dX4_flow_18 (by decide) rfl h
theorem ct_X4_flow (p0 : Int32) (σ : Mem) (K : Int32 → Mem → Prop) (X : String → Mem → Prop) (h : sp_X4_flow p0 σ K X) : CtI yX4_flow cX4_flow 2 (some .int) 9 1 [.ref 0, .int p0] σ K X := by
  have h := h
  exact ctI_of (by decide +kernel) (Nat.le_of_ble_eq_true rfl) (fun x C r => sg_X4_flow_0 C r p0  σ h)
/-! HeatNetwork.head(I)J: level 9, exceptions 1 -/
def sp_X4_head (p0 : Int32) (σ : Mem) (K : Int64 → Mem → Prop) (X : String → Mem → Prop) : Prop := (sp_X4_settle  σ (fun σ1 => sp_X4_needConnected p0 σ1 (fun σ6 => (vp_in p0 10) ∧ (K (σ6.2.1 65 p0.toNatClampNeg) σ6)) X) X)
set_option maxRecDepth 4000 in
theorem sg_X4_head_0 {x : Ctx} {K : Int64 → Mem → Prop} {X : String → Mem → Prop} (C : Cx x RX4 cX4_head 2) (r : RtL x 9 1 (some .long) K X) (p0 : Int32)  (σ : Mem) (h : sp_X4_settle  σ (fun σ1 => sp_X4_needConnected p0 σ1 (fun σ6 => (vp_in p0 10) ∧ (K (σ6.2.1 65 p0.toNatClampNeg) σ6)) X) X) : Ws x 0 0 [(0, .ref 0), (1, .int p0)] [] σ := by
  refine r_aload_n (j := 0) C 1 dX4_head_0 rfl rfl ?_
  refine r_cVV (as := []) (S := []) C r.px 4 (ct_X4_settle  _ _ _ h) dX4_head_1 rfl cl6 kd_0 wd_0 wd_411 rfl wd_409 wd_412 wd_90 yd_X4_settle ⟨Nat.le_of_ble_eq_true rfl, Nat.le_of_ble_eq_true rfl⟩ (Nat.le_of_ble_eq_true rfl) (by decide) (fun σ1 h => ?_)
  refine r_aload_n (j := 0) C 5 dX4_head_4 rfl rfl ?_
  refine r_iload_n (j := 1) C 6 dX4_head_5 rfl rfl ?_
  refine r_cVV (as := [.int p0]) (S := []) C r.px 9 (ct_X4_needConnected _ _ _ _ h) dX4_head_6 rfl cl6 kd_0 wd_38 wd_1076 rfl wd_1074 wd_1077 wd_90 yd_X4_needConnected ⟨Nat.le_of_ble_eq_true rfl, Nat.le_of_ble_eq_true rfl⟩ (Nat.le_of_ble_eq_true rfl) (by decide) (fun σ6 h => ?_)
  refine r_aload_n (j := 0) C 10 dX4_head_9 rfl rfl ?_
  refine r_get (k := 5) C cl6 13 dX4_head_10 rfl kd_0 (by decide) wd_363 (.ref 53) (fun _ => rfl) ?_
  refine r_get (k := 11) C cl4 16 dX4_head_13 rfl kd_53 (by decide) wd_294 (.ref 65) (fun _ => rfl) ?_
  refine r_iload_n (j := 1) C 17 dX4_head_16 rfl rfl ?_
  obtain ⟨o17, h⟩ := h
  refine r_lald C 18 dX4_head_17 rfl kd_65 o17 ?_
  exact r_lret (S := []) C r dX4_head_18 (by decide) h
theorem ct_X4_head (p0 : Int32) (σ : Mem) (K : Int64 → Mem → Prop) (X : String → Mem → Prop) (h : sp_X4_head p0 σ K X) : CtL yX4_head cX4_head 2 (some .long) 9 1 [.ref 0, .int p0] σ K X := by
  have h := h
  exact ctL_of (by decide +kernel) (Nat.le_of_ble_eq_true rfl) (fun x C r => sg_X4_head_0 C r p0  σ h)
/-! HeatNetwork.isConnected(I)Z: level 9, exceptions 1 -/
def sp_X4_isConnected (p0 : Int32) (σ : Mem) (K : Int32 → Mem → Prop) (X : String → Mem → Prop) : Prop := (sp_X4_needNode p0 σ (fun σ1 => sp_X4_settle  σ1 (fun σ5 => (vp_in p0 10) ∧ (((σ5.1 45 p0.toNatClampNeg) < 0 → K 0 σ5) ∧ (¬ (σ5.1 45 p0.toNatClampNeg) < 0 → K 1 σ5))) X) X)
set_option maxRecDepth 4000 in
theorem sg_X4_isConnected_0 {x : Ctx} {K : Int32 → Mem → Prop} {X : String → Mem → Prop} (C : Cx x RX4 cX4_isConnected 2) (r : RtI x 9 1 (some .boolean) K X) (p0 : Int32)  (σ : Mem) (h : sp_X4_needNode p0 σ (fun σ1 => sp_X4_settle  σ1 (fun σ5 => (vp_in p0 10) ∧ (((σ5.1 45 p0.toNatClampNeg) < 0 → K 0 σ5) ∧ (¬ (σ5.1 45 p0.toNatClampNeg) < 0 → K 1 σ5))) X) X) : Ws x 0 0 [(0, .ref 0), (1, .int p0)] [] σ := by
  refine r_iload_n (j := 1) C 1 dX4_isConnected_0 rfl rfl ?_
  refine r_cSV (b := 0) (as := [.int p0]) (S := []) C r.px 4 (ct_X4_needNode _ _ _ _ h) dX4_isConnected_1 rfl wd_1049 wd_1048 wd_1050 wd_90 yd_X4_needNode ⟨Nat.le_of_ble_eq_true rfl, Nat.le_of_ble_eq_true rfl⟩ (Nat.le_of_ble_eq_true rfl) (by decide) (fun σ1 h => ?_)
  refine r_aload_n (j := 0) C 5 dX4_isConnected_4 rfl rfl ?_
  refine r_cVV (as := []) (S := []) C r.px 8 (ct_X4_settle  _ _ _ h) dX4_isConnected_5 rfl cl6 kd_0 wd_0 wd_411 rfl wd_409 wd_412 wd_90 yd_X4_settle ⟨Nat.le_of_ble_eq_true rfl, Nat.le_of_ble_eq_true rfl⟩ (Nat.le_of_ble_eq_true rfl) (by decide) (fun σ5 h => ?_)
  refine r_aload_n (j := 0) C 9 dX4_isConnected_8 rfl rfl ?_
  refine r_get (k := 4) C cl6 12 dX4_isConnected_9 rfl kd_0 (by decide) wd_362 (.ref 44) (fun _ => rfl) ?_
  refine r_get (k := 0) C cl3 15 dX4_isConnected_12 rfl kd_44 (by decide) wd_226 (.ref 45) (fun _ => rfl) ?_
  refine r_iload_n (j := 1) C 16 dX4_isConnected_15 rfl rfl ?_
  obtain ⟨o16, h⟩ := h
  refine r_iald C 17 dX4_isConnected_16 rfl kd_45 o16 ?_
  refine r_if_lt C 24 20 dX4_isConnected_17 (by decide) rfl (fun c17 => ?_) (fun c17 => ?_)
  · have h := h.1 c17
    refine r_iconst C 25 (v := 0) dX4_isConnected_24 rfl (by decide) ?_
    exact r_iret (S := []) C r dX4_isConnected_25 (by decide) (by decide) h
  · have h := h.2 c17
    refine r_iconst C 21 (v := 1) dX4_isConnected_20 rfl (by decide) ?_
    refine r_goto C 25 dX4_isConnected_21 (by decide) ?_
    exact r_iret (S := []) C r dX4_isConnected_25 (by decide) (by decide) h
theorem ct_X4_isConnected (p0 : Int32) (σ : Mem) (K : Int32 → Mem → Prop) (X : String → Mem → Prop) (h : sp_X4_isConnected p0 σ K X) : CtI yX4_isConnected cX4_isConnected 2 (some .boolean) 9 1 [.ref 0, .int p0] σ K X := by
  have h := h
  exact ctI_of (by decide +kernel) (Nat.le_of_ble_eq_true rfl) (fun x C r => sg_X4_isConnected_0 C r p0  σ h)
/-! HeatNetwork.loss(I)J: level 9, exceptions 1 -/
def sp_X4_loss (p0 : Int32) (σ : Mem) (K : Int64 → Mem → Prop) (X : String → Mem → Prop) : Prop := (sp_X4_needPipe p0 σ (fun σ2 => sp_X4_settle  σ2 (fun σ6 => (vp_in p0 10) ∧ (K (σ6.2.1 64 p0.toNatClampNeg) σ6)) X) X)
set_option maxRecDepth 4000 in
theorem sg_X4_loss_0 {x : Ctx} {K : Int64 → Mem → Prop} {X : String → Mem → Prop} (C : Cx x RX4 cX4_loss 2) (r : RtL x 9 1 (some .long) K X) (p0 : Int32)  (σ : Mem) (h : sp_X4_needPipe p0 σ (fun σ2 => sp_X4_settle  σ2 (fun σ6 => (vp_in p0 10) ∧ (K (σ6.2.1 64 p0.toNatClampNeg) σ6)) X) X) : Ws x 0 0 [(0, .ref 0), (1, .int p0)] [] σ := by
  refine r_aload_n (j := 0) C 1 dX4_loss_0 rfl rfl ?_
  refine r_iload_n (j := 1) C 2 dX4_loss_1 rfl rfl ?_
  refine r_cVV (as := [.int p0]) (S := []) C r.px 5 (ct_X4_needPipe _ _ _ _ h) dX4_loss_2 rfl cl6 kd_0 wd_27 wd_797 rfl wd_795 wd_798 wd_90 yd_X4_needPipe ⟨Nat.le_of_ble_eq_true rfl, Nat.le_of_ble_eq_true rfl⟩ (Nat.le_of_ble_eq_true rfl) (by decide) (fun σ2 h => ?_)
  refine r_aload_n (j := 0) C 6 dX4_loss_5 rfl rfl ?_
  refine r_cVV (as := []) (S := []) C r.px 9 (ct_X4_settle  _ _ _ h) dX4_loss_6 rfl cl6 kd_0 wd_0 wd_411 rfl wd_409 wd_412 wd_90 yd_X4_settle ⟨Nat.le_of_ble_eq_true rfl, Nat.le_of_ble_eq_true rfl⟩ (Nat.le_of_ble_eq_true rfl) (by decide) (fun σ6 h => ?_)
  refine r_aload_n (j := 0) C 10 dX4_loss_9 rfl rfl ?_
  refine r_get (k := 5) C cl6 13 dX4_loss_10 rfl kd_0 (by decide) wd_363 (.ref 53) (fun _ => rfl) ?_
  refine r_get (k := 10) C cl4 16 dX4_loss_13 rfl kd_53 (by decide) wd_292 (.ref 64) (fun _ => rfl) ?_
  refine r_iload_n (j := 1) C 17 dX4_loss_16 rfl rfl ?_
  obtain ⟨o17, h⟩ := h
  refine r_lald C 18 dX4_loss_17 rfl kd_64 o17 ?_
  exact r_lret (S := []) C r dX4_loss_18 (by decide) h
theorem ct_X4_loss (p0 : Int32) (σ : Mem) (K : Int64 → Mem → Prop) (X : String → Mem → Prop) (h : sp_X4_loss p0 σ K X) : CtL yX4_loss cX4_loss 2 (some .long) 9 1 [.ref 0, .int p0] σ K X := by
  have h := h
  exact ctL_of (by decide +kernel) (Nat.le_of_ble_eq_true rfl) (fun x C r => sg_X4_loss_0 C r p0  σ h)
/-! HeatNetwork.meter(II)J: level 9, exceptions 2 -/
def sp_X4_meter (p0 : Int32) (p1 : Int32) (σ : Mem) (K : Int64 → Mem → Prop) (X : String → Mem → Prop) : Prop := (sp_X4_needStation p0 σ (fun σ2 => sp_X4_needRange p1 0 3 σ2 (fun σ8 => (p1 = 0 → (vp_in p0 10) ∧ (K (σ8.2.1 12 p0.toNatClampNeg) σ8)) ∧ (p1 = 1 → (vp_in p0 10) ∧ (K (σ8.2.1 13 p0.toNatClampNeg) σ8)) ∧ (p1 = 2 → (vp_in p0 10) ∧ (K (σ8.2.1 14 p0.toNatClampNeg) σ8)) ∧ (¬ p1 = 0 → ¬ p1 = 1 → ¬ p1 = 2 → sp_X4_settle  σ8 (fun σ71 => sp_X2_stationHeat 53 1 p0 σ71 (fun r83 σ83 => K r83 σ83) X) X)) X) X)
set_option maxRecDepth 4000 in
theorem sg_X4_meter_0 {x : Ctx} {K : Int64 → Mem → Prop} {X : String → Mem → Prop} (C : Cx x RX4 cX4_meter 3) (r : RtL x 9 2 (some .long) K X) (p0 : Int32) (p1 : Int32)  (σ : Mem) (h : sp_X4_needStation p0 σ (fun σ2 => sp_X4_needRange p1 0 3 σ2 (fun σ8 => (p1 = 0 → (vp_in p0 10) ∧ (K (σ8.2.1 12 p0.toNatClampNeg) σ8)) ∧ (p1 = 1 → (vp_in p0 10) ∧ (K (σ8.2.1 13 p0.toNatClampNeg) σ8)) ∧ (p1 = 2 → (vp_in p0 10) ∧ (K (σ8.2.1 14 p0.toNatClampNeg) σ8)) ∧ (¬ p1 = 0 → ¬ p1 = 1 → ¬ p1 = 2 → sp_X4_settle  σ8 (fun σ71 => sp_X2_stationHeat 53 1 p0 σ71 (fun r83 σ83 => K r83 σ83) X) X)) X) X) : Ws x 0 0 [(0, .ref 0), (1, .int p0), (2, .int p1)] [] σ := by
  refine r_aload_n (j := 0) C 1 dX4_meter_0 rfl rfl ?_
  refine r_iload_n (j := 1) C 2 dX4_meter_1 rfl rfl ?_
  refine r_cVV (as := [.int p0]) (S := []) C r.px 5 (ct_X4_needStation _ _ _ _ h) dX4_meter_2 rfl cl6 kd_0 wd_28 wd_849 rfl wd_847 wd_850 wd_90 yd_X4_needStation ⟨Nat.le_of_ble_eq_true rfl, Nat.le_of_ble_eq_true rfl⟩ (Nat.le_of_ble_eq_true rfl) (by decide) (fun σ2 h => ?_)
  refine r_iload_n (j := 2) C 6 dX4_meter_5 rfl rfl ?_
  refine r_iconst C 7 (v := 0) dX4_meter_6 rfl (by decide) ?_
  refine r_iconst C 8 (v := 3) dX4_meter_7 rfl (by decide) ?_
  refine r_cSV (b := 0) (as := [.int p1, .int 0, .int 3]) (S := []) C r.px 11 (ct_X4_needRange _ _ _ _ _ _ h) dX4_meter_8 rfl wd_869 wd_868 wd_870 wd_90 yd_X4_needRange ⟨Nat.le_of_ble_eq_true rfl, Nat.le_of_ble_eq_true rfl⟩ (Nat.le_of_ble_eq_true rfl) (by decide) (fun σ8 h => ?_)
  refine r_iload_n (j := 2) C 12 dX4_meter_11 rfl rfl ?_
  by_cases c12_0 : p1 = 0
  · have h := h.1 c12_0
    refine r_tblIn C 40 (off := 28) dX4_meter_12 (by rw [c12_0]; decide) (by rw [c12_0]; decide) (by rw [c12_0] <;> rfl) (by decide) ?_
    refine r_aload_n (j := 0) C 41 dX4_meter_40 rfl rfl ?_
    refine r_get (k := 0) C cl6 44 dX4_meter_41 rfl kd_0 (by decide) wd_358 (.ref 1) (fun _ => rfl) ?_
    refine r_get (k := 11) C cl2 47 dX4_meter_44 rfl kd_1 (by decide) wd_165 (.ref 12) (fun _ => rfl) ?_
    refine r_iload_n (j := 1) C 48 dX4_meter_47 rfl rfl ?_
    obtain ⟨o48, h⟩ := h
    refine r_lald C 49 dX4_meter_48 rfl kd_12 o48 ?_
    exact r_lret (S := []) C r dX4_meter_49 (by decide) h
  by_cases c12_1 : p1 = 1
  · have h := h.2.1 c12_1
    refine r_tblIn C 50 (off := 38) dX4_meter_12 (by rw [c12_1]; decide) (by rw [c12_1]; decide) (by rw [c12_1] <;> rfl) (by decide) ?_
    refine r_aload_n (j := 0) C 51 dX4_meter_50 rfl rfl ?_
    refine r_get (k := 0) C cl6 54 dX4_meter_51 rfl kd_0 (by decide) wd_358 (.ref 1) (fun _ => rfl) ?_
    refine r_get (k := 12) C cl2 57 dX4_meter_54 rfl kd_1 (by decide) wd_167 (.ref 13) (fun _ => rfl) ?_
    refine r_iload_n (j := 1) C 58 dX4_meter_57 rfl rfl ?_
    obtain ⟨o58, h⟩ := h
    refine r_lald C 59 dX4_meter_58 rfl kd_13 o58 ?_
    exact r_lret (S := []) C r dX4_meter_59 (by decide) h
  by_cases c12_2 : p1 = 2
  · have h := h.2.2.1 c12_2
    refine r_tblIn C 60 (off := 48) dX4_meter_12 (by rw [c12_2]; decide) (by rw [c12_2]; decide) (by rw [c12_2] <;> rfl) (by decide) ?_
    refine r_aload_n (j := 0) C 61 dX4_meter_60 rfl rfl ?_
    refine r_get (k := 0) C cl6 64 dX4_meter_61 rfl kd_0 (by decide) wd_358 (.ref 1) (fun _ => rfl) ?_
    refine r_get (k := 13) C cl2 67 dX4_meter_64 rfl kd_1 (by decide) wd_169 (.ref 14) (fun _ => rfl) ?_
    refine r_iload_n (j := 1) C 68 dX4_meter_67 rfl rfl ?_
    obtain ⟨o68, h⟩ := h
    refine r_lald C 69 dX4_meter_68 rfl kd_14 o68 ?_
    exact r_lret (S := []) C r dX4_meter_69 (by decide) h
  have h := h.2.2.2 c12_0 c12_1 c12_2
  refine r_tblOut C 70 dX4_meter_12 (tsw_out 3 (by decide) (fun k hk => by
    match k, hk with
    | 0, _ => exact c12_0
    | 1, _ => exact c12_1
    | 2, _ => exact c12_2
    | k + 3, hk => exact absurd hk (by omega))) (by decide) ?_
  refine r_aload_n (j := 0) C 71 dX4_meter_70 rfl rfl ?_
  refine r_cVV (as := []) (S := []) C r.px 74 (ct_X4_settle  _ _ _ h) dX4_meter_71 rfl cl6 kd_0 wd_0 wd_411 rfl wd_409 wd_412 wd_90 yd_X4_settle ⟨Nat.le_of_ble_eq_true rfl, Nat.le_of_ble_eq_true rfl⟩ (Nat.le_of_ble_eq_true rfl) (by decide) (fun σ71 h => ?_)
  refine r_aload_n (j := 0) C 75 dX4_meter_74 rfl rfl ?_
  refine r_get (k := 5) C cl6 78 dX4_meter_75 rfl kd_0 (by decide) wd_363 (.ref 53) (fun _ => rfl) ?_
  refine r_aload_n (j := 0) C 79 dX4_meter_78 rfl rfl ?_
  refine r_get (k := 0) C cl6 82 dX4_meter_79 rfl kd_0 (by decide) wd_358 (.ref 1) (fun _ => rfl) ?_
  refine r_iload_n (j := 1) C 83 dX4_meter_82 rfl rfl ?_
  refine r_cVL (as := [.ref 1, .int p0]) (S := []) C r.px 86 (ct_X2_stationHeat _ _ _ _ _ _ h) dX4_meter_83 rfl cl4 kd_53 wd_896 wd_895 rfl wd_894 wd_897 wd_93 yd_X2_stationHeat ⟨Nat.le_of_ble_eq_true rfl, Nat.le_of_ble_eq_true rfl⟩ (Nat.le_of_ble_eq_true rfl) (by decide) (fun r83 σ83 h => ?_)
  exact r_lret (S := []) C r dX4_meter_86 (by decide) h
theorem ct_X4_meter (p0 : Int32) (p1 : Int32) (σ : Mem) (K : Int64 → Mem → Prop) (X : String → Mem → Prop) (h : sp_X4_meter p0 p1 σ K X) : CtL yX4_meter cX4_meter 3 (some .long) 9 2 [.ref 0, .int p0, .int p1] σ K X := by
  have h := h
  exact ctL_of (by decide +kernel) (Nat.le_of_ble_eq_true rfl) (fun x C r => sg_X4_meter_0 C r p0 p1  σ h)
/-! HeatNetwork.pipe(II)I: level 9, exceptions 2 -/
def sp_X4_pipe (p0 : Int32) (p1 : Int32) (σ : Mem) (K : Int32 → Mem → Prop) (X : String → Mem → Prop) : Prop := (sp_X4_needPipe p0 σ (fun σ2 => sp_X4_needRange p1 0 4 σ2 (fun σ8 => (p1 = 0 → (vp_in p0 10) ∧ (K (σ8.1 3 p0.toNatClampNeg) σ8)) ∧ (p1 = 1 → (vp_in p0 10) ∧ (K (σ8.1 4 p0.toNatClampNeg) σ8)) ∧ (p1 = 2 → (vp_in p0 10) ∧ (K (σ8.1 5 p0.toNatClampNeg) σ8)) ∧ (p1 = 3 → (vp_in p0 10) ∧ (K (σ8.1 6 p0.toNatClampNeg) σ8)) ∧ (¬ p1 = 0 → ¬ p1 = 1 → ¬ p1 = 2 → ¬ p1 = 3 → sp_X4_settle  σ8 (fun σ85 => (vp_in p0 10) ∧ (((σ85.1 52 p0.toNatClampNeg) = 0 → K 0 σ85) ∧ (¬ (σ85.1 52 p0.toNatClampNeg) = 0 → K 1 σ85))) X)) X) X)
set_option maxRecDepth 4000 in
theorem sg_X4_pipe_0 {x : Ctx} {K : Int32 → Mem → Prop} {X : String → Mem → Prop} (C : Cx x RX4 cX4_pipe 3) (r : RtI x 9 2 (some .int) K X) (p0 : Int32) (p1 : Int32)  (σ : Mem) (h : sp_X4_needPipe p0 σ (fun σ2 => sp_X4_needRange p1 0 4 σ2 (fun σ8 => (p1 = 0 → (vp_in p0 10) ∧ (K (σ8.1 3 p0.toNatClampNeg) σ8)) ∧ (p1 = 1 → (vp_in p0 10) ∧ (K (σ8.1 4 p0.toNatClampNeg) σ8)) ∧ (p1 = 2 → (vp_in p0 10) ∧ (K (σ8.1 5 p0.toNatClampNeg) σ8)) ∧ (p1 = 3 → (vp_in p0 10) ∧ (K (σ8.1 6 p0.toNatClampNeg) σ8)) ∧ (¬ p1 = 0 → ¬ p1 = 1 → ¬ p1 = 2 → ¬ p1 = 3 → sp_X4_settle  σ8 (fun σ85 => (vp_in p0 10) ∧ (((σ85.1 52 p0.toNatClampNeg) = 0 → K 0 σ85) ∧ (¬ (σ85.1 52 p0.toNatClampNeg) = 0 → K 1 σ85))) X)) X) X) : Ws x 0 0 [(0, .ref 0), (1, .int p0), (2, .int p1)] [] σ := by
  refine r_aload_n (j := 0) C 1 dX4_pipe_0 rfl rfl ?_
  refine r_iload_n (j := 1) C 2 dX4_pipe_1 rfl rfl ?_
  refine r_cVV (as := [.int p0]) (S := []) C r.px 5 (ct_X4_needPipe _ _ _ _ h) dX4_pipe_2 rfl cl6 kd_0 wd_27 wd_797 rfl wd_795 wd_798 wd_90 yd_X4_needPipe ⟨Nat.le_of_ble_eq_true rfl, Nat.le_of_ble_eq_true rfl⟩ (Nat.le_of_ble_eq_true rfl) (by decide) (fun σ2 h => ?_)
  refine r_iload_n (j := 2) C 6 dX4_pipe_5 rfl rfl ?_
  refine r_iconst C 7 (v := 0) dX4_pipe_6 rfl (by decide) ?_
  refine r_iconst C 8 (v := 4) dX4_pipe_7 rfl (by decide) ?_
  refine r_cSV (b := 0) (as := [.int p1, .int 0, .int 4]) (S := []) C r.px 11 (ct_X4_needRange _ _ _ _ _ _ h) dX4_pipe_8 rfl wd_869 wd_868 wd_870 wd_90 yd_X4_needRange ⟨Nat.le_of_ble_eq_true rfl, Nat.le_of_ble_eq_true rfl⟩ (Nat.le_of_ble_eq_true rfl) (by decide) (fun σ8 h => ?_)
  refine r_iload_n (j := 2) C 12 dX4_pipe_11 rfl rfl ?_
  by_cases c12_0 : p1 = 0
  · have h := h.1 c12_0
    refine r_tblIn C 44 (off := 32) dX4_pipe_12 (by rw [c12_0]; decide) (by rw [c12_0]; decide) (by rw [c12_0] <;> rfl) (by decide) ?_
    refine r_aload_n (j := 0) C 45 dX4_pipe_44 rfl rfl ?_
    refine r_get (k := 0) C cl6 48 dX4_pipe_45 rfl kd_0 (by decide) wd_358 (.ref 1) (fun _ => rfl) ?_
    refine r_get (k := 2) C cl2 51 dX4_pipe_48 rfl kd_1 (by decide) wd_143 (.ref 3) (fun _ => rfl) ?_
    refine r_iload_n (j := 1) C 52 dX4_pipe_51 rfl rfl ?_
    obtain ⟨o52, h⟩ := h
    refine r_iald C 53 dX4_pipe_52 rfl kd_3 o52 ?_
    exact r_iret (S := []) C r dX4_pipe_53 (by decide) rfl h
  by_cases c12_1 : p1 = 1
  · have h := h.2.1 c12_1
    refine r_tblIn C 54 (off := 42) dX4_pipe_12 (by rw [c12_1]; decide) (by rw [c12_1]; decide) (by rw [c12_1] <;> rfl) (by decide) ?_
    refine r_aload_n (j := 0) C 55 dX4_pipe_54 rfl rfl ?_
    refine r_get (k := 0) C cl6 58 dX4_pipe_55 rfl kd_0 (by decide) wd_358 (.ref 1) (fun _ => rfl) ?_
    refine r_get (k := 3) C cl2 61 dX4_pipe_58 rfl kd_1 (by decide) wd_146 (.ref 4) (fun _ => rfl) ?_
    refine r_iload_n (j := 1) C 62 dX4_pipe_61 rfl rfl ?_
    obtain ⟨o62, h⟩ := h
    refine r_iald C 63 dX4_pipe_62 rfl kd_4 o62 ?_
    exact r_iret (S := []) C r dX4_pipe_63 (by decide) rfl h
  by_cases c12_2 : p1 = 2
  · have h := h.2.2.1 c12_2
    refine r_tblIn C 64 (off := 52) dX4_pipe_12 (by rw [c12_2]; decide) (by rw [c12_2]; decide) (by rw [c12_2] <;> rfl) (by decide) ?_
    refine r_aload_n (j := 0) C 65 dX4_pipe_64 rfl rfl ?_
    refine r_get (k := 0) C cl6 68 dX4_pipe_65 rfl kd_0 (by decide) wd_358 (.ref 1) (fun _ => rfl) ?_
    refine r_get (k := 4) C cl2 71 dX4_pipe_68 rfl kd_1 (by decide) wd_149 (.ref 5) (fun _ => rfl) ?_
    refine r_iload_n (j := 1) C 72 dX4_pipe_71 rfl rfl ?_
    obtain ⟨o72, h⟩ := h
    refine r_iald C 73 dX4_pipe_72 rfl kd_5 o72 ?_
    exact r_iret (S := []) C r dX4_pipe_73 (by decide) rfl h
  by_cases c12_3 : p1 = 3
  · have h := h.2.2.2.1 c12_3
    refine r_tblIn C 74 (off := 62) dX4_pipe_12 (by rw [c12_3]; decide) (by rw [c12_3]; decide) (by rw [c12_3] <;> rfl) (by decide) ?_
    refine r_aload_n (j := 0) C 75 dX4_pipe_74 rfl rfl ?_
    refine r_get (k := 0) C cl6 78 dX4_pipe_75 rfl kd_0 (by decide) wd_358 (.ref 1) (fun _ => rfl) ?_
    refine r_get (k := 5) C cl2 81 dX4_pipe_78 rfl kd_1 (by decide) wd_151 (.ref 6) (fun _ => rfl) ?_
    refine r_iload_n (j := 1) C 82 dX4_pipe_81 rfl rfl ?_
    obtain ⟨o82, h⟩ := h
    refine r_iald C 83 dX4_pipe_82 rfl kd_6 o82 ?_
    exact r_iret (S := []) C r dX4_pipe_83 (by decide) rfl h
  have h := h.2.2.2.2 c12_0 c12_1 c12_2 c12_3
  refine r_tblOut C 84 dX4_pipe_12 (tsw_out 4 (by decide) (fun k hk => by
    match k, hk with
    | 0, _ => exact c12_0
    | 1, _ => exact c12_1
    | 2, _ => exact c12_2
    | 3, _ => exact c12_3
    | k + 4, hk => exact absurd hk (by omega))) (by decide) ?_
  refine r_aload_n (j := 0) C 85 dX4_pipe_84 rfl rfl ?_
  refine r_cVV (as := []) (S := []) C r.px 88 (ct_X4_settle  _ _ _ h) dX4_pipe_85 rfl cl6 kd_0 wd_0 wd_411 rfl wd_409 wd_412 wd_90 yd_X4_settle ⟨Nat.le_of_ble_eq_true rfl, Nat.le_of_ble_eq_true rfl⟩ (Nat.le_of_ble_eq_true rfl) (by decide) (fun σ85 h => ?_)
  refine r_aload_n (j := 0) C 89 dX4_pipe_88 rfl rfl ?_
  refine r_get (k := 4) C cl6 92 dX4_pipe_89 rfl kd_0 (by decide) wd_362 (.ref 44) (fun _ => rfl) ?_
  refine r_get (k := 9) C cl3 95 dX4_pipe_92 rfl kd_44 (by decide) wd_247 (.ref 52) (fun _ => rfl) ?_
  refine r_iload_n (j := 1) C 96 dX4_pipe_95 rfl rfl ?_
  obtain ⟨o96, h⟩ := h
  refine r_zald C 97 dX4_pipe_96 rfl kd_52 o96 ?_
  refine r_if_eq C 104 100 dX4_pipe_97 (by decide) rfl (fun c97 => ?_) (fun c97 => ?_)
  · have h := h.1 c97
    refine r_iconst C 105 (v := 0) dX4_pipe_104 rfl (by decide) ?_
    exact r_iret (S := []) C r dX4_pipe_105 (by decide) rfl h
  · have h := h.2 c97
    refine r_iconst C 101 (v := 1) dX4_pipe_100 rfl (by decide) ?_
    refine r_goto C 105 dX4_pipe_101 (by decide) ?_
    exact r_iret (S := []) C r dX4_pipe_105 (by decide) rfl h
theorem ct_X4_pipe (p0 : Int32) (p1 : Int32) (σ : Mem) (K : Int32 → Mem → Prop) (X : String → Mem → Prop) (h : sp_X4_pipe p0 p1 σ K X) : CtI yX4_pipe cX4_pipe 3 (some .int) 9 2 [.ref 0, .int p0, .int p1] σ K X := by
  have h := h
  exact ctI_of (by decide +kernel) (Nat.le_of_ble_eq_true rfl) (fun x C r => sg_X4_pipe_0 C r p0 p1  σ h)
/-! HeatNetwork.rounding(I)J: level 9, exceptions 1 -/
def sp_X4_rounding (p0 : Int32) (σ : Mem) (K : Int64 → Mem → Prop) (X : String → Mem → Prop) : Prop := (sp_X4_needNode p0 σ (fun σ1 => sp_X4_settle  σ1 (fun σ5 => (vp_in p0 10) ∧ (K (σ5.2.1 63 p0.toNatClampNeg) σ5)) X) X)
set_option maxRecDepth 4000 in
theorem sg_X4_rounding_0 {x : Ctx} {K : Int64 → Mem → Prop} {X : String → Mem → Prop} (C : Cx x RX4 cX4_rounding 2) (r : RtL x 9 1 (some .long) K X) (p0 : Int32)  (σ : Mem) (h : sp_X4_needNode p0 σ (fun σ1 => sp_X4_settle  σ1 (fun σ5 => (vp_in p0 10) ∧ (K (σ5.2.1 63 p0.toNatClampNeg) σ5)) X) X) : Ws x 0 0 [(0, .ref 0), (1, .int p0)] [] σ := by
  refine r_iload_n (j := 1) C 1 dX4_rounding_0 rfl rfl ?_
  refine r_cSV (b := 0) (as := [.int p0]) (S := []) C r.px 4 (ct_X4_needNode _ _ _ _ h) dX4_rounding_1 rfl wd_1049 wd_1048 wd_1050 wd_90 yd_X4_needNode ⟨Nat.le_of_ble_eq_true rfl, Nat.le_of_ble_eq_true rfl⟩ (Nat.le_of_ble_eq_true rfl) (by decide) (fun σ1 h => ?_)
  refine r_aload_n (j := 0) C 5 dX4_rounding_4 rfl rfl ?_
  refine r_cVV (as := []) (S := []) C r.px 8 (ct_X4_settle  _ _ _ h) dX4_rounding_5 rfl cl6 kd_0 wd_0 wd_411 rfl wd_409 wd_412 wd_90 yd_X4_settle ⟨Nat.le_of_ble_eq_true rfl, Nat.le_of_ble_eq_true rfl⟩ (Nat.le_of_ble_eq_true rfl) (by decide) (fun σ5 h => ?_)
  refine r_aload_n (j := 0) C 9 dX4_rounding_8 rfl rfl ?_
  refine r_get (k := 5) C cl6 12 dX4_rounding_9 rfl kd_0 (by decide) wd_363 (.ref 53) (fun _ => rfl) ?_
  refine r_get (k := 9) C cl4 15 dX4_rounding_12 rfl kd_53 (by decide) wd_290 (.ref 63) (fun _ => rfl) ?_
  refine r_iload_n (j := 1) C 16 dX4_rounding_15 rfl rfl ?_
  obtain ⟨o16, h⟩ := h
  refine r_lald C 17 dX4_rounding_16 rfl kd_63 o16 ?_
  exact r_lret (S := []) C r dX4_rounding_17 (by decide) h
theorem ct_X4_rounding (p0 : Int32) (σ : Mem) (K : Int64 → Mem → Prop) (X : String → Mem → Prop) (h : sp_X4_rounding p0 σ K X) : CtL yX4_rounding cX4_rounding 2 (some .long) 9 1 [.ref 0, .int p0] σ K X := by
  have h := h
  exact ctL_of (by decide +kernel) (Nat.le_of_ble_eq_true rfl) (fun x C r => sg_X4_rounding_0 C r p0  σ h)
/-! HeatNetwork.station(II)I: level 9, exceptions 2 -/
def sp_X4_station (p0 : Int32) (p1 : Int32) (σ : Mem) (K : Int32 → Mem → Prop) (X : String → Mem → Prop) : Prop := (sp_X4_needStation p0 σ (fun σ2 => sp_X4_needRange p1 0 7 σ2 (fun σ9 => (p1 = 0 → (vp_in p0 10) ∧ (K (σ9.1 7 p0.toNatClampNeg) σ9)) ∧ (p1 = 1 → (vp_in p0 10) ∧ (K (σ9.1 8 p0.toNatClampNeg) σ9)) ∧ (p1 = 2 → (vp_in p0 10) ∧ (K (σ9.1 9 p0.toNatClampNeg) σ9)) ∧ (p1 = 3 → (vp_in p0 10) ∧ (K (σ9.1 10 p0.toNatClampNeg) σ9)) ∧ (p1 = 4 → (vp_in p0 10) ∧ (K (σ9.1 11 p0.toNatClampNeg) σ9)) ∧ (p1 = 5 → sp_X0_wantedHeat 1 p0 σ9 (fun r111 σ111 => K r111 σ111) X) ∧ (p1 = 6 → sp_X4_settle  σ9 (fun σ116 => (vp_in p0 10) ∧ (K (σ116.1 54 p0.toNatClampNeg) σ116)) X) ∧ (¬ p1 = 0 → ¬ p1 = 1 → ¬ p1 = 2 → ¬ p1 = 3 → ¬ p1 = 4 → ¬ p1 = 5 → ¬ p1 = 6 → sp_X0_tariffOf 1 p0 σ9 (fun r134 σ134 => K r134 σ134) X)) X) X)
set_option maxRecDepth 4000 in
theorem sg_X4_station_0 {x : Ctx} {K : Int32 → Mem → Prop} {X : String → Mem → Prop} (C : Cx x RX4 cX4_station 3) (r : RtI x 9 2 (some .int) K X) (p0 : Int32) (p1 : Int32)  (σ : Mem) (h : sp_X4_needStation p0 σ (fun σ2 => sp_X4_needRange p1 0 7 σ2 (fun σ9 => (p1 = 0 → (vp_in p0 10) ∧ (K (σ9.1 7 p0.toNatClampNeg) σ9)) ∧ (p1 = 1 → (vp_in p0 10) ∧ (K (σ9.1 8 p0.toNatClampNeg) σ9)) ∧ (p1 = 2 → (vp_in p0 10) ∧ (K (σ9.1 9 p0.toNatClampNeg) σ9)) ∧ (p1 = 3 → (vp_in p0 10) ∧ (K (σ9.1 10 p0.toNatClampNeg) σ9)) ∧ (p1 = 4 → (vp_in p0 10) ∧ (K (σ9.1 11 p0.toNatClampNeg) σ9)) ∧ (p1 = 5 → sp_X0_wantedHeat 1 p0 σ9 (fun r111 σ111 => K r111 σ111) X) ∧ (p1 = 6 → sp_X4_settle  σ9 (fun σ116 => (vp_in p0 10) ∧ (K (σ116.1 54 p0.toNatClampNeg) σ116)) X) ∧ (¬ p1 = 0 → ¬ p1 = 1 → ¬ p1 = 2 → ¬ p1 = 3 → ¬ p1 = 4 → ¬ p1 = 5 → ¬ p1 = 6 → sp_X0_tariffOf 1 p0 σ9 (fun r134 σ134 => K r134 σ134) X)) X) X) : Ws x 0 0 [(0, .ref 0), (1, .int p0), (2, .int p1)] [] σ := by
  refine r_aload_n (j := 0) C 1 dX4_station_0 rfl rfl ?_
  refine r_iload_n (j := 1) C 2 dX4_station_1 rfl rfl ?_
  refine r_cVV (as := [.int p0]) (S := []) C r.px 5 (ct_X4_needStation _ _ _ _ h) dX4_station_2 rfl cl6 kd_0 wd_28 wd_849 rfl wd_847 wd_850 wd_90 yd_X4_needStation ⟨Nat.le_of_ble_eq_true rfl, Nat.le_of_ble_eq_true rfl⟩ (Nat.le_of_ble_eq_true rfl) (by decide) (fun σ2 h => ?_)
  refine r_iload_n (j := 2) C 6 dX4_station_5 rfl rfl ?_
  refine r_iconst C 7 (v := 0) dX4_station_6 rfl (by decide) ?_
  refine r_bipush C 9 (v := 7) dX4_station_7 rfl (by decide) ?_
  refine r_cSV (b := 0) (as := [.int p1, .int 0, .int 7]) (S := []) C r.px 12 (ct_X4_needRange _ _ _ _ _ _ h) dX4_station_9 rfl wd_869 wd_868 wd_870 wd_90 yd_X4_needRange ⟨Nat.le_of_ble_eq_true rfl, Nat.le_of_ble_eq_true rfl⟩ (Nat.le_of_ble_eq_true rfl) (by decide) (fun σ9 h => ?_)
  refine r_iload_n (j := 2) C 13 dX4_station_12 rfl rfl ?_
  by_cases c13_0 : p1 = 0
  · have h := h.1 c13_0
    refine r_tblIn C 56 (off := 43) dX4_station_13 (by rw [c13_0]; decide) (by rw [c13_0]; decide) (by rw [c13_0] <;> rfl) (by decide) ?_
    refine r_aload_n (j := 0) C 57 dX4_station_56 rfl rfl ?_
    refine r_get (k := 0) C cl6 60 dX4_station_57 rfl kd_0 (by decide) wd_358 (.ref 1) (fun _ => rfl) ?_
    refine r_get (k := 6) C cl2 63 dX4_station_60 rfl kd_1 (by decide) wd_153 (.ref 7) (fun _ => rfl) ?_
    refine r_iload_n (j := 1) C 64 dX4_station_63 rfl rfl ?_
    obtain ⟨o64, h⟩ := h
    refine r_iald C 65 dX4_station_64 rfl kd_7 o64 ?_
    exact r_iret (S := []) C r dX4_station_65 (by decide) rfl h
  by_cases c13_1 : p1 = 1
  · have h := h.2.1 c13_1
    refine r_tblIn C 66 (off := 53) dX4_station_13 (by rw [c13_1]; decide) (by rw [c13_1]; decide) (by rw [c13_1] <;> rfl) (by decide) ?_
    refine r_aload_n (j := 0) C 67 dX4_station_66 rfl rfl ?_
    refine r_get (k := 0) C cl6 70 dX4_station_67 rfl kd_0 (by decide) wd_358 (.ref 1) (fun _ => rfl) ?_
    refine r_get (k := 7) C cl2 73 dX4_station_70 rfl kd_1 (by decide) wd_156 (.ref 8) (fun _ => rfl) ?_
    refine r_iload_n (j := 1) C 74 dX4_station_73 rfl rfl ?_
    obtain ⟨o74, h⟩ := h
    refine r_iald C 75 dX4_station_74 rfl kd_8 o74 ?_
    exact r_iret (S := []) C r dX4_station_75 (by decide) rfl h
  by_cases c13_2 : p1 = 2
  · have h := h.2.2.1 c13_2
    refine r_tblIn C 76 (off := 63) dX4_station_13 (by rw [c13_2]; decide) (by rw [c13_2]; decide) (by rw [c13_2] <;> rfl) (by decide) ?_
    refine r_aload_n (j := 0) C 77 dX4_station_76 rfl rfl ?_
    refine r_get (k := 0) C cl6 80 dX4_station_77 rfl kd_0 (by decide) wd_358 (.ref 1) (fun _ => rfl) ?_
    refine r_get (k := 8) C cl2 83 dX4_station_80 rfl kd_1 (by decide) wd_159 (.ref 9) (fun _ => rfl) ?_
    refine r_iload_n (j := 1) C 84 dX4_station_83 rfl rfl ?_
    obtain ⟨o84, h⟩ := h
    refine r_iald C 85 dX4_station_84 rfl kd_9 o84 ?_
    exact r_iret (S := []) C r dX4_station_85 (by decide) rfl h
  by_cases c13_3 : p1 = 3
  · have h := h.2.2.2.1 c13_3
    refine r_tblIn C 86 (off := 73) dX4_station_13 (by rw [c13_3]; decide) (by rw [c13_3]; decide) (by rw [c13_3] <;> rfl) (by decide) ?_
    refine r_aload_n (j := 0) C 87 dX4_station_86 rfl rfl ?_
    refine r_get (k := 0) C cl6 90 dX4_station_87 rfl kd_0 (by decide) wd_358 (.ref 1) (fun _ => rfl) ?_
    refine r_get (k := 9) C cl2 93 dX4_station_90 rfl kd_1 (by decide) wd_161 (.ref 10) (fun _ => rfl) ?_
    refine r_iload_n (j := 1) C 94 dX4_station_93 rfl rfl ?_
    obtain ⟨o94, h⟩ := h
    refine r_iald C 95 dX4_station_94 rfl kd_10 o94 ?_
    exact r_iret (S := []) C r dX4_station_95 (by decide) rfl h
  by_cases c13_4 : p1 = 4
  · have h := h.2.2.2.2.1 c13_4
    refine r_tblIn C 96 (off := 83) dX4_station_13 (by rw [c13_4]; decide) (by rw [c13_4]; decide) (by rw [c13_4] <;> rfl) (by decide) ?_
    refine r_aload_n (j := 0) C 97 dX4_station_96 rfl rfl ?_
    refine r_get (k := 0) C cl6 100 dX4_station_97 rfl kd_0 (by decide) wd_358 (.ref 1) (fun _ => rfl) ?_
    refine r_get (k := 10) C cl2 103 dX4_station_100 rfl kd_1 (by decide) wd_163 (.ref 11) (fun _ => rfl) ?_
    refine r_iload_n (j := 1) C 104 dX4_station_103 rfl rfl ?_
    obtain ⟨o104, h⟩ := h
    refine r_iald C 105 dX4_station_104 rfl kd_11 o104 ?_
    exact r_iret (S := []) C r dX4_station_105 (by decide) rfl h
  by_cases c13_5 : p1 = 5
  · have h := h.2.2.2.2.2.1 c13_5
    refine r_tblIn C 106 (off := 93) dX4_station_13 (by rw [c13_5]; decide) (by rw [c13_5]; decide) (by rw [c13_5] <;> rfl) (by decide) ?_
    refine r_aload_n (j := 0) C 107 dX4_station_106 rfl rfl ?_
    refine r_get (k := 0) C cl6 110 dX4_station_107 rfl kd_0 (by decide) wd_358 (.ref 1) (fun _ => rfl) ?_
    refine r_iload_n (j := 1) C 111 dX4_station_110 rfl rfl ?_
    refine r_cVI (as := [.int p0]) (S := []) C r.px 114 (ct_X0_wantedHeat _ _ _ _ _ h) dX4_station_111 rfl cl2 kd_1 wd_477 wd_476 rfl wd_1018 wd_478 wd_91 yd_X0_wantedHeat ⟨Nat.le_of_ble_eq_true rfl, Nat.le_of_ble_eq_true rfl⟩ (Nat.le_of_ble_eq_true rfl) (by decide) (fun r111 σ111 h => ?_)
    exact r_iret (S := []) C r dX4_station_114 (by decide) rfl h
  by_cases c13_6 : p1 = 6
  · have h := h.2.2.2.2.2.2.1 c13_6
    refine r_tblIn C 115 (off := 102) dX4_station_13 (by rw [c13_6]; decide) (by rw [c13_6]; decide) (by rw [c13_6] <;> rfl) (by decide) ?_
    refine r_aload_n (j := 0) C 116 dX4_station_115 rfl rfl ?_
    refine r_cVV (as := []) (S := []) C r.px 119 (ct_X4_settle  _ _ _ h) dX4_station_116 rfl cl6 kd_0 wd_0 wd_411 rfl wd_409 wd_412 wd_90 yd_X4_settle ⟨Nat.le_of_ble_eq_true rfl, Nat.le_of_ble_eq_true rfl⟩ (Nat.le_of_ble_eq_true rfl) (by decide) (fun σ116 h => ?_)
    refine r_aload_n (j := 0) C 120 dX4_station_119 rfl rfl ?_
    refine r_get (k := 5) C cl6 123 dX4_station_120 rfl kd_0 (by decide) wd_363 (.ref 53) (fun _ => rfl) ?_
    refine r_get (k := 0) C cl4 126 dX4_station_123 rfl kd_53 (by decide) wd_277 (.ref 54) (fun _ => rfl) ?_
    refine r_iload_n (j := 1) C 127 dX4_station_126 rfl rfl ?_
    obtain ⟨o127, h⟩ := h
    refine r_iald C 128 dX4_station_127 rfl kd_54 o127 ?_
    exact r_iret (S := []) C r dX4_station_128 (by decide) rfl h
  have h := h.2.2.2.2.2.2.2 c13_0 c13_1 c13_2 c13_3 c13_4 c13_5 c13_6
  refine r_tblOut C 129 dX4_station_13 (tsw_out 7 (by decide) (fun k hk => by
    match k, hk with
    | 0, _ => exact c13_0
    | 1, _ => exact c13_1
    | 2, _ => exact c13_2
    | 3, _ => exact c13_3
    | 4, _ => exact c13_4
    | 5, _ => exact c13_5
    | 6, _ => exact c13_6
    | k + 7, hk => exact absurd hk (by omega))) (by decide) ?_
  refine r_aload_n (j := 0) C 130 dX4_station_129 rfl rfl ?_
  refine r_get (k := 0) C cl6 133 dX4_station_130 rfl kd_0 (by decide) wd_358 (.ref 1) (fun _ => rfl) ?_
  refine r_iload_n (j := 1) C 134 dX4_station_133 rfl rfl ?_
  refine r_cVI (as := [.int p0]) (S := []) C r.px 137 (ct_X0_tariffOf _ _ _ _ _ h) dX4_station_134 rfl cl2 kd_1 wd_912 wd_911 rfl wd_1019 wd_913 wd_91 yd_X0_tariffOf ⟨Nat.le_of_ble_eq_true rfl, Nat.le_of_ble_eq_true rfl⟩ (Nat.le_of_ble_eq_true rfl) (by decide) (fun r134 σ134 h => ?_)
  exact r_iret (S := []) C r dX4_station_137 (by decide) rfl h
theorem ct_X4_station (p0 : Int32) (p1 : Int32) (σ : Mem) (K : Int32 → Mem → Prop) (X : String → Mem → Prop) (h : sp_X4_station p0 p1 σ K X) : CtI yX4_station cX4_station 3 (some .int) 9 2 [.ref 0, .int p0, .int p1] σ K X := by
  have h := h
  exact ctI_of (by decide +kernel) (Nat.le_of_ble_eq_true rfl) (fun x C r => sg_X4_station_0 C r p0 p1  σ h)
/-! HeatNetwork.temperature(IZ)I: level 9, exceptions 1 -/
def sp_X4_temperature (p0 : Int32) (p1 : Int32) (σ : Mem) (K : Int32 → Mem → Prop) (X : String → Mem → Prop) : Prop := (sp_X4_needNode p0 σ (fun σ1 => sp_X4_settle  σ1 (fun σ5 => (p1 = 0 → (vp_in p0 10) ∧ (K (σ5.1 59 p0.toNatClampNeg) σ5)) ∧ (¬ p1 = 0 → (vp_in p0 10) ∧ (K (σ5.1 60 p0.toNatClampNeg) σ5))) X) X)
set_option maxRecDepth 4000 in
theorem sg_X4_temperature_0 {x : Ctx} {K : Int32 → Mem → Prop} {X : String → Mem → Prop} (C : Cx x RX4 cX4_temperature 3) (r : RtI x 9 1 (some .int) K X) (p0 : Int32) (p1 : Int32)  (σ : Mem) (h : sp_X4_needNode p0 σ (fun σ1 => sp_X4_settle  σ1 (fun σ5 => (p1 = 0 → (vp_in p0 10) ∧ (K (σ5.1 59 p0.toNatClampNeg) σ5)) ∧ (¬ p1 = 0 → (vp_in p0 10) ∧ (K (σ5.1 60 p0.toNatClampNeg) σ5))) X) X) : Ws x 0 0 [(0, .ref 0), (1, .int p0), (2, .int p1)] [] σ := by
  refine r_iload_n (j := 1) C 1 dX4_temperature_0 rfl rfl ?_
  refine r_cSV (b := 0) (as := [.int p0]) (S := []) C r.px 4 (ct_X4_needNode _ _ _ _ h) dX4_temperature_1 rfl wd_1049 wd_1048 wd_1050 wd_90 yd_X4_needNode ⟨Nat.le_of_ble_eq_true rfl, Nat.le_of_ble_eq_true rfl⟩ (Nat.le_of_ble_eq_true rfl) (by decide) (fun σ1 h => ?_)
  refine r_aload_n (j := 0) C 5 dX4_temperature_4 rfl rfl ?_
  refine r_cVV (as := []) (S := []) C r.px 8 (ct_X4_settle  _ _ _ h) dX4_temperature_5 rfl cl6 kd_0 wd_0 wd_411 rfl wd_409 wd_412 wd_90 yd_X4_settle ⟨Nat.le_of_ble_eq_true rfl, Nat.le_of_ble_eq_true rfl⟩ (Nat.le_of_ble_eq_true rfl) (by decide) (fun σ5 h => ?_)
  refine r_iload_n (j := 2) C 9 dX4_temperature_8 rfl rfl ?_
  refine r_if_eq C 24 12 dX4_temperature_9 (by decide) rfl (fun c9 => ?_) (fun c9 => ?_)
  · have h := h.1 c9
    refine r_aload_n (j := 0) C 25 dX4_temperature_24 rfl rfl ?_
    refine r_get (k := 5) C cl6 28 dX4_temperature_25 rfl kd_0 (by decide) wd_363 (.ref 53) (fun _ => rfl) ?_
    refine r_get (k := 5) C cl4 31 dX4_temperature_28 rfl kd_53 (by decide) wd_284 (.ref 59) (fun _ => rfl) ?_
    refine r_iload_n (j := 1) C 32 dX4_temperature_31 rfl rfl ?_
    obtain ⟨o32, h⟩ := h
    refine r_iald C 33 dX4_temperature_32 rfl kd_59 o32 ?_
    exact r_iret (S := []) C r dX4_temperature_33 (by decide) rfl h
  · have h := h.2 c9
    refine r_aload_n (j := 0) C 13 dX4_temperature_12 rfl rfl ?_
    refine r_get (k := 5) C cl6 16 dX4_temperature_13 rfl kd_0 (by decide) wd_363 (.ref 53) (fun _ => rfl) ?_
    refine r_get (k := 6) C cl4 19 dX4_temperature_16 rfl kd_53 (by decide) wd_286 (.ref 60) (fun _ => rfl) ?_
    refine r_iload_n (j := 1) C 20 dX4_temperature_19 rfl rfl ?_
    obtain ⟨o20, h⟩ := h
    refine r_iald C 21 dX4_temperature_20 rfl kd_60 o20 ?_
    refine r_goto C 33 dX4_temperature_21 (by decide) ?_
    exact r_iret (S := []) C r dX4_temperature_33 (by decide) rfl h
theorem ct_X4_temperature (p0 : Int32) (p1 : Int32) (σ : Mem) (K : Int32 → Mem → Prop) (X : String → Mem → Prop) (h : sp_X4_temperature p0 p1 σ K X) : CtI yX4_temperature cX4_temperature 3 (some .int) 9 1 [.ref 0, .int p0, .int p1] σ K X := by
  have h := h
  exact ctI_of (by decide +kernel) (Nat.le_of_ble_eq_true rfl) (fun x C r => sg_X4_temperature_0 C r p0 p1  σ h)
/-! HeatNetwork.trial(II)J: level 9, exceptions 2 -/
def sp_X4_trial (p0 : Int32) (p1 : Int32) (σ : Mem) (K : Int64 → Mem → Prop) (X : String → Mem → Prop) : Prop := (sp_X4_needStation p0 σ (fun σ2 => sp_X4_needRange p1 200 600 σ2 (fun σ12 => sp_X4_settle  σ12 (fun σ16 => sp_X4_tryReturn p0 p1 σ16 (fun σ22 => sp_X2_madeHeat 66 29 σ22 (fun r33 σ33 => K r33 σ33) X) X) X) X) X)
set_option maxRecDepth 4000 in
theorem sg_X4_trial_0 {x : Ctx} {K : Int64 → Mem → Prop} {X : String → Mem → Prop} (C : Cx x RX4 cX4_trial 3) (r : RtL x 9 2 (some .long) K X) (p0 : Int32) (p1 : Int32)  (σ : Mem) (h : sp_X4_needStation p0 σ (fun σ2 => sp_X4_needRange p1 200 600 σ2 (fun σ12 => sp_X4_settle  σ12 (fun σ16 => sp_X4_tryReturn p0 p1 σ16 (fun σ22 => sp_X2_madeHeat 66 29 σ22 (fun r33 σ33 => K r33 σ33) X) X) X) X) X) : Ws x 0 0 [(0, .ref 0), (1, .int p0), (2, .int p1)] [] σ := by
  refine r_aload_n (j := 0) C 1 dX4_trial_0 rfl rfl ?_
  refine r_iload_n (j := 1) C 2 dX4_trial_1 rfl rfl ?_
  refine r_cVV (as := [.int p0]) (S := []) C r.px 5 (ct_X4_needStation _ _ _ _ h) dX4_trial_2 rfl cl6 kd_0 wd_28 wd_849 rfl wd_847 wd_850 wd_90 yd_X4_needStation ⟨Nat.le_of_ble_eq_true rfl, Nat.le_of_ble_eq_true rfl⟩ (Nat.le_of_ble_eq_true rfl) (by decide) (fun σ2 h => ?_)
  refine r_iload_n (j := 2) C 6 dX4_trial_5 rfl rfl ?_
  refine r_sipush C 9 (v := 200) dX4_trial_6 rfl (by decide) ?_
  refine r_sipush C 12 (v := 600) dX4_trial_9 rfl (by decide) ?_
  refine r_cSV (b := 0) (as := [.int p1, .int 200, .int 600]) (S := []) C r.px 15 (ct_X4_needRange _ _ _ _ _ _ h) dX4_trial_12 rfl wd_869 wd_868 wd_870 wd_90 yd_X4_needRange ⟨Nat.le_of_ble_eq_true rfl, Nat.le_of_ble_eq_true rfl⟩ (Nat.le_of_ble_eq_true rfl) (by decide) (fun σ12 h => ?_)
  refine r_aload_n (j := 0) C 16 dX4_trial_15 rfl rfl ?_
  refine r_cVV (as := []) (S := []) C r.px 19 (ct_X4_settle  _ _ _ h) dX4_trial_16 rfl cl6 kd_0 wd_0 wd_411 rfl wd_409 wd_412 wd_90 yd_X4_settle ⟨Nat.le_of_ble_eq_true rfl, Nat.le_of_ble_eq_true rfl⟩ (Nat.le_of_ble_eq_true rfl) (by decide) (fun σ16 h => ?_)
  refine r_aload_n (j := 0) C 20 dX4_trial_19 rfl rfl ?_
  refine r_iload_n (j := 1) C 21 dX4_trial_20 rfl rfl ?_
  refine r_iload_n (j := 2) C 22 dX4_trial_21 rfl rfl ?_
  refine r_cVV (as := [.int p0, .int p1]) (S := []) C r.px 25 (ct_X4_tryReturn _ _ _ _ _ h) dX4_trial_22 rfl cl6 kd_0 wd_39 wd_1138 rfl wd_1136 wd_1139 wd_90 yd_X4_tryReturn ⟨Nat.le_of_ble_eq_true rfl, Nat.le_of_ble_eq_true rfl⟩ (Nat.le_of_ble_eq_true rfl) (by decide) (fun σ22 h => ?_)
  refine r_aload_n (j := 0) C 26 dX4_trial_25 rfl rfl ?_
  refine r_get (k := 6) C cl6 29 dX4_trial_26 rfl kd_0 (by decide) wd_364 (.ref 66) (fun _ => rfl) ?_
  refine r_aload_n (j := 0) C 30 dX4_trial_29 rfl rfl ?_
  refine r_get (k := 2) C cl6 33 dX4_trial_30 rfl kd_0 (by decide) wd_360 (.ref 29) (fun _ => rfl) ?_
  refine r_cVL (as := [.ref 29]) (S := []) C r.px 36 (ct_X2_madeHeat _ _ _ _ _ h) dX4_trial_33 rfl cl4 kd_66 wd_919 wd_918 rfl wd_917 wd_920 wd_93 yd_X2_madeHeat ⟨Nat.le_of_ble_eq_true rfl, Nat.le_of_ble_eq_true rfl⟩ (Nat.le_of_ble_eq_true rfl) (by decide) (fun r33 σ33 h => ?_)
  exact r_lret (S := []) C r dX4_trial_36 (by decide) h
theorem ct_X4_trial (p0 : Int32) (p1 : Int32) (σ : Mem) (K : Int64 → Mem → Prop) (X : String → Mem → Prop) (h : sp_X4_trial p0 p1 σ K X) : CtL yX4_trial cX4_trial 3 (some .long) 9 2 [.ref 0, .int p0, .int p1] σ K X := by
  have h := h
  exact ctL_of (by decide +kernel) (Nat.le_of_ble_eq_true rfl) (fun x C r => sg_X4_trial_0 C r p0 p1  σ h)
