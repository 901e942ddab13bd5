/-! HeatNetwork.run()I: level 9, exceptions 1 -/
/-- the class's text has a fault -/
def RnF (v : Int32) (σ τ : Mem) : Prop := τ.1 0 12 = v ∧ τ.1 79 1 = 0 ∧ (∀ a k, a ≠ 79 → a ≠ 81 → a ≠ 82 → ¬ (a = 0 ∧ k = 12) → τ.1 a k = σ.1 a k) ∧ τ.2 = σ.2
/-- a definition is refused: the network stands as before -/
def RnX (e : Nat) (v : Int32) (w : Nat → Int32) (g : Gr) (u : Nat → Int64) (σ τ : Mem) : Prop := τ.1 0 12 = -1 ∧ τ.1 79 1 = 0 ∧ τ.1 0 13 = v ∧ τ.1 0 11 = 0 ∧ NS τ 1 w g u ∧ (∀ k, k = 8 ∨ k = 9 ∨ k = 10 → τ.1 0 k = σ.1 0 k) ∧ (∀ a k, (15 ≤ a ∧ a ≤ 28) ∨ (83 ≤ a ∧ a ≤ 208 ∧ (a < 83 + 14 * e ∨ 83 + 14 * e + 13 < a)) ∨ 209 ≤ a → τ.1 a k = σ.1 a k ∧ τ.2.1 a k = σ.2.1 a k)
/-- what changes while definitions are carried out -/
def ChL (σ τ : Mem) : Prop := (∀ a k, (14 < a ∧ a < 44) ∨ 65 < a ∨ (a = 0 ∧ k ≠ 11) → τ.1 a k = σ.1 a k) ∧ ∀ a k, a = 0 ∨ (14 < a ∧ a < 44) ∨ 65 < a → τ.2.1 a k = σ.2.1 a k
theorem ChL.trans {σ τ υ : Mem} (h : ChL σ τ) (k : ChL τ υ) : ChL σ υ := ⟨fun a j q => by rw [k.1 a j q, h.1 a j q], fun a j q => by rw [k.2 a j q, h.2 a j q]⟩
theorem ChO.l {σ τ : Mem} (h : ChO σ τ) : ChL σ τ := ⟨fun a k q => h.1 a k (by omega), fun a k q => h.2.1 a k (by omega)⟩
theorem ChS.l {σ τ : Mem} (h : ChS σ τ) : ChL σ τ := ⟨fun a k q => h.1 a k (by omega) (by omega), fun a k q => h.2.1 a k (by omega)⟩
def sp_X4_run (σ : Mem) (K : Int32 → Mem → Prop) (X : String → Mem → Prop) : Prop := ∃ (s : Nat → Nat) (m : Nat) (w : Nat → Int32) (g : Gr) (u : Nat → Int64) (e n : Nat), TxC s m σ ∧ WFw w g ∧ NS σ 1 w g u ∧ (¬ σ.1 0 11 = 0 → SettE w g σ) ∧ σ.1 0 8 = nI e ∧ e < 9 ∧ σ.1 0 9 = nI n ∧ n ≤ 8 ∧
  (∀ (j : Nat) (l : List Df) (τ : Mem), pT s m 20 0 [] = (false, j, l) → RnF (nI j) σ τ → X "java/lang/IllegalArgumentException" τ) ∧
  (∀ (l : List Df) (q : Nat) (w' : Nat → Int32) (g' : Gr) (u' : Nat → Int64) (τ : Mem), pT s m 20 0 [] = (true, m, l) → q ≠ 0 → q ≤ 7 → ExL l w g u q w' g' u' → RnX e (nI q) w g u σ τ → X "java/lang/UnsupportedOperationException" τ) ∧
  (∀ (l : List Df) (w' : Nat → Int32) (g' : Gr) (u' : Nat → Int64) (τ : Mem), pT s m 20 0 [] = (true, m, l) → ExL l w g u 0 w' g' u' → ClC w g u w' g' u' e n σ τ → τ.1 79 1 = 0 → τ.1 0 12 = -1 → τ.1 0 13 = σ.1 0 13 → K (nI l.length) τ)
set_option maxRecDepth 4000 in
theorem sg_X4_run_0 {x : Ctx} {K : Int32 → Mem → Prop} {X : String → Mem → Prop} (C : Cx x RX4 cX4_run 3) (r : RtI x 9 1 (some .int) K X)   (σ : Mem) (h : sp_X3_findFault  σ (fun r5 σ5 => ∀ σ8 : Mem, σ8 = wi σ5 0 12 r5 → ∀ σ16 : Mem, σ16 = wi σ8 79 1 0 → ((σ16.1 0 12) < 0 → sp_X4_beginChange  σ16 (fun σ37 => Ws x 0 44 [(0, .ref 0), (1, .int 0), (2, .int 0)] [] σ37) X) ∧ (¬ (σ16.1 0 12) < 0 → X "java/lang/IllegalArgumentException" σ16)) X) : Ws x 0 0 [(0, .ref 0)] [] σ := by
  refine r_aload_n (j := 0) C 1 dX4_run_0 rfl rfl ?_
  refine r_aload_n (j := 0) C 2 dX4_run_1 rfl rfl ?_
  refine r_get (k := 7) C cl6 5 dX4_run_2 rfl kd_0 (by decide) wd_365 (.ref 79) (fun _ => rfl) ?_
  refine r_cVI (as := []) (S := [.ref 0]) C r.px 8 (ct_X3_findFault  _ _ _ h) dX4_run_5 rfl cl5 kd_79 wd_959 wd_958 rfl wd_957 wd_960 wd_94 yd_X3_findFault ⟨Nat.le_of_ble_eq_true rfl, Nat.le_of_ble_eq_true rfl⟩ (Nat.le_of_ble_eq_true rfl) (by decide) (fun r5 σ5 h => ?_)
  refine r_putI (k := 12) C cl6 11 dX4_run_8 rfl kd_0 (by decide) wd_370 rfl rfl rfl rfl ?_
  refine r_nmS (fun σ8 e8 => ?_)
  have h := h σ8 e8
  refine r_aload_n (j := 0) C 12 dX4_run_11 rfl rfl ?_
  refine r_get (k := 7) C cl6 15 dX4_run_12 rfl kd_0 (by decide) wd_365 (.ref 79) (fun _ => rfl) ?_
  refine r_iconst C 16 (v := 0) dX4_run_15 rfl (by decide) ?_
  refine r_putI (k := 1) C cl5 19 dX4_run_16 rfl kd_79 (by decide) wd_337 rfl rfl rfl rfl ?_
  refine r_nmS (fun σ16 e16 => ?_)
  have h := h σ16 e16
  refine r_aload_n (j := 0) C 20 dX4_run_19 rfl rfl ?_
  refine r_get (k := 12) C cl6 23 dX4_run_20 rfl kd_0 (by decide) wd_370 (.int (σ16.1 0 12)) (fun _ => rfl) ?_
  refine r_if_lt C 36 26 dX4_run_23 (by decide) rfl (fun c23 => ?_) (fun c23 => ?_)
  · have h := h.1 c23
    refine r_aload_n (j := 0) C 37 dX4_run_36 rfl rfl ?_
    refine r_cVV (as := []) (S := []) C r.px 40 (ct_X4_beginChange  _ _ _ h) dX4_run_37 rfl cl6 kd_0 wd_24 wd_718 rfl wd_716 wd_719 wd_90 yd_X4_beginChange ⟨Nat.le_of_ble_eq_true rfl, Nat.le_of_ble_eq_true rfl⟩ (Nat.le_of_ble_eq_true rfl) (by decide) (fun σ37 h => ?_)
    refine r_iconst C 41 (v := 0) dX4_run_40 rfl (by decide) ?_
    refine r_istore_n C 42 [(1, .int 0), (0, .ref 0)] dX4_run_41 rfl (by decide) rfl ?_
    refine r_iconst C 43 (v := 0) dX4_run_42 rfl (by decide) ?_
    refine r_istore_n C 44 [(2, .int 0), (1, .int 0), (0, .ref 0)] dX4_run_43 rfl (by decide) rfl ?_
    exact Ws_pick [2, 1, 0] rfl h
  · have h := h.2 c23
    exact r_throw (own := "") (text := "the text has a fault") C r.px dX4_run_26 dX4_run_29 dX4_run_30 dX4_run_32 dX4_run_35 thIAE.1 thN wd_700 thIAE.2.1 (by decide) thIAE.2.2.1 thIAE.2.2.2.1 thIAE.2.2.2.2 (Nat.le_of_ble_eq_true rfl) (Nat.le_of_ble_eq_true rfl) (by decide) h
set_option maxRecDepth 4000 in
theorem sg_X4_run_44 {x : Ctx} {K : Int32 → Mem → Prop} {X : String → Mem → Prop} (C : Cx x RX4 cX4_run 3) (r : RtI x 9 1 (some .int) K X) (i1 : Int32) (i2 : Int32)  (σ : Mem) (h : ((σ.1 79 3) ≤ i2 → (i1 = 0 → sp_X4_refuseFor i1 σ (fun σ116 => sp_X4_endChange  σ116 (fun σ120 => K (σ120.1 79 3) σ120) X) X) ∧ (¬ i1 = 0 → (vp_in (σ.1 0 8) 9) ∧ (sp_X0_takeOver 1 (83 + 14 * ((σ.1 0 8)).toNatClampNeg) σ (fun σ106 => ∀ σ111 : Mem, σ111 = wi σ106 0 11 0 → sp_X4_refuseFor i1 σ111 (fun σ116 => sp_X4_endChange  σ116 (fun σ120 => K (σ120.1 79 3) σ120) X) X) X))) ∧ (¬ (σ.1 79 3) ≤ i2 → (¬ i1 = 0 → (i1 = 0 → sp_X4_refuseFor i1 σ (fun σ116 => sp_X4_endChange  σ116 (fun σ120 => K (σ120.1 79 3) σ120) X) X) ∧ (¬ i1 = 0 → (vp_in (σ.1 0 8) 9) ∧ (sp_X0_takeOver 1 (83 + 14 * ((σ.1 0 8)).toNatClampNeg) σ (fun σ106 => ∀ σ111 : Mem, σ111 = wi σ106 0 11 0 → sp_X4_refuseFor i1 σ111 (fun σ116 => sp_X4_endChange  σ116 (fun σ120 => K (σ120.1 79 3) σ120) X) X) X))) ∧ (i1 = 0 → (vp_in i2 20) ∧ ((¬ (σ.1 81 i2.toNatClampNeg) = 104 → sp_X4_carryOut i2 σ (fun r79 σ79 => ∀ v83 : Int32, v83 = i2 + 1 → Ws x 0 44 [(0, .ref 0), (1, .int r79), (2, .int v83)] [] σ79) X) ∧ ((σ.1 81 i2.toNatClampNeg) = 104 → sp_X4_settle  σ (fun σ74 => sp_X4_carryOut i2 σ74 (fun r79 σ79 => ∀ v83 : Int32, v83 = i2 + 1 → Ws x 0 44 [(0, .ref 0), (1, .int r79), (2, .int v83)] [] σ79) X) X))))) : Ws x 0 44 [(0, .ref 0), (1, .int i1), (2, .int i2)] [] σ := by
  refine r_iload_n (j := 2) C 45 dX4_run_44 rfl rfl ?_
  refine r_aload_n (j := 0) C 46 dX4_run_45 rfl rfl ?_
  refine r_get (k := 7) C cl6 49 dX4_run_46 rfl kd_0 (by decide) wd_365 (.ref 79) (fun _ => rfl) ?_
  refine r_get (k := 3) C cl5 52 dX4_run_49 rfl kd_79 (by decide) wd_340 (.int (σ.1 79 3)) (fun _ => rfl) ?_
  refine r_icmp_ge C 89 55 dX4_run_52 (by decide) rfl (fun c52 => ?_) (fun c52 => ?_)
  · have h := h.1 c52
    refine r_iload_n (j := 1) C 90 dX4_run_89 rfl rfl ?_
    refine r_if_eq C 114 93 dX4_run_90 (by decide) rfl (fun c90 => ?_) (fun c90 => ?_)
    · have h := h.1 c90
      refine r_aload_n (j := 0) C 115 dX4_run_114 rfl rfl ?_
      refine r_iload_n (j := 1) C 116 dX4_run_115 rfl rfl ?_
      refine r_cVV (as := [.int i1]) (S := []) C r.px 119 (ct_X4_refuseFor _ _ _ _ h) dX4_run_116 rfl cl6 kd_0 wd_26 wd_766 rfl wd_764 wd_767 wd_90 yd_X4_refuseFor ⟨Nat.le_of_ble_eq_true rfl, Nat.le_of_ble_eq_true rfl⟩ (Nat.le_of_ble_eq_true rfl) (by decide) (fun σ116 h => ?_)
      refine r_aload_n (j := 0) C 120 dX4_run_119 rfl rfl ?_
      refine r_cVV (as := []) (S := []) C r.px 123 (ct_X4_endChange  _ _ _ h) dX4_run_120 rfl cl6 kd_0 wd_25 wd_722 rfl wd_720 wd_723 wd_90 yd_X4_endChange ⟨Nat.le_of_ble_eq_true rfl, Nat.le_of_ble_eq_true rfl⟩ (Nat.le_of_ble_eq_true rfl) (by decide) (fun σ120 h => ?_)
      refine r_aload_n (j := 0) C 124 dX4_run_123 rfl rfl ?_
      refine r_get (k := 7) C cl6 127 dX4_run_124 rfl kd_0 (by decide) wd_365 (.ref 79) (fun _ => rfl) ?_
      refine r_get (k := 3) C cl5 130 dX4_run_127 rfl kd_79 (by decide) wd_340 (.int (σ120.1 79 3)) (fun _ => rfl) ?_
      exact r_iret (S := []) C r dX4_run_130 (by decide) rfl h
    · have h := h.2 c90
      refine r_aload_n (j := 0) C 94 dX4_run_93 rfl rfl ?_
      refine r_get (k := 0) C cl6 97 dX4_run_94 rfl kd_0 (by decide) wd_358 (.ref 1) (fun _ => rfl) ?_
      refine r_aload_n (j := 0) C 98 dX4_run_97 rfl rfl ?_
      refine r_get (k := 3) C cl6 101 dX4_run_98 rfl kd_0 (by decide) wd_361 (.ref 43) (fun _ => rfl) ?_
      refine r_aload_n (j := 0) C 102 dX4_run_101 rfl rfl ?_
      refine r_get (k := 8) C cl6 105 dX4_run_102 rfl kd_0 (by decide) wd_366 (.int (σ.1 0 8)) (fun _ => rfl) ?_
      obtain ⟨o105, h⟩ := h
      refine r_aald C 106 dX4_run_105 rfl kd_43 o105 ?_
      refine r_cVV (as := [.ref (83 + 14 * ((σ.1 0 8)).toNatClampNeg)]) (S := []) C r.px 109 (ct_X0_takeOver _ _ _ _ _ h) dX4_run_106 rfl cl2 kd_1 wd_589 wd_588 rfl wd_587 wd_590 wd_91 yd_X0_takeOver ⟨Nat.le_of_ble_eq_true rfl, Nat.le_of_ble_eq_true rfl⟩ (Nat.le_of_ble_eq_true rfl) (by decide) (fun σ106 h => ?_)
      refine r_aload_n (j := 0) C 110 dX4_run_109 rfl rfl ?_
      refine r_iconst C 111 (v := 0) dX4_run_110 rfl (by decide) ?_
      refine r_putI (k := 11) C cl6 114 dX4_run_111 rfl kd_0 (by decide) wd_369 rfl rfl rfl rfl ?_
      refine r_nmS (fun σ111 e111 => ?_)
      have h := h σ111 e111
      refine r_aload_n (j := 0) C 115 dX4_run_114 rfl rfl ?_
      refine r_iload_n (j := 1) C 116 dX4_run_115 rfl rfl ?_
      refine r_cVV (as := [.int i1]) (S := []) C r.px 119 (ct_X4_refuseFor _ _ _ _ h) dX4_run_116 rfl cl6 kd_0 wd_26 wd_766 rfl wd_764 wd_767 wd_90 yd_X4_refuseFor ⟨Nat.le_of_ble_eq_true rfl, Nat.le_of_ble_eq_true rfl⟩ (Nat.le_of_ble_eq_true rfl) (by decide) (fun σ116 h => ?_)
      refine r_aload_n (j := 0) C 120 dX4_run_119 rfl rfl ?_
      refine r_cVV (as := []) (S := []) C r.px 123 (ct_X4_endChange  _ _ _ h) dX4_run_120 rfl cl6 kd_0 wd_25 wd_722 rfl wd_720 wd_723 wd_90 yd_X4_endChange ⟨Nat.le_of_ble_eq_true rfl, Nat.le_of_ble_eq_true rfl⟩ (Nat.le_of_ble_eq_true rfl) (by decide) (fun σ120 h => ?_)
      refine r_aload_n (j := 0) C 124 dX4_run_123 rfl rfl ?_
      refine r_get (k := 7) C cl6 127 dX4_run_124 rfl kd_0 (by decide) wd_365 (.ref 79) (fun _ => rfl) ?_
      refine r_get (k := 3) C cl5 130 dX4_run_127 rfl kd_79 (by decide) wd_340 (.int (σ120.1 79 3)) (fun _ => rfl) ?_
      exact r_iret (S := []) C r dX4_run_130 (by decide) rfl h
  · have h := h.2 c52
    refine r_iload_n (j := 1) C 56 dX4_run_55 rfl rfl ?_
    refine r_if_ne C 89 59 dX4_run_56 (by decide) rfl (fun c56 => ?_) (fun c56 => ?_)
    · have h := h.1 c56
      refine r_iload_n (j := 1) C 90 dX4_run_89 rfl rfl ?_
      refine r_if_eq C 114 93 dX4_run_90 (by decide) rfl (fun c90 => ?_) (fun c90 => ?_)
      · have h := h.1 c90
        refine r_aload_n (j := 0) C 115 dX4_run_114 rfl rfl ?_
        refine r_iload_n (j := 1) C 116 dX4_run_115 rfl rfl ?_
        refine r_cVV (as := [.int i1]) (S := []) C r.px 119 (ct_X4_refuseFor _ _ _ _ h) dX4_run_116 rfl cl6 kd_0 wd_26 wd_766 rfl wd_764 wd_767 wd_90 yd_X4_refuseFor ⟨Nat.le_of_ble_eq_true rfl, Nat.le_of_ble_eq_true rfl⟩ (Nat.le_of_ble_eq_true rfl) (by decide) (fun σ116 h => ?_)
        refine r_aload_n (j := 0) C 120 dX4_run_119 rfl rfl ?_
        refine r_cVV (as := []) (S := []) C r.px 123 (ct_X4_endChange  _ _ _ h) dX4_run_120 rfl cl6 kd_0 wd_25 wd_722 rfl wd_720 wd_723 wd_90 yd_X4_endChange ⟨Nat.le_of_ble_eq_true rfl, Nat.le_of_ble_eq_true rfl⟩ (Nat.le_of_ble_eq_true rfl) (by decide) (fun σ120 h => ?_)
        refine r_aload_n (j := 0) C 124 dX4_run_123 rfl rfl ?_
        refine r_get (k := 7) C cl6 127 dX4_run_124 rfl kd_0 (by decide) wd_365 (.ref 79) (fun _ => rfl) ?_
        refine r_get (k := 3) C cl5 130 dX4_run_127 rfl kd_79 (by decide) wd_340 (.int (σ120.1 79 3)) (fun _ => rfl) ?_
        exact r_iret (S := []) C r dX4_run_130 (by decide) rfl h
      · have h := h.2 c90
        refine r_aload_n (j := 0) C 94 dX4_run_93 rfl rfl ?_
        refine r_get (k := 0) C cl6 97 dX4_run_94 rfl kd_0 (by decide) wd_358 (.ref 1) (fun _ => rfl) ?_
        refine r_aload_n (j := 0) C 98 dX4_run_97 rfl rfl ?_
        refine r_get (k := 3) C cl6 101 dX4_run_98 rfl kd_0 (by decide) wd_361 (.ref 43) (fun _ => rfl) ?_
        refine r_aload_n (j := 0) C 102 dX4_run_101 rfl rfl ?_
        refine r_get (k := 8) C cl6 105 dX4_run_102 rfl kd_0 (by decide) wd_366 (.int (σ.1 0 8)) (fun _ => rfl) ?_
        obtain ⟨o105, h⟩ := h
        refine r_aald C 106 dX4_run_105 rfl kd_43 o105 ?_
        refine r_cVV (as := [.ref (83 + 14 * ((σ.1 0 8)).toNatClampNeg)]) (S := []) C r.px 109 (ct_X0_takeOver _ _ _ _ _ h) dX4_run_106 rfl cl2 kd_1 wd_589 wd_588 rfl wd_587 wd_590 wd_91 yd_X0_takeOver ⟨Nat.le_of_ble_eq_true rfl, Nat.le_of_ble_eq_true rfl⟩ (Nat.le_of_ble_eq_true rfl) (by decide) (fun σ106 h => ?_)
        refine r_aload_n (j := 0) C 110 dX4_run_109 rfl rfl ?_
        refine r_iconst C 111 (v := 0) dX4_run_110 rfl (by decide) ?_
        refine r_putI (k := 11) C cl6 114 dX4_run_111 rfl kd_0 (by decide) wd_369 rfl rfl rfl rfl ?_
        refine r_nmS (fun σ111 e111 => ?_)
        have h := h σ111 e111
        refine r_aload_n (j := 0) C 115 dX4_run_114 rfl rfl ?_
        refine r_iload_n (j := 1) C 116 dX4_run_115 rfl rfl ?_
        refine r_cVV (as := [.int i1]) (S := []) C r.px 119 (ct_X4_refuseFor _ _ _ _ h) dX4_run_116 rfl cl6 kd_0 wd_26 wd_766 rfl wd_764 wd_767 wd_90 yd_X4_refuseFor ⟨Nat.le_of_ble_eq_true rfl, Nat.le_of_ble_eq_true rfl⟩ (Nat.le_of_ble_eq_true rfl) (by decide) (fun σ116 h => ?_)
        refine r_aload_n (j := 0) C 120 dX4_run_119 rfl rfl ?_
        refine r_cVV (as := []) (S := []) C r.px 123 (ct_X4_endChange  _ _ _ h) dX4_run_120 rfl cl6 kd_0 wd_25 wd_722 rfl wd_720 wd_723 wd_90 yd_X4_endChange ⟨Nat.le_of_ble_eq_true rfl, Nat.le_of_ble_eq_true rfl⟩ (Nat.le_of_ble_eq_true rfl) (by decide) (fun σ120 h => ?_)
        refine r_aload_n (j := 0) C 124 dX4_run_123 rfl rfl ?_
        refine r_get (k := 7) C cl6 127 dX4_run_124 rfl kd_0 (by decide) wd_365 (.ref 79) (fun _ => rfl) ?_
        refine r_get (k := 3) C cl5 130 dX4_run_127 rfl kd_79 (by decide) wd_340 (.int (σ120.1 79 3)) (fun _ => rfl) ?_
        exact r_iret (S := []) C r dX4_run_130 (by decide) rfl h
    · have h := h.2 c56
      refine r_aload_n (j := 0) C 60 dX4_run_59 rfl rfl ?_
      refine r_get (k := 7) C cl6 63 dX4_run_60 rfl kd_0 (by decide) wd_365 (.ref 79) (fun _ => rfl) ?_
      refine r_get (k := 4) C cl5 66 dX4_run_63 rfl kd_79 (by decide) wd_342 (.ref 81) (fun _ => rfl) ?_
      refine r_iload_n (j := 2) C 67 dX4_run_66 rfl rfl ?_
      obtain ⟨o67, h⟩ := h
      refine r_cald C 68 dX4_run_67 rfl kd_81 o67 ?_
      refine r_bipush C 70 (v := 104) dX4_run_68 rfl (by decide) ?_
      refine r_icmp_ne C 77 73 dX4_run_70 (by decide) rfl (fun c70 => ?_) (fun c70 => ?_)
      · have h := h.1 c70
        refine r_aload_n (j := 0) C 78 dX4_run_77 rfl rfl ?_
        refine r_iload_n (j := 2) C 79 dX4_run_78 rfl rfl ?_
        refine r_cVI (as := [.int i2]) (S := []) C r.px 82 (ct_X4_carryOut _ _ _ _ h) dX4_run_79 rfl cl6 kd_0 wd_36 wd_989 rfl wd_987 wd_990 wd_90 yd_X4_carryOut ⟨Nat.le_of_ble_eq_true rfl, Nat.le_of_ble_eq_true rfl⟩ (Nat.le_of_ble_eq_true rfl) (by decide) (fun r79 σ79 h => ?_)
        refine r_istore_n C 83 [(1, .int r79), (0, .ref 0), (2, .int i2)] dX4_run_82 rfl (by decide) rfl ?_
        obtain ⟨v83, e83⟩ : ∃ y : Int32, y = i2 + 1 := ⟨_, rfl⟩
        have h := h v83 e83
        refine r_iinc (j := 2) C 86 [(2, .int v83), (1, .int r79), (0, .ref 0)] dX4_run_83 rfl rfl (by rw [e83]; rfl) (by decide) rfl ?_
        refine r_goto C 44 dX4_run_86 (by decide) ?_
        exact Ws_pick [2, 1, 0] rfl h
      · have h := h.2 c70
        refine r_aload_n (j := 0) C 74 dX4_run_73 rfl rfl ?_
        refine r_cVV (as := []) (S := []) C r.px 77 (ct_X4_settle  _ _ _ h) dX4_run_74 rfl cl6 kd_0 wd_0 wd_411 rfl wd_409 wd_412 wd_90 yd_X4_settle ⟨Nat.le_of_ble_eq_true rfl, Nat.le_of_ble_eq_true rfl⟩ (Nat.le_of_ble_eq_true rfl) (by decide) (fun σ74 h => ?_)
        refine r_aload_n (j := 0) C 78 dX4_run_77 rfl rfl ?_
        refine r_iload_n (j := 2) C 79 dX4_run_78 rfl rfl ?_
        refine r_cVI (as := [.int i2]) (S := []) C r.px 82 (ct_X4_carryOut _ _ _ _ h) dX4_run_79 rfl cl6 kd_0 wd_36 wd_989 rfl wd_987 wd_990 wd_90 yd_X4_carryOut ⟨Nat.le_of_ble_eq_true rfl, Nat.le_of_ble_eq_true rfl⟩ (Nat.le_of_ble_eq_true rfl) (by decide) (fun r79 σ79 h => ?_)
        refine r_istore_n C 83 [(1, .int r79), (0, .ref 0), (2, .int i2)] dX4_run_82 rfl (by decide) rfl ?_
        obtain ⟨v83, e83⟩ : ∃ y : Int32, y = i2 + 1 := ⟨_, rfl⟩
        have h := h v83 e83
        refine r_iinc (j := 2) C 86 [(2, .int v83), (1, .int r79), (0, .ref 0)] dX4_run_83 rfl rfl (by rw [e83]; rfl) (by decide) rfl ?_
        refine r_goto C 44 dX4_run_86 (by decide) ?_
        exact Ws_pick [2, 1, 0] rfl h
theorem vc_X4_run {x : Ctx} {K : Int32 → Mem → Prop} {X : String → Mem → Prop} (C : Cx x RX4 cX4_run 3) (r : RtI x 9 1 (some .int) K X) (σ : Mem) (h : sp_X4_run σ K X) : Ws x 0 0 [(0, .ref 0)] [] σ := by
  obtain ⟨s, m, w, g, u, e, n, hT, hw, hN, hS, h8, he, h9, hn, hX1, hX2, hK⟩ := h
  have hg := hw.2.1.1
  have h60 := hT.1
  refine sg_X4_run_0 C r σ ⟨s, m, hT, fun τ j l hp hj hT' hF σ8 e8 σ16 e16 => ⟨fun c => ?_, fun _ => hX1 j l σ16 hp ⟨?_, ?_, fun a k q1 q2 q3 q4 => ?_, ?_⟩⟩, fun τ l hp hlen hT' hF hD h3 σ8 e8 σ16 e16 => ⟨fun _ => ?_, fun c => ?_⟩⟩
  · rw [e16, wi_i, if_neg (by omega), e8, wi_at] at c
    exact absurd c (nI_pos (by omega))
  · rw [e16, wi_i, if_neg (by omega), e8, wi_at]
  · rw [e16, wi_at]
  · rw [e16, wi_i, if_neg (by omega), e8, wi_i, if_neg q4]; exact hF.1 a k (by omega) (by omega) (by omega)
  · rw [e16]; show σ8.2 = _; rw [e8]; exact hF.2
  · -- no fault
    have s16 : ∀ a k, a ≠ 79 → a ≠ 81 → a ≠ 82 → ¬ (a = 0 ∧ k = 12) → σ16.1 a k = σ.1 a k := fun a k q1 q2 q3 q4 => by
      rw [e16, wi_i, if_neg (by omega), e8, wi_i, if_neg q4]; exact hF.1 a k (by omega) (by omega) (by omega)
    have l16 : σ16.2 = σ.2 := by rw [e16]; show σ8.2 = _; rw [e8]; exact hF.2
    have t16 : σ16.1 79 1 = 0 := by rw [e16, wi_at]
    have f16 : σ16.1 0 12 = -1 := by rw [e16, wi_i, if_neg (by omega), e8, wi_at]
    refine i_begin he (by rw [s16 0 8 (by omega) (by omega) (by omega) (by omega)]; exact h8) (fun γ hTk => ?_)
    have cγ : ∀ a k, a < 83 + 14 * e ∨ 83 + 14 * e + 13 < a → γ.1 a k = σ16.1 a k ∧ γ.2.1 a k = σ16.2.1 a k := fun a k q => hTk.1 a k q
    have hN16 : NS σ16 1 w g u := hN.fr (fun o k ho => s16 _ k (by omega) (by omega) (by omega) (by omega)) (fun o k ho => by rw [l16])
    have hNγ : NS γ 1 w g u := hN16.fr (fun o k ho => (cγ _ k (by omega)).1) (fun o k ho => (cγ _ k (by omega)).2)
    have hNe : NS γ (83 + 14 * e) w g u := hN16.tk hg hTk
    have hSγ : ¬ γ.1 0 11 = 0 → SettE w g γ := fun q => by
      have e11 : γ.1 0 11 = σ.1 0 11 := by rw [(cγ 0 11 (by omega)).1, s16 _ _ (by omega) (by omega) (by omega) (by omega)]
      exact (hS (by rw [← e11]; exact q)).fs ⟨e11, fun a k p q => by rw [(cγ a k (by omega)).1, s16 _ _ (by omega) (by omega) (by omega) (by omega)], fun a k p q => by rw [(cγ a k (by omega)).2, l16]⟩
    have d16 : ∀ a k, a = 81 ∨ a = 82 ∨ (a = 79 ∧ k = 3) → γ.1 a k = τ.1 a k := fun a k q => by
      rw [(cγ a k (by omega)).1, e16, wi_i, if_neg (by omega), e8, wi_i, if_neg (by omega)]
    have hDγ : DsC l γ := fun j d hj => by
      obtain ⟨a1, a2, a3⟩ := hD j d hj
      exact ⟨by rw [d16 81 j (by omega)]; exact a1, a2, fun y hy => ⟨(a3 y hy).1, by rw [d16 82 _ (by omega)]; exact (a3 y hy).2⟩⟩
    have h3γ : γ.1 79 3 = nI l.length := by rw [d16 79 3 (by omega)]; exact h3
    have ne0 : ∀ {k : Nat}, k ≤ 7 → (nI k = 0 ↔ k = 0) := fun hk => nI_eq (a := _) (b := 0) (by omega) (by decide)
    -- what stays as it was
    have out : ∀ {υ : Mem}, ChL γ υ → ∀ a k, (15 ≤ a ∧ a ≤ 28) ∨ (83 ≤ a ∧ a ≤ 208 ∧ (a < 83 + 14 * e ∨ 83 + 14 * e + 13 < a)) ∨ 209 ≤ a → υ.1 a k = σ.1 a k ∧ υ.2.1 a k = σ.2.1 a k := fun hC a k q => ⟨by rw [hC.1 a k (by omega), (cγ a k (by omega)).1, s16 _ _ (by omega) (by omega) (by omega) (by omega)], by rw [hC.2 a k (by omega), (cγ a k (by omega)).2, l16]⟩
    have o0 : ∀ {υ : Mem}, ChL γ υ → ∀ k, k ≠ 11 → k ≠ 12 → υ.1 0 k = σ.1 0 k := fun hC k q1 q2 => by rw [hC.1 0 k (by omega), (cγ 0 k (by omega)).1, s16 _ _ (by omega) (by omega) (by omega) (by omega)]
    have o12 : ∀ {υ : Mem}, ChL γ υ → υ.1 0 12 = -1 := fun hC => by rw [hC.1 0 12 (by omega), (cγ 0 12 (by omega)).1]; exact f16
    have o79 : ∀ {υ : Mem}, ChL γ υ → υ.1 79 1 = 0 := fun hC => by rw [hC.1 79 1 (by omega), (cγ 79 1 (by omega)).1]; exact t16
    have BAD : ∀ (υ : Mem) (q : Nat) (v : Int32) (w' : Nat → Int32) (g' : Gr) (u' : Nat → Int64), q ≠ 0 → q ≤ 7 → ExL l w g u q w' g' u' → ChL γ υ → Ws x 0 44 [(0, .ref 0), (1, .int (nI q)), (2, .int v)] [] υ := by
      intro υ q v w' g' u' q0 q7 hE hC
      have nz : ¬ nI q = 0 := fun z => q0 ((ne0 q7).mp z)
      have hR : ∀ Q : Mem → Prop, (vp_in (υ.1 0 8) 9) ∧ (sp_X0_takeOver 1 (83 + 14 * ((υ.1 0 8)).toNatClampNeg) υ (fun σ106 => ∀ σ111 : Mem, σ111 = wi σ106 0 11 0 → sp_X4_refuseFor (nI q) σ111 (fun σ116 => Q σ116) X) X) := by
        intro Q
        rw [o0 hC 8 (by decide) (by decide), h8, n_cl (by omega)]
        refine ⟨n_inR he (by decide), i_takeOver netA_1 (earl_netN e he) (.inl (by omega)) (fun ω hTk2 σ111 e111 => ⟨fun z => absurd z nz, fun _ σ6 e6 => ?_⟩)⟩
        have c1 : ∀ a k, ¬ (a = 0 ∧ k = 13) → ¬ (a = 0 ∧ k = 11) → σ6.1 a k = ω.1 a k := fun a k q1 q2 => by rw [e6, wi_i, if_neg q1, e111, wi_i, if_neg q2]
        have c2 : σ6.2 = ω.2 := by rw [e6]; show σ111.2 = _; rw [e111]; rfl
        have c3 : ∀ a k, a = 0 ∨ 14 < a → ω.1 a k = υ.1 a k ∧ ω.2.1 a k = υ.2.1 a k := fun a k q => hTk2.1 a k (by omega)
        have hNυ : NS υ (83 + 14 * e) w g u := hNe.fr (fun o k ho => hC.1 _ k (by omega)) (fun o k ho => hC.2 _ k (by omega))
        refine hX2 l q w' g' u' σ6 hp q0 q7 hE ⟨?_, ?_, ?_, ?_, ?_, fun k hk => ?_, fun a k hk => ⟨?_, ?_⟩⟩
        · rw [c1 0 12 (by omega) (by omega), (c3 0 12 (.inl rfl)).1]; exact o12 hC
        · rw [c1 79 1 (by omega) (by omega), (c3 79 1 (by omega)).1]; exact o79 hC
        · rw [e6, wi_at]
        · rw [e6, wi_i, if_neg (by omega), e111, wi_at]
        · exact (hNυ.tk hg hTk2).fr (fun o k ho => c1 _ k (by omega) (by omega)) (fun o k ho => by rw [c2])
        · rw [c1 0 k (by omega) (by omega), (c3 0 k (.inl rfl)).1]; exact o0 hC k (by omega) (by omega)
        · rw [c1 a k (by omega) (by omega), (c3 a k (by omega)).1]; exact (out hC a k hk).1
        · rw [c2, (c3 a k (by omega)).2]; exact (out hC a k hk).2
      exact sg_X4_run_44 C r _ _ υ ⟨fun _ => ⟨fun z => absurd z nz, fun _ => hR _⟩, fun _ => ⟨fun _ => ⟨fun z => absurd z nz, fun _ => hR _⟩, fun z => absurd z nz⟩⟩
    have H : ∀ (rest pre : List Df) (υ : Mem) (w1 : Nat → Int32) (g1 : Gr) (u1 : Nat → Int64), l = pre ++ rest → ChL γ υ → WFw w1 g1 → NS υ 1 w1 g1 u1 → (¬ υ.1 0 11 = 0 → SettE w1 g1 υ) → (∀ q w' g' u', ExL rest w1 g1 u1 q w' g' u' → ExL l w g u q w' g' u') → Ws x 0 44 [(0, .ref 0), (1, .int 0), (2, .int (nI pre.length))] [] υ := by
      intro rest
      induction rest with
      | nil =>
        intro pre υ w1 g1 u1 hl hC hw1 hN1 hS1 hE
        rw [List.append_nil] at hl
        have h3υ : υ.1 79 3 = nI l.length := by rw [hC.1 79 3 (by omega)]; exact h3γ
        refine sg_X4_run_44 C r _ _ υ ⟨fun _ => ⟨fun _ => ⟨fun _ => i_end he hn (by rw [o0 hC 8 (by decide) (by decide)]; exact h8) (by rw [o0 hC 9 (by decide) (by decide)]; exact h9) ?_, fun z => absurd rfl z⟩, fun z => absurd rfl z⟩, fun c => ?_⟩
        · have i1 : ∀ a k, a ≠ 0 → (enM υ e n).1 a k = υ.1 a k := fun a k q => by
            unfold enM; rw [wi_i, if_neg (by omega), wi_i, if_neg (by omega), wi_i, if_neg (by omega)]
          have i2 : ∀ a k, (enM υ e n).2.1 a k = υ.2.1 a k := fun a k => rfl
          have i3 : ∀ k, k ≠ 8 → k ≠ 9 → k ≠ 11 → (enM υ e n).1 0 k = υ.1 0 k := fun k q1 q2 q3 => by
            unfold enM; rw [wi_i, if_neg (by omega), wi_i, if_neg (by omega), wi_i, if_neg (by omega)]
          rw [i1 79 3 (by decide), h3υ]
          refine hK l w1 g1 u1 _ hp (hE 0 w1 g1 u1 ⟨rfl, rfl, rfl, rfl⟩) ⟨hw1, hN1.fr (fun o k ho => i1 _ k (by omega)) (fun o k ho => i2 _ k), (hNe.fr (τ := υ) (fun o k ho => hC.1 _ k (by omega)) (fun o k ho => hC.2 _ k (by omega))).fr (fun o k ho => i1 _ k (by omega)) (fun o k ho => i2 _ k), ?_, ?_, wi_at _ _ _ _, by rw [i3 10 (by decide) (by decide) (by decide)]; exact o0 hC 10 (by decide) (by decide), fun a k q => ?_⟩ ?_ ?_ ?_
          · unfold enM; rw [wi_i, if_neg (by omega), wi_i, if_neg (by omega), wi_at]
          · unfold enM; rw [wi_i, if_neg (by omega), wi_at]
          · rw [i1 a k (by omega), i2]; exact out hC a k q
          · rw [i1 79 1 (by decide)]; exact o79 hC
          · rw [i3 12 (by decide) (by decide) (by decide)]; exact o12 hC
          · rw [i3 13 (by decide) (by decide) (by decide)]; exact o0 hC 13 (by decide) (by decide)
        · rw [h3υ, hl] at c
          exact absurd (nI_le (Nat.le_refl _) (by rw [← hl]; omega)) c
      | cons d rest ih =>
        intro pre υ w1 g1 u1 hl hC hw1 hN1 hS1 hE
        have hlen2 : pre.length < l.length := by rw [hl]; simp
        have hget : l[pre.length]? = some d := by rw [hl]; simp
        obtain ⟨d1, d2, d3⟩ := hDγ pre.length d hget
        have hi20 : pre.length < 20 := by omega
        have c81 : ∀ {τ' : Mem}, ChL γ τ' → τ'.1 81 pre.length = nI d.1 ∧ ∀ y, (∃ k, k ≠ 0 ∧ (k, y) ∈ tkK d.1) → y < 4 ∧ τ'.1 82 (4 * pre.length + y) = d.2 y := fun hC' => ⟨by rw [hC'.1 81 _ (by omega)]; exact d1, fun y hy => ⟨(d3 y hy).1, by rw [hC'.1 82 _ (by omega)]; exact (d3 y hy).2⟩⟩
        have k200 : d.1 < 200 := by rcases d2 with z | z | z | z | z <;> omega
        have NX : ∀ (ω : Mem), ChL γ ω → NS ω 1 w1 g1 u1 → (d.1 = 104 → ¬ ω.1 0 11 = 0 ∧ ∃ c R D T B S z, Sett w1 g1 c R D T B S z ω) → sp_X4_carryOut (nI pre.length) ω (fun r79 σ79 => ∀ v83 : Int32, v83 = nI pre.length + 1 → Ws x 0 44 [(0, .ref 0), (1, .int r79), (2, .int v83)] [] σ79) X := by
          intro ω hCω hNω hSω
          refine i_carry hi20 hw1 hNω (c81 hCω).1 d2 (c81 hCω).2 hSω (fun τ' w2 g2 u2 hE2 hN2 hC2 hS2 v83 e83 => ?_) (fun q w2 g2 u2 q0 q7 hE2 v83 e83 => ?_)
          · rw [nI_1] at e83
            rw [e83]
            have := ih (pre ++ [d]) τ' w2 g2 u2 (by rw [hl]; simp) (hCω.trans hC2.l) (hE2.wf d2 hw1) hN2 hS2 (fun q w' g' u' hq => hE q w' g' u' (.inr ⟨w2, g2, u2, hE2, hq⟩))
            rw [List.length_append] at this
            exact this
          · exact BAD ω q v83 w2 g2 u2 q0 q7 (hE q w2 g2 u2 (.inl ⟨q0, hE2⟩)) hCω
        refine sg_X4_run_44 C r _ _ υ ⟨fun c => ?_, fun _ => ⟨fun z => absurd rfl z, fun _ => ⟨n_inR hi20 (by decide), ?_⟩⟩⟩
        · rw [hC.1 79 3 (by omega), h3γ] at c
          exact absurd c (nI_ge hlen2 (by omega))
        · rw [n_cl (by omega), (c81 hC).1]
          refine ⟨fun c => NX υ hC hN1 (fun z => absurd (by rw [z]; rfl) c), fun c => ?_⟩
          refine i_settle hw1 hN1.1 hS1 (fun τ1 c' R D T B S z hCh hSt h11 => ?_)
          exact NX τ1 (hC.trans hCh.l) (hN1.fr (fun o k ho => hCh.1 _ k (by omega) (by omega)) (fun o k ho => hCh.2.1 _ k (by omega))) (fun _ => ⟨h11, c', R, D, T, B, S, z, hSt⟩)
    exact H l [] γ w g u rfl ⟨fun _ _ _ => rfl, fun _ _ _ => rfl⟩ hw hNγ hSγ (fun q w' g' u' hq => hq)
  · rw [e16, wi_i, if_neg (by omega), e8, wi_at] at c
    exact absurd (by decide) c
theorem ct_X4_run  (σ : Mem) (K : Int32 → Mem → Prop) (X : String → Mem → Prop) (h : sp_X4_run  σ K X) : CtI yX4_run cX4_run 3 (some .int) 9 1 [.ref 0] σ K X :=
  ctI_of (by decide +kernel) (Nat.le_of_ble_eq_true rfl) (fun x C r => vc_X4_run C r  σ h)
