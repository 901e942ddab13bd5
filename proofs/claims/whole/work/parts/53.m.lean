/-! HeatNetworkModel.looks()V: level 6, exceptions 0 -/
def sp_X5_looks (σ : Mem) (K : Mem → Prop) (X : String → Mem → Prop) : Prop := ∃ (w : Nat → Int32) (g : Gr) (c : Lp) (R : Nat) (D T : Nat → Nat → Nat) (B S : Nat → Nat) (z : Int) (f : Nat → Int32), WFw w g ∧ (∀ k, k < 108 → σ.1 210 k = w k) ∧ LPo g (bfs g 0) c ∧ Hist w g c R D T ∧ LkB w g c (D R) B (T R) S z f ∧ ∀ τ : Mem, ChM σ τ → ReF w g c R (D R) B (T R) S z f τ → K τ
set_option maxRecDepth 4000 in
theorem sg_X5_looks_0 {x : Ctx} {K : Mem → Prop} {X : String → Mem → Prop} (C : Cx x RX5 cX5_looks 3) (r : RtV x 6 0 none K X)   (σ : Mem) (h : sp_X5_findsLoop  σ (fun σ1 => ∀ σ6 : Mem, σ6 = wi σ1 209 32 0 → Ws x 0 11 [(0, .ref 209), (1, .int 1)] [] σ6) X) : Ws x 0 0 [(0, .ref 209)] [] σ := by
  refine r_aload_n (j := 0) C 1 dX5_looks_0 rfl rfl ?_
  refine r_cVV (as := []) (S := []) C r.px 4 (ct_X5_findsLoop  _ _ _ h) dX5_looks_1 rfl cl7 kd_209 wd_57 wd_1432 rfl wd_1430 wd_1433 wd_95 yd_X5_findsLoop ⟨Nat.le_of_ble_eq_true rfl, Nat.le_of_ble_eq_true rfl⟩ (Nat.le_of_ble_eq_true rfl) (by decide) (fun σ1 h => ?_)
  refine r_aload_n (j := 0) C 5 dX5_looks_4 rfl rfl ?_
  refine r_iconst C 6 (v := 0) dX5_looks_5 rfl (by decide) ?_
  refine r_putI (k := 32) C cl7 9 dX5_looks_6 rfl kd_209 (by decide) wd_1244 rfl rfl rfl rfl ?_
  refine r_nmS (fun σ6 e6 => ?_)
  have h := h σ6 e6
  refine r_iconst C 10 (v := 1) dX5_looks_9 rfl (by decide) ?_
  refine r_istore_n C 11 [(1, .int 1), (0, .ref 209)] dX5_looks_10 rfl (by decide) rfl ?_
  exact Ws_pick [1, 0] rfl h
set_option maxRecDepth 4000 in
theorem sg_X5_looks_11 {x : Ctx} {K : Mem → Prop} {X : String → Mem → Prop} (C : Cx x RX5 cX5_looks 3) (r : RtV x 6 0 none K X) (i1 : Int32)  (σ : Mem) (h : (i1 = 0 → K σ) ∧ (¬ i1 = 0 → (12 ≤ (σ.1 209 32) → K σ) ∧ (¬ 12 ≤ (σ.1 209 32) → Ws x 0 26 [(0, .ref 209), (2, .int 0)] [] σ))) : Ws x 0 11 [(0, .ref 209), (1, .int i1)] [] σ := by
  refine r_iload_n (j := 1) C 12 dX5_looks_11 rfl rfl ?_
  refine r_if_eq C 166 15 dX5_looks_12 (by decide) rfl (fun c12 => ?_) (fun c12 => ?_)
  · have h := h.1 c12
    exact r_vret (S := []) C r dX5_looks_166 (by decide) h
  · have h := h.2 c12
    refine r_aload_n (j := 0) C 16 dX5_looks_15 rfl rfl ?_
    refine r_get (k := 32) C cl7 19 dX5_looks_16 rfl kd_209 (by decide) wd_1244 (.int (σ.1 209 32)) (fun _ => rfl) ?_
    refine r_bipush C 21 (v := 12) dX5_looks_19 rfl (by decide) ?_
    refine r_icmp_ge C 166 24 dX5_looks_21 (by decide) rfl (fun c21 => ?_) (fun c21 => ?_)
    · have h := h.1 c21
      exact r_vret (S := []) C r dX5_looks_166 (by decide) h
    · have h := h.2 c21
      refine r_iconst C 25 (v := 0) dX5_looks_24 rfl (by decide) ?_
      refine r_istore_n C 26 [(2, .int 0), (0, .ref 209), (1, .int i1)] dX5_looks_25 rfl (by decide) rfl ?_
      exact Ws_pick [1, 0] rfl h
set_option maxRecDepth 4000 in
theorem sg_X5_looks_26 {x : Ctx} {K : Mem → Prop} {X : String → Mem → Prop} (C : Cx x RX5 cX5_looks 3) (r : RtV x 6 0 none K X) (i2 : Int32)  (σ : Mem) (h : (10 ≤ i2 → (¬ (σ.1 209 32) = 0 → Ws x 0 110 [(0, .ref 209), (1, .int 0), (2, .int 0)] [] σ) ∧ ((σ.1 209 32) = 0 → Ws x 0 110 [(0, .ref 209), (1, .int 1), (2, .int 0)] [] σ)) ∧ (¬ 10 ≤ i2 → (vp_in i2 10) ∧ ((vp_in i2 10) ∧ (∀ σ43 : Mem, σ43 = wi σ 226 i2.toNatClampNeg (σ.1 225 i2.toNatClampNeg) → sp_X5_hasStation i2 σ43 (fun r51 σ51 => (r51 = 0 → (vp_in i2 10) ∧ (∀ σ88 : Mem, σ88 = wi σ51 225 i2.toNatClampNeg 0 → ∀ v89 : Int32, v89 = i2 + 1 → Ws x 0 26 [(0, .ref 209), (2, .int v89)] [] σ88)) ∧ (¬ r51 = 0 → (¬ (σ51.1 209 32) = 0 → (vp_in i2 10) ∧ (sp_X5_drawn i2 (σ51.1 229 i2.toNatClampNeg) σ51 (fun r81 σ81 => (vp_in i2 10) ∧ (∀ σ88 : Mem, σ88 = wi σ81 225 i2.toNatClampNeg r81 → ∀ v89 : Int32, v89 = i2 + 1 → Ws x 0 26 [(0, .ref 209), (2, .int v89)] [] σ88)) X)) ∧ ((σ51.1 209 32) = 0 → sp_X5_drawn i2 (σ51.1 210 0) σ51 (fun r81 σ81 => (vp_in i2 10) ∧ (∀ σ88 : Mem, σ88 = wi σ81 225 i2.toNatClampNeg r81 → ∀ v89 : Int32, v89 = i2 + 1 → Ws x 0 26 [(0, .ref 209), (2, .int v89)] [] σ88)) X))) X)))) : Ws x 0 26 [(0, .ref 209), (2, .int i2)] [] σ := by
  refine r_iload_n (j := 1) C 27 dX5_looks_26 rfl rfl ?_
  refine r_bipush C 29 (v := 10) dX5_looks_27 rfl (by decide) ?_
  refine r_icmp_ge C 95 32 dX5_looks_29 (by decide) rfl (fun c29 => ?_) (fun c29 => ?_)
  · have h := h.1 c29
    refine r_aload_n (j := 0) C 96 dX5_looks_95 rfl rfl ?_
    refine r_get (k := 32) C cl7 99 dX5_looks_96 rfl kd_209 (by decide) wd_1244 (.int (σ.1 209 32)) (fun _ => rfl) ?_
    refine r_if_ne C 106 102 dX5_looks_99 (by decide) rfl (fun c99 => ?_) (fun c99 => ?_)
    · have h := h.1 c99
      refine r_iconst C 107 (v := 0) dX5_looks_106 rfl (by decide) ?_
      refine r_istore_n C 108 [(1, .int 0), (0, .ref 209), (2, .int i2)] dX5_looks_107 rfl (by decide) rfl ?_
      refine r_iconst C 109 (v := 0) dX5_looks_108 rfl (by decide) ?_
      refine r_istore_n C 110 [(2, .int 0), (1, .int 0), (0, .ref 209)] dX5_looks_109 rfl (by decide) rfl ?_
      exact Ws_pick [2, 1, 0] rfl h
    · have h := h.2 c99
      refine r_iconst C 103 (v := 1) dX5_looks_102 rfl (by decide) ?_
      refine r_goto C 107 dX5_looks_103 (by decide) ?_
      refine r_istore_n C 108 [(1, .int 1), (0, .ref 209), (2, .int i2)] dX5_looks_107 rfl (by decide) rfl ?_
      refine r_iconst C 109 (v := 0) dX5_looks_108 rfl (by decide) ?_
      refine r_istore_n C 110 [(2, .int 0), (1, .int 1), (0, .ref 209)] dX5_looks_109 rfl (by decide) rfl ?_
      exact Ws_pick [2, 1, 0] rfl h
  · have h := h.2 c29
    refine r_aload_n (j := 0) C 33 dX5_looks_32 rfl rfl ?_
    refine r_get (k := 24) C cl7 36 dX5_looks_33 rfl kd_209 (by decide) wd_1236 (.ref 226) (fun _ => rfl) ?_
    refine r_iload_n (j := 1) C 37 dX5_looks_36 rfl rfl ?_
    refine r_aload_n (j := 0) C 38 dX5_looks_37 rfl rfl ?_
    refine r_get (k := 23) C cl7 41 dX5_looks_38 rfl kd_209 (by decide) wd_1235 (.ref 225) (fun _ => rfl) ?_
    refine r_iload_n (j := 1) C 42 dX5_looks_41 rfl rfl ?_
    obtain ⟨o42, h⟩ := h
    refine r_iald C 43 dX5_looks_42 rfl kd_225 o42 ?_
    obtain ⟨o43, h⟩ := h
    refine r_iast C 44 dX5_looks_43 rfl kd_226 o43 ?_
    refine r_nmS (fun σ43 e43 => ?_)
    have h := h σ43 e43
    refine r_aload_n (j := 0) C 45 dX5_looks_44 rfl rfl ?_
    refine r_get (k := 23) C cl7 48 dX5_looks_45 rfl kd_209 (by decide) wd_1235 (.ref 225) (fun _ => rfl) ?_
    refine r_iload_n (j := 1) C 49 dX5_looks_48 rfl rfl ?_
    refine r_aload_n (j := 0) C 50 dX5_looks_49 rfl rfl ?_
    refine r_iload_n (j := 1) C 51 dX5_looks_50 rfl rfl ?_
    refine r_cVI (as := [.int i2]) (S := [.int i2, .ref 225]) C r.px 54 (ct_X5_hasStation _ _ _ _ h) dX5_looks_51 rfl cl7 kd_209 wd_52 wd_1396 rfl wd_1394 wd_1397 wd_95 yd_X5_hasStation ⟨Nat.le_of_ble_eq_true rfl, Nat.le_of_ble_eq_true rfl⟩ (Nat.le_of_ble_eq_true rfl) (by decide) (fun r51 σ51 h => ?_)
    refine r_if_eq C 87 57 dX5_looks_54 (by decide) rfl (fun c54 => ?_) (fun c54 => ?_)
    · have h := h.1 c54
      refine r_iconst C 88 (v := 0) dX5_looks_87 rfl (by decide) ?_
      obtain ⟨o88, h⟩ := h
      refine r_iast C 89 dX5_looks_88 rfl kd_225 o88 ?_
      refine r_nmS (fun σ88 e88 => ?_)
      have h := h σ88 e88
      obtain ⟨v89, e89⟩ : ∃ y : Int32, y = i2 + 1 := ⟨_, rfl⟩
      have h := h v89 e89
      refine r_iinc (j := 1) C 92 [(2, .int v89), (0, .ref 209)] dX5_looks_89 rfl rfl (by rw [e89]; rfl) (by decide) rfl ?_
      refine r_goto C 26 dX5_looks_92 (by decide) ?_
      exact Ws_pick [1, 0] rfl h
    · have h := h.2 c54
      refine r_aload_n (j := 0) C 58 dX5_looks_57 rfl rfl ?_
      refine r_iload_n (j := 1) C 59 dX5_looks_58 rfl rfl ?_
      refine r_aload_n (j := 0) C 60 dX5_looks_59 rfl rfl ?_
      refine r_get (k := 32) C cl7 63 dX5_looks_60 rfl kd_209 (by decide) wd_1244 (.int (σ51.1 209 32)) (fun _ => rfl) ?_
      refine r_if_ne C 75 66 dX5_looks_63 (by decide) rfl (fun c63 => ?_) (fun c63 => ?_)
      · have h := h.1 c63
        refine r_aload_n (j := 0) C 76 dX5_looks_75 rfl rfl ?_
        refine r_get (k := 27) C cl7 79 dX5_looks_76 rfl kd_209 (by decide) wd_1239 (.ref 229) (fun _ => rfl) ?_
        refine r_iload_n (j := 1) C 80 dX5_looks_79 rfl rfl ?_
        obtain ⟨o80, h⟩ := h
        refine r_iald C 81 dX5_looks_80 rfl kd_229 o80 ?_
        refine r_cVI (as := [.int i2, .int (σ51.1 229 i2.toNatClampNeg)]) (S := [.int i2, .ref 225]) C r.px 84 (ct_X5_drawn _ _ _ _ _ h) dX5_looks_81 rfl cl7 kd_209 wd_58 wd_1436 rfl wd_1434 wd_1437 wd_95 yd_X5_drawn ⟨Nat.le_of_ble_eq_true rfl, Nat.le_of_ble_eq_true rfl⟩ (Nat.le_of_ble_eq_true rfl) (by decide) (fun r81 σ81 h => ?_)
        refine r_goto C 88 dX5_looks_84 (by decide) ?_
        obtain ⟨o88, h⟩ := h
        refine r_iast C 89 dX5_looks_88 rfl kd_225 o88 ?_
        refine r_nmS (fun σ88 e88 => ?_)
        have h := h σ88 e88
        obtain ⟨v89, e89⟩ : ∃ y : Int32, y = i2 + 1 := ⟨_, rfl⟩
        have h := h v89 e89
        refine r_iinc (j := 1) C 92 [(2, .int v89), (0, .ref 209)] dX5_looks_89 rfl rfl (by rw [e89]; rfl) (by decide) rfl ?_
        refine r_goto C 26 dX5_looks_92 (by decide) ?_
        exact Ws_pick [1, 0] rfl h
      · have h := h.2 c63
        refine r_aload_n (j := 0) C 67 dX5_looks_66 rfl rfl ?_
        refine r_get (k := 1) C cl7 70 dX5_looks_67 rfl kd_209 (by decide) wd_1213 (.ref 210) (fun _ => rfl) ?_
        refine r_iconst C 71 (v := 0) dX5_looks_70 rfl (by decide) ?_
        refine r_iald C 72 dX5_looks_71 rfl kd_210 (n_inR (n := 0) (by decide) (by decide)) ?_
        refine r_goto C 81 dX5_looks_72 (by decide) ?_
        refine r_cVI (as := [.int i2, .int (σ51.1 210 0)]) (S := [.int i2, .ref 225]) C r.px 84 (ct_X5_drawn _ _ _ _ _ h) dX5_looks_81 rfl cl7 kd_209 wd_58 wd_1436 rfl wd_1434 wd_1437 wd_95 yd_X5_drawn ⟨Nat.le_of_ble_eq_true rfl, Nat.le_of_ble_eq_true rfl⟩ (Nat.le_of_ble_eq_true rfl) (by decide) (fun r81 σ81 h => ?_)
        refine r_goto C 88 dX5_looks_84 (by decide) ?_
        obtain ⟨o88, h⟩ := h
        refine r_iast C 89 dX5_looks_88 rfl kd_225 o88 ?_
        refine r_nmS (fun σ88 e88 => ?_)
        have h := h σ88 e88
        obtain ⟨v89, e89⟩ : ∃ y : Int32, y = i2 + 1 := ⟨_, rfl⟩
        have h := h v89 e89
        refine r_iinc (j := 1) C 92 [(2, .int v89), (0, .ref 209)] dX5_looks_89 rfl rfl (by rw [e89]; rfl) (by decide) rfl ?_
        refine r_goto C 26 dX5_looks_92 (by decide) ?_
        exact Ws_pick [1, 0] rfl h
set_option maxRecDepth 4000 in
theorem sg_X5_looks_110 {x : Ctx} {K : Mem → Prop} {X : String → Mem → Prop} (C : Cx x RX5 cX5_looks 3) (r : RtV x 6 0 none K X) (i1 : Int32) (i2 : Int32)  (σ : Mem) (h : (10 ≤ i2 → ∀ σ152 : Mem, σ152 = wi σ 209 32 ((σ.1 209 32) + 1) → sp_X5_flows  σ152 (fun σ156 => sp_X5_temperatures  σ156 (fun σ160 => Ws x 0 11 [(0, .ref 209), (1, .int i1)] [] σ160) X) X) ∧ (¬ 10 ≤ i2 → (vp_in i2 10) ∧ ((vp_in i2 10) ∧ (((σ.1 225 i2.toNatClampNeg) = (σ.1 226 i2.toNatClampNeg) → ∀ v138 : Int32, v138 = (i1 ||| 0) → ∀ v139 : Int32, v139 = i2 + 1 → Ws x 0 110 [(0, .ref 209), (1, .int v138), (2, .int v139)] [] σ) ∧ (¬ (σ.1 225 i2.toNatClampNeg) = (σ.1 226 i2.toNatClampNeg) → ∀ v138 : Int32, v138 = (i1 ||| 1) → ∀ v139 : Int32, v139 = i2 + 1 → Ws x 0 110 [(0, .ref 209), (1, .int v138), (2, .int v139)] [] σ))))) : Ws x 0 110 [(0, .ref 209), (1, .int i1), (2, .int i2)] [] σ := by
  refine r_iload_n (j := 2) C 111 dX5_looks_110 rfl rfl ?_
  refine r_bipush C 113 (v := 10) dX5_looks_111 rfl (by decide) ?_
  refine r_icmp_ge C 145 116 dX5_looks_113 (by decide) rfl (fun c113 => ?_) (fun c113 => ?_)
  · have h := h.1 c113
    refine r_aload_n (j := 0) C 146 dX5_looks_145 rfl rfl ?_
    refine r_dup C 147 dX5_looks_146 rfl rfl ?_
    refine r_get (k := 32) C cl7 150 dX5_looks_147 rfl kd_209 (by decide) wd_1244 (.int (σ.1 209 32)) (fun _ => rfl) ?_
    refine r_iconst C 151 (v := 1) dX5_looks_150 rfl (by decide) ?_
    refine r_iadd C 152 dX5_looks_151 rfl ?_
    refine r_putI (k := 32) C cl7 155 dX5_looks_152 rfl kd_209 (by decide) wd_1244 rfl rfl rfl rfl ?_
    refine r_nmS (fun σ152 e152 => ?_)
    have h := h σ152 e152
    refine r_aload_n (j := 0) C 156 dX5_looks_155 rfl rfl ?_
    refine r_cVV (as := []) (S := []) C r.px 159 (ct_X5_flows  _ _ _ h) dX5_looks_156 rfl cl7 kd_209 wd_60 wd_1446 rfl wd_1444 wd_1447 wd_95 yd_X5_flows ⟨Nat.le_of_ble_eq_true rfl, Nat.le_of_ble_eq_true rfl⟩ (Nat.le_of_ble_eq_true rfl) (by decide) (fun σ156 h => ?_)
    refine r_aload_n (j := 0) C 160 dX5_looks_159 rfl rfl ?_
    refine r_cVV (as := []) (S := []) C r.px 163 (ct_X5_temperatures  _ _ _ h) dX5_looks_160 rfl cl7 kd_209 wd_66 wd_1473 rfl wd_1471 wd_1474 wd_95 yd_X5_temperatures ⟨Nat.le_of_ble_eq_true rfl, Nat.le_of_ble_eq_true rfl⟩ (Nat.le_of_ble_eq_true rfl) (by decide) (fun σ160 h => ?_)
    refine r_goto C 11 dX5_looks_163 (by decide) ?_
    exact Ws_pick [0, 1] rfl h
  · have h := h.2 c113
    refine r_iload_n (j := 1) C 117 dX5_looks_116 rfl rfl ?_
    refine r_aload_n (j := 0) C 118 dX5_looks_117 rfl rfl ?_
    refine r_get (k := 23) C cl7 121 dX5_looks_118 rfl kd_209 (by decide) wd_1235 (.ref 225) (fun _ => rfl) ?_
    refine r_iload_n (j := 2) C 122 dX5_looks_121 rfl rfl ?_
    obtain ⟨o122, h⟩ := h
    refine r_iald C 123 dX5_looks_122 rfl kd_225 o122 ?_
    refine r_aload_n (j := 0) C 124 dX5_looks_123 rfl rfl ?_
    refine r_get (k := 24) C cl7 127 dX5_looks_124 rfl kd_209 (by decide) wd_1236 (.ref 226) (fun _ => rfl) ?_
    refine r_iload_n (j := 2) C 128 dX5_looks_127 rfl rfl ?_
    obtain ⟨o128, h⟩ := h
    refine r_iald C 129 dX5_looks_128 rfl kd_226 o128 ?_
    refine r_icmp_eq C 136 132 dX5_looks_129 (by decide) rfl (fun c129 => ?_) (fun c129 => ?_)
    · have h := h.1 c129
      refine r_iconst C 137 (v := 0) dX5_looks_136 rfl (by decide) ?_
      refine r_ior C 138 dX5_looks_137 rfl ?_
      refine r_nmI (fun v138 e138 => ?_)
      have h := h v138 e138
      refine r_istore_n C 139 [(1, .int v138), (0, .ref 209), (2, .int i2)] dX5_looks_138 rfl (by decide) rfl ?_
      obtain ⟨v139, e139⟩ : ∃ y : Int32, y = i2 + 1 := ⟨_, rfl⟩
      have h := h v139 e139
      refine r_iinc (j := 2) C 142 [(2, .int v139), (1, .int v138), (0, .ref 209)] dX5_looks_139 rfl rfl (by rw [e139]; rfl) (by decide) rfl ?_
      refine r_goto C 110 dX5_looks_142 (by decide) ?_
      exact Ws_pick [2, 1, 0] rfl h
    · have h := h.2 c129
      refine r_iconst C 133 (v := 1) dX5_looks_132 rfl (by decide) ?_
      refine r_goto C 137 dX5_looks_133 (by decide) ?_
      refine r_ior C 138 dX5_looks_137 rfl ?_
      refine r_nmI (fun v138 e138 => ?_)
      have h := h v138 e138
      refine r_istore_n C 139 [(1, .int v138), (0, .ref 209), (2, .int i2)] dX5_looks_138 rfl (by decide) rfl ?_
      obtain ⟨v139, e139⟩ : ∃ y : Int32, y = i2 + 1 := ⟨_, rfl⟩
      have h := h v139 e139
      refine r_iinc (j := 2) C 142 [(2, .int v139), (1, .int v138), (0, .ref 209)] dX5_looks_139 rfl rfl (by rw [e139]; rfl) (by decide) rfl ?_
      refine r_goto C 110 dX5_looks_142 (by decide) ?_
      exact Ws_pick [2, 1, 0] rfl h
theorem vc_X5_looks {x : Ctx} {K : Mem → Prop} {X : String → Mem → Prop} (C : Cx x RX5 cX5_looks 3) (r : RtV x 6 0 none K X) (σ : Mem) (h : sp_X5_looks σ K X) : Ws x 0 0 [(0, .ref 209)] [] σ := by
  obtain ⟨w, g, c, R, D, T, B, S, z, f, hw, hr, hL, hH, hLk, hK⟩ := h
  have hg := hw.2.1
  have hP := hg.1
  have hT := bfs_tre hg (by decide : 0 < 10)
  obtain ⟨sp1, sp2, sp3⟩ := sup_bd hw
  obtain ⟨R1, R12, hD, hne, hend⟩ := hH
  have dbd : ∀ j, 1 ≤ j → j ≤ R → ∀ n, n < 10 → D j n ≤ 999 ∧ (¬ hasW w n → D j n = 0) := fun j j1 j2 n hn => by
    rw [(hD j j1 j2).1]
    exact ⟨(drNx_bd hw hn).1, (drNx_bd hw hn).2.1⟩
  -- each round has its flows and temperatures
  have dat : ∀ j, 1 ≤ j → j ≤ R → ∃ (B1 S1 : Nat → Nat) (z1 : Int) (f1 : Nat → Int32), LkB w g c (D j) B1 (T j) S1 z1 f1 ∧ (j = R → B1 = B ∧ S1 = S ∧ z1 = z ∧ f1 = f) := fun j j1 j2 => by
    by_cases q : j = R
    · rw [q]; exact ⟨B, S, z, f, hLk, fun _ => ⟨rfl, rfl, rfl, rfl⟩⟩
    · obtain ⟨B1, z1, f1, rk, h1, h2, h3⟩ := (hD j j1 j2).2
      obtain ⟨S1, hS1⟩ := cool_is (dr := D j) hw h2 (fun n hn => (dbd j j1 j2 n hn).2)
      exact ⟨B1, S1, z1, f1, ⟨h1, ⟨rk, h2⟩, fun n hn => ⟨h3 n hn, hS1 n hn⟩⟩, fun y => absurd y q⟩
  refine sg_X5_looks_0 C r σ ⟨g, c, hg, GM_of hw hr, hL, fun σ1 u1 u2 u3 σ6 e6 => ?_⟩
  have c6 : ChM σ σ6 := by rw [e6]; exact u1.w32
  have F6 : FarM (bfs g 0) σ6 := fun j hj => by rw [e6, wi_i, if_neg (fun q => absurd q.1 (by decide))]; exact u2 j hj
  have L6 : LoM c σ6 := ⟨by rw [e6, wi_i, if_neg (fun q => absurd q.2 (by decide))]; exact u3.1, fun i hi => by rw [e6, wi_i, if_neg (fun q => absurd q.1 (by decide)), wi_i, if_neg (fun q => absurd q.1 (by decide))]; exact u3.2 i hi⟩
  have main : ∀ (d j : Nat) (τ : Mem) (i1 : Int32), R - j = d → j ≤ R → ChM σ τ → FarM (bfs g 0) τ → LoM c τ → τ.1 209 32 = nI j → (j < R → i1 ≠ 0) → (j = R → i1 = 0 ∨ R = 12) → (1 ≤ j → (∀ n, n < 10 → τ.1 225 n = nI (D j n)) ∧ ∀ n, n < 10 → τ.1 229 n = nI (T j n)) → (j = R → ReF w g c R (D R) B (T R) S z f τ) → Ws x 0 11 [(0, .ref 209), (1, .int i1)] [] τ := by
    intro d
    induction d with
    | zero =>
      intro j τ i1 hd hj hc hF hl h32 _ hgo _ hfin
      have jR : j = R := by omega
      refine sg_X5_looks_11 C r _ τ ⟨fun _ => hK τ hc (hfin jR), fun q => ⟨fun _ => hK τ hc (hfin jR), fun q2 => ?_⟩⟩
      rcases hgo jR with y | y
      · exact absurd y q
      · rw [h32, jR, y] at q2
        exact absurd (nI_le (a := 12) (b := 12) (by decide) (by decide)) q2
    | succ d ih =>
      intro j τ i1 hd hj hc hF hl h32 hgo _ hold _
      have jR : j < R := by omega
      refine sg_X5_looks_11 C r _ τ ⟨fun q => absurd q (hgo jR), fun _ => ⟨fun q => ?_, fun _ => ?_⟩⟩
      · rw [h32] at q
        have := n_le (a := 12) (by decide) (by omega) q
        omega
      have hDn := (hD (j + 1) (by omega) (by omega)).1
      have r210 : ∀ υ : Mem, ChM σ υ → ∀ k, k < 108 → υ.1 210 k = w k := fun υ hυ k hk => by rw [hυ.i210]; exact hr k hk
      -- the stations draw
      refine cnt 10 (fun k υ => ChM σ υ ∧ FarM (bfs g 0) υ ∧ LoM c υ ∧ υ.1 209 32 = nI j ∧ (1 ≤ j → ∀ n, n < 10 → υ.1 229 n = nI (T j n)) ∧ (∀ n, n < k → υ.1 225 n = nI (D (j + 1) n) ∧ υ.1 226 n = τ.1 225 n) ∧ ∀ n, k ≤ n → υ.1 225 n = τ.1 225 n) (fun k υ => Ws x 0 26 [(0, .ref 209), (2, .int (nI k))] [] υ) ?_ ?_ 0 τ (Nat.zero_le _) ⟨hc, hF, hl, h32, fun j1 => (hold j1).2, fun n hn => absurd hn (Nat.not_lt_zero n), fun _ _ => rfl⟩
      · rintro υ ⟨k1, k2, k3, k4, k5, k6, -⟩
        -- whether another round is due
        have H110 : ∀ i0 : Int32, (j = 0 → i0 = 1) → (j ≠ 0 → i0 = 0) → Ws x 0 110 [(0, .ref 209), (1, .int i0), (2, .int 0)] [] υ := by
          intro i0 hi0 hi1
          refine cnt 10 (fun k (v : Int32) => (v = 0 ∨ v = 1) ∧ (v = 0 ↔ j ≠ 0 ∧ ∀ n, n < k → υ.1 225 n = υ.1 226 n)) (fun k v => Ws x 0 110 [(0, .ref 209), (1, .int v), (2, .int (nI k))] [] υ) ?_ ?_ 0 i0 (Nat.zero_le _) ?_
          · rintro v ⟨v1, v2⟩
            refine sg_X5_looks_110 C r _ _ υ ⟨fun _ σ152 e152 => ?_, fun q => (lit_lt (by decide) (Nat.le_refl 10) (by decide) q).elim⟩
            rw [k4, nI_1] at e152
            have c152 : ChM σ σ152 := by rw [e152]; exact k1.w32
            have o152 : ∀ a k, a ≠ 209 → σ152.1 a k = υ.1 a k := fun a k ha => by rw [e152, wi_i, if_neg (fun q => ha q.1)]
            have F152 : FarM (bfs g 0) σ152 := fun i hi => by rw [o152 _ _ (by decide)]; exact k2 i hi
            have L152 : LoM c σ152 := ⟨by rw [e152, wi_i, if_neg (fun q => absurd q.2 (by decide))]; exact k3.1, fun i hi => by rw [o152 _ _ (by decide), o152 _ _ (by decide)]; exact k3.2 i hi⟩
            have d152 : ∀ n, n < 10 → σ152.1 225 n = nI (D (j + 1) n) := fun n hn => by rw [o152 _ _ (by decide)]; exact (k6 n hn).1
            obtain ⟨B1, S1, z1, f1, hB1, hlast⟩ := dat (j + 1) (by omega) (by omega)
            obtain ⟨hfb, ⟨rk, hok⟩, hTS⟩ := hB1
            have fb : FBase w g c (D (j + 1)) B1 σ152 := ⟨hw, r210 _ c152, hL.1, F152, L152, fun n hn => ⟨d152 n hn, (dbd (j + 1) (by omega) (by omega) n hn).1⟩, hfb.1, hfb.2.1⟩
            refine ⟨w, g, c, D (j + 1), B1, z1, fb, hfb.2.2.1, fun ρ a1 a2 a3 a4 a5 a6 => ?_⟩
            have cρ : ChM σ152 ρ := ⟨fun a k q => ⟨a1 a k (by omega), a2 a k (by omega) (fun y => by omega)⟩, fun k _ _ => a1 209 k (by decide), fun k hk => a2 209 k (by decide) (fun y => hk y.2), a3⟩
            have e228 : ∀ p, p < g.1 → ρ.1 228 p = f1 p := fun p hp => FlE.uniq hL.1 a6 hfb.2.2.2 hp
            have tb : TBase w g (flR f1) (D (j + 1)) rk ρ := ⟨hw, r210 _ (c152.trans cρ), fun p hp => by rw [e228 p hp]; exact flR_z f1 p, hok, fun n hn => ⟨by rw [a1 _ _ (by decide)]; exact d152 n hn, dbd (j + 1) (by omega) (by omega) n hn⟩⟩
            refine ⟨w, g, flR f1, D (j + 1), rk, T (j + 1), S1, tb, fun e he => ⟨(hTS e he).1.2, (hTS e he).2.2⟩, fun n hn => ⟨(hTS n hn).1.1, (hTS n hn).2.1⟩, fun ρ2 b1 b2 b3 b4 => ?_⟩
            have cρ2 : ChM ρ ρ2 := ⟨fun a k q => ⟨b1 a k (by omega) (by omega) (by omega), b2 a k (by omega)⟩, fun k _ _ => b1 209 k (by decide) (by decide) (by decide), fun k _ => b2 209 k (by decide), b3⟩
            have o2 : ∀ a k, a ≠ 228 → a ≠ 229 → a ≠ 230 → a ≠ 232 → ρ2.1 a k = σ152.1 a k := fun a k h1 h2 h3 h4 => by rw [b1 a k h2 h3 h4, a1 a k h1]
            have d2 : ∀ n, n < 10 → ρ2.1 225 n = nI (D (j + 1) n) := fun n hn => by rw [o2 _ _ (by decide) (by decide) (by decide) (by decide)]; exact d152 n hn
            have F2 : FarM (bfs g 0) ρ2 := fun i hi => by rw [o2 _ _ (by decide) (by decide) (by decide) (by decide)]; exact F152 i hi
            have L2 : LoM c ρ2 := ⟨by rw [o2 _ _ (by decide) (by decide) (by decide) (by decide)]; exact L152.1, fun i hi => by rw [o2 _ _ (by decide) (by decide) (by decide) (by decide), o2 _ _ (by decide) (by decide) (by decide) (by decide)]; exact L152.2 i hi⟩
            have h2 : ρ2.1 209 32 = nI (j + 1) := by rw [o2 _ _ (by decide) (by decide) (by decide) (by decide), e152, wi_i, if_pos ⟨rfl, rfl⟩]
            refine ih (j + 1) ρ2 v (by omega) (by omega) ((c152.trans cρ).trans cρ2) F2 L2 h2 (fun hlt hv => ?_) (fun heq => ?_) (fun _ => ⟨d2, fun n hn => (b4 n hn).1⟩) (fun heq => ?_)
            · -- not the last: somebody draws otherwise
              obtain ⟨j0, hall⟩ := v2.mp hv
              obtain ⟨n, hn, hx⟩ := hne (j + 1) (by omega) hlt
              have y := hall n hn
              rw [(k6 n hn).1, (k6 n hn).2, (hold (by omega)).1 n hn] at y
              rw [Nat.add_sub_cancel] at hx
              have b1 := (dbd (j + 1) (by omega) (by omega) n hn).1
              have b2 := (dbd j (by omega) (by omega) n hn).1
              exact hx ((nI_eq (by omega) (by omega)).mp y)
            · rcases hend with y | ⟨y1, y2⟩
              · exact .inr y
              · refine .inl (v2.mpr ⟨by omega, fun n hn => ?_⟩)
                have y3 := y2 n hn
                rw [← heq, Nat.add_sub_cancel] at y3
                rw [(k6 n hn).1, (k6 n hn).2, (hold (by omega)).1 n hn, y3]
            · obtain ⟨q1, q2, q3, q4⟩ := hlast heq
              subst q1; subst q2; subst q3; subst q4
              rw [← heq]
              refine ⟨F2, L2, d2, fun e he => by rw [b2 _ _ (by decide)]; exact a4 e he, by rw [b2 _ _ (by decide)]; exact a5, fun p hp => by rw [b1 _ _ (by decide) (by decide) (by decide)]; exact e228 p hp, b4, h2⟩
          · rintro k v hk ⟨v1, v2⟩ ihk
            have o0 : v ||| 0 = v := by rcases v1 with y | y <;> rw [y] <;> decide
            have o1 : v ||| 1 = 1 := by rcases v1 with y | y <;> rw [y] <;> decide
            refine sg_X5_looks_110 C r _ _ υ ⟨fun q => (lit_ge (by decide) hk q).elim, fun _ => ⟨n_inR hk (by decide), n_inR hk (by decide), ?_⟩⟩
            rw [n_cl (n := k) (by omega)]
            refine ⟨fun q v138 e138 v139 e139 => ?_, fun q v138 e138 v139 e139 => ?_⟩
            · rw [e138, e139, nI_1, o0]
              refine ihk v ⟨v1, v2.trans ⟨fun ⟨y1, y2⟩ => ⟨y1, fun n hn => ?_⟩, fun ⟨y1, y2⟩ => ⟨y1, fun n hn => y2 n (by omega)⟩⟩⟩
              by_cases e : n = k
              · rw [e]; exact q
              · exact y2 n (by omega)
            · rw [e138, e139, nI_1, o1]
              exact ihk 1 ⟨.inr rfl, ⟨fun y => absurd y (by decide), fun ⟨_, y2⟩ => absurd (y2 k (by omega)) q⟩⟩
          · by_cases j0 : j = 0
            · rw [hi0 j0]
              exact ⟨.inr rfl, ⟨fun y => absurd y (by decide), fun y => absurd j0 y.1⟩⟩
            · rw [hi1 j0]
              exact ⟨.inl rfl, ⟨fun _ => ⟨j0, fun n hn => absurd hn (Nat.not_lt_zero n)⟩, fun _ => rfl⟩⟩
        refine sg_X5_looks_26 C r _ υ ⟨fun _ => ?_, fun q => (lit_lt (by decide) (Nat.le_refl 10) (by decide) q).elim⟩
        rw [k4]
        refine ⟨fun q => H110 0 (fun e => ?_) (fun _ => rfl), fun q => H110 1 (fun _ => rfl) (fun e => ?_)⟩
        · rw [e] at q; exact absurd rfl q
        · exact absurd ((nI_eq (b := 0) (by omega) (by decide)).mp q) e
      · rintro k υ hk ⟨k1, k2, k3, k4, k5, k6, k7⟩ ihk
        have hi := n_inR (n := k) (N := 10) hk (by decide)
        refine sg_X5_looks_26 C r _ υ ⟨fun q => (lit_ge (by decide) hk q).elim, fun _ => ⟨hi, hi, fun σ43 e43 => ?_⟩⟩
        rw [n_cl (by omega), k7 k (Nat.le_refl k)] at e43
        have c43 : ChM σ σ43 := by rw [e43]; exact k1.swi (by decide) (by decide)
        have o43 : ∀ a i, a ≠ 226 → σ43.1 a i = υ.1 a i := fun a i ha => by rw [e43, wi_i, if_neg (fun q => ha q.1)]
        have F43 : FarM (bfs g 0) σ43 := fun i hi => by rw [o43 _ _ (by decide)]; exact k2 i hi
        have put : ∀ v : Int32, v = nI (D (j + 1) k) → ∀ σ88 : Mem, σ88 = wi σ43 225 k v → ∀ v89 : Int32, v89 = nI k + 1 → Ws x 0 26 [(0, .ref 209), (2, .int v89)] [] σ88 := fun v hv σ88 e88 v89 e89 => by
          rw [e89, nI_1]
          have o88 : ∀ a i, a ≠ 225 → a ≠ 226 → σ88.1 a i = υ.1 a i := fun a i h1 h2 => by rw [e88, wi_i, if_neg (fun q => h1 q.1), o43 a i h2]
          refine ihk σ88 ⟨by rw [e88]; exact c43.swi (by decide) (by decide), fun i hi => by rw [o88 _ _ (by decide) (by decide)]; exact k2 i hi, ⟨by rw [o88 _ _ (by decide) (by decide)]; exact k3.1, fun i hi => by rw [o88 _ _ (by decide) (by decide), o88 _ _ (by decide) (by decide)]; exact k3.2 i hi⟩, by rw [o88 _ _ (by decide) (by decide)]; exact k4, fun j1 n hn => by rw [o88 _ _ (by decide) (by decide)]; exact k5 j1 n hn, fun n hn => ?_, fun n hn => ?_⟩
          · have y1 : σ88.1 225 n = if n = k then v else υ.1 225 n := by
              rw [e88, wi_i]
              by_cases e : n = k
              · rw [if_pos ⟨rfl, e⟩, if_pos e]
              · rw [if_neg (fun q => e q.2), if_neg e, o43 _ _ (by decide)]
            have y2 : σ88.1 226 n = if n = k then τ.1 225 k else υ.1 226 n := by
              rw [e88, wi_i, if_neg (fun q => absurd q.1 (by decide)), e43, wi_i]
              by_cases e : n = k
              · rw [if_pos ⟨rfl, e⟩, if_pos e]
              · rw [if_neg (fun q => e q.2), if_neg e]
            rw [y1, y2]
            by_cases e : n = k
            · rw [if_pos e, if_pos e, e]; exact ⟨hv, rfl⟩
            · rw [if_neg e, if_neg e]; exact k6 n (by omega)
          · rw [e88, wi_i, if_neg (fun q => by omega), o43 _ _ (by decide)]; exact k7 n (by omega)
        refine i_X5_hasStation hk ?_
        rw [n_cl (n := k) (by omega), o43 210 0 (by decide), o43 229 k (by decide), o43 209 32 (by decide), k4, o43 210 _ (by decide), r210 υ k1 _ (by omega), r210 υ k1 0 (by decide)]
        by_cases hh : hasW w k
        · have hh' : 1 ≤ k ∧ w (48 + 6 * k) = 1 := hh
          rw [if_pos hh']
          have hnx : ∀ Tn, Tn = (if j + 1 = 1 then nV (w 0) else T (j + 1 - 1) k) → drW w (bfs g 0) Tn k = D (j + 1) k := fun Tn e => by rw [hDn, e]; rfl
          refine ⟨fun q => absurd q (by decide), fun _ => ⟨fun q => ⟨hi, ?_⟩, fun q => ?_⟩⟩
          · have j0 : j ≠ 0 := fun e => by rw [e] at q; exact q rfl
            have tb := (hD j (by omega) (by omega)).2
            obtain ⟨_, _, _, _, -, -, hTb⟩ := tb
            rw [k5 (by omega) k hk]
            exact i_X5_drawn hw (r210 _ c43) hT F43 hk hh (hTb k hk).2.2 ⟨hi, put _ (by rw [hnx _ (by rw [if_neg (by omega), Nat.add_sub_cancel])])⟩
          · have j0 : j = 0 := nI_eq (b := 0) (by omega) (by decide) |>.mp q
            rw [sp1]
            refine i_X5_drawn hw (r210 _ c43) hT F43 hk hh sp3 ⟨hi, put _ ?_⟩
            rw [hnx _ (by rw [if_pos (by omega)])]
        · have hh' : ¬ (1 ≤ k ∧ w (48 + 6 * k) = 1) := hh
          rw [if_neg hh']
          exact ⟨fun _ => ⟨hi, put 0 (by rw [(dbd (j + 1) (by omega) (by omega) k hk).2 hh]; rfl)⟩, fun q => absurd rfl q⟩
  exact main R 0 σ6 1 rfl (Nat.zero_le _) c6 F6 L6 (by rw [e6, wi_i, if_pos ⟨rfl, rfl⟩]; rfl) (fun _ => by decide) (fun q => by omega) (fun q => absurd q (by decide)) (fun q => by omega)
theorem ct_X5_looks  (σ : Mem) (K : Mem → Prop) (X : String → Mem → Prop) (h : sp_X5_looks  σ K X) : CtV yX5_looks cX5_looks 3 none 6 0 [.ref 209] σ K X :=
  ctV_of (by decide +kernel) (Nat.le_of_ble_eq_true rfl) (fun x C r => vc_X5_looks C r  σ h)
/-! HeatNetworkModel.direction(I)C: level 7, exceptions 0 -/
def sp_X5_direction (p0 : Int32) (σ : Mem) (K : Int32 → Mem → Prop) (X : String → Mem → Prop) : Prop := (sp_X5_isPipe p0 σ (fun r3 σ3 => (r3 = 0 → ∀ σ14 : Mem, σ14 = wi σ3 209 0 1 → ((σ14.1 209 0) ≤ 0 → sp_X5_looks  σ14 (fun σ27 => (vp_in p0 10) ∧ (((σ27.1 228 p0.toNatClampNeg) ≤ 0 → (vp_in p0 10) ∧ ((0 ≤ (σ27.1 228 p0.toNatClampNeg) → K 48 σ27) ∧ (¬ 0 ≤ (σ27.1 228 p0.toNatClampNeg) → K 45 σ27))) ∧ (¬ (σ27.1 228 p0.toNatClampNeg) ≤ 0 → K 43 σ27))) X) ∧ (¬ (σ14.1 209 0) ≤ 0 → K 0 σ14)) ∧ (¬ r3 = 0 → ∀ σ14 : Mem, σ14 = wi σ3 209 0 0 → ((σ14.1 209 0) ≤ 0 → sp_X5_looks  σ14 (fun σ27 => (vp_in p0 10) ∧ (((σ27.1 228 p0.toNatClampNeg) ≤ 0 → (vp_in p0 10) ∧ ((0 ≤ (σ27.1 228 p0.toNatClampNeg) → K 48 σ27) ∧ (¬ 0 ≤ (σ27.1 228 p0.toNatClampNeg) → K 45 σ27))) ∧ (¬ (σ27.1 228 p0.toNatClampNeg) ≤ 0 → K 43 σ27))) X) ∧ (¬ (σ14.1 209 0) ≤ 0 → K 0 σ14))) X)
set_option maxRecDepth 4000 in
theorem sg_X5_direction_0 {x : Ctx} {K : Int32 → Mem → Prop} {X : String → Mem → Prop} (C : Cx x RX5 cX5_direction 2) (r : RtI x 7 0 (some .char) K X) (p0 : Int32)  (σ : Mem) (h : sp_X5_isPipe p0 σ (fun r3 σ3 => (r3 = 0 → ∀ σ14 : Mem, σ14 = wi σ3 209 0 1 → ((σ14.1 209 0) ≤ 0 → sp_X5_looks  σ14 (fun σ27 => (vp_in p0 10) ∧ (((σ27.1 228 p0.toNatClampNeg) ≤ 0 → (vp_in p0 10) ∧ ((0 ≤ (σ27.1 228 p0.toNatClampNeg) → K 48 σ27) ∧ (¬ 0 ≤ (σ27.1 228 p0.toNatClampNeg) → K 45 σ27))) ∧ (¬ (σ27.1 228 p0.toNatClampNeg) ≤ 0 → K 43 σ27))) X) ∧ (¬ (σ14.1 209 0) ≤ 0 → K 0 σ14)) ∧ (¬ r3 = 0 → ∀ σ14 : Mem, σ14 = wi σ3 209 0 0 → ((σ14.1 209 0) ≤ 0 → sp_X5_looks  σ14 (fun σ27 => (vp_in p0 10) ∧ (((σ27.1 228 p0.toNatClampNeg) ≤ 0 → (vp_in p0 10) ∧ ((0 ≤ (σ27.1 228 p0.toNatClampNeg) → K 48 σ27) ∧ (¬ 0 ≤ (σ27.1 228 p0.toNatClampNeg) → K 45 σ27))) ∧ (¬ (σ27.1 228 p0.toNatClampNeg) ≤ 0 → K 43 σ27))) X) ∧ (¬ (σ14.1 209 0) ≤ 0 → K 0 σ14))) X) : Ws x 0 0 [(0, .ref 209), (1, .int p0)] [] σ := by
  refine r_aload_n (j := 0) C 1 dX5_direction_0 rfl rfl ?_
  refine r_aload_n (j := 0) C 2 dX5_direction_1 rfl rfl ?_
  refine r_iload_n (j := 1) C 3 dX5_direction_2 rfl rfl ?_
  refine r_cVI (as := [.int p0]) (S := [.ref 209]) C r.px 6 (ct_X5_isPipe _ _ _ _ h) dX5_direction_3 rfl cl7 kd_209 wd_50 wd_1384 rfl wd_1382 wd_1385 wd_95 yd_X5_isPipe ⟨Nat.le_of_ble_eq_true rfl, Nat.le_of_ble_eq_true rfl⟩ (Nat.le_of_ble_eq_true rfl) (by decide) (fun r3 σ3 h => ?_)
  refine r_if_eq C 13 9 dX5_direction_6 (by decide) rfl (fun c6 => ?_) (fun c6 => ?_)
  · have h := h.1 c6
    refine r_iconst C 14 (v := 1) dX5_direction_13 rfl (by decide) ?_
    refine r_putI (k := 0) C cl7 17 dX5_direction_14 rfl kd_209 (by decide) wd_1212 rfl rfl rfl rfl ?_
    refine r_nmS (fun σ14 e14 => ?_)
    have h := h σ14 e14
    refine r_aload_n (j := 0) C 18 dX5_direction_17 rfl rfl ?_
    refine r_get (k := 0) C cl7 21 dX5_direction_18 rfl kd_209 (by decide) wd_1212 (.int (σ14.1 209 0)) (fun _ => rfl) ?_
    refine r_if_le C 26 24 dX5_direction_21 (by decide) rfl (fun c21 => ?_) (fun c21 => ?_)
    · have h := h.1 c21
      refine r_aload_n (j := 0) C 27 dX5_direction_26 rfl rfl ?_
      refine r_cVV (as := []) (S := []) C r.px 30 (ct_X5_looks  _ _ _ h) dX5_direction_27 rfl cl7 kd_209 wd_56 wd_1428 rfl wd_1426 wd_1429 wd_95 yd_X5_looks ⟨Nat.le_of_ble_eq_true rfl, Nat.le_of_ble_eq_true rfl⟩ (Nat.le_of_ble_eq_true rfl) (by decide) (fun σ27 h => ?_)
      refine r_aload_n (j := 0) C 31 dX5_direction_30 rfl rfl ?_
      refine r_get (k := 26) C cl7 34 dX5_direction_31 rfl kd_209 (by decide) wd_1238 (.ref 228) (fun _ => rfl) ?_
      refine r_iload_n (j := 1) C 35 dX5_direction_34 rfl rfl ?_
      obtain ⟨o35, h⟩ := h
      refine r_iald C 36 dX5_direction_35 rfl kd_228 o35 ?_
      refine r_if_le C 44 39 dX5_direction_36 (by decide) rfl (fun c36 => ?_) (fun c36 => ?_)
      · have h := h.1 c36
        refine r_aload_n (j := 0) C 45 dX5_direction_44 rfl rfl ?_
        refine r_get (k := 26) C cl7 48 dX5_direction_45 rfl kd_209 (by decide) wd_1238 (.ref 228) (fun _ => rfl) ?_
        refine r_iload_n (j := 1) C 49 dX5_direction_48 rfl rfl ?_
        obtain ⟨o49, h⟩ := h
        refine r_iald C 50 dX5_direction_49 rfl kd_228 o49 ?_
        refine r_if_ge C 58 53 dX5_direction_50 (by decide) rfl (fun c50 => ?_) (fun c50 => ?_)
        · have h := h.1 c50
          refine r_bipush C 60 (v := 48) dX5_direction_58 rfl (by decide) ?_
          exact r_iret (S := []) C r dX5_direction_60 (by decide) (by decide) h
        · have h := h.2 c50
          refine r_bipush C 55 (v := 45) dX5_direction_53 rfl (by decide) ?_
          refine r_goto C 60 dX5_direction_55 (by decide) ?_
          exact r_iret (S := []) C r dX5_direction_60 (by decide) (by decide) h
      · have h := h.2 c36
        refine r_bipush C 41 (v := 43) dX5_direction_39 rfl (by decide) ?_
        refine r_goto C 60 dX5_direction_41 (by decide) ?_
        exact r_iret (S := []) C r dX5_direction_60 (by decide) (by decide) h
    · have h := h.2 c21
      refine r_iconst C 25 (v := 0) dX5_direction_24 rfl (by decide) ?_
      exact r_iret (S := []) C r dX5_direction_25 (by decide) (by decide) h
  · have h := h.2 c6
    refine r_iconst C 10 (v := 0) dX5_direction_9 rfl (by decide) ?_
    refine r_goto C 14 dX5_direction_10 (by decide) ?_
    refine r_putI (k := 0) C cl7 17 dX5_direction_14 rfl kd_209 (by decide) wd_1212 rfl rfl rfl rfl ?_
    refine r_nmS (fun σ14 e14 => ?_)
    have h := h σ14 e14
    refine r_aload_n (j := 0) C 18 dX5_direction_17 rfl rfl ?_
    refine r_get (k := 0) C cl7 21 dX5_direction_18 rfl kd_209 (by decide) wd_1212 (.int (σ14.1 209 0)) (fun _ => rfl) ?_
    refine r_if_le C 26 24 dX5_direction_21 (by decide) rfl (fun c21 => ?_) (fun c21 => ?_)
    · have h := h.1 c21
      refine r_aload_n (j := 0) C 27 dX5_direction_26 rfl rfl ?_
      refine r_cVV (as := []) (S := []) C r.px 30 (ct_X5_looks  _ _ _ h) dX5_direction_27 rfl cl7 kd_209 wd_56 wd_1428 rfl wd_1426 wd_1429 wd_95 yd_X5_looks ⟨Nat.le_of_ble_eq_true rfl, Nat.le_of_ble_eq_true rfl⟩ (Nat.le_of_ble_eq_true rfl) (by decide) (fun σ27 h => ?_)
      refine r_aload_n (j := 0) C 31 dX5_direction_30 rfl rfl ?_
      refine r_get (k := 26) C cl7 34 dX5_direction_31 rfl kd_209 (by decide) wd_1238 (.ref 228) (fun _ => rfl) ?_
      refine r_iload_n (j := 1) C 35 dX5_direction_34 rfl rfl ?_
      obtain ⟨o35, h⟩ := h
      refine r_iald C 36 dX5_direction_35 rfl kd_228 o35 ?_
      refine r_if_le C 44 39 dX5_direction_36 (by decide) rfl (fun c36 => ?_) (fun c36 => ?_)
      · have h := h.1 c36
        refine r_aload_n (j := 0) C 45 dX5_direction_44 rfl rfl ?_
        refine r_get (k := 26) C cl7 48 dX5_direction_45 rfl kd_209 (by decide) wd_1238 (.ref 228) (fun _ => rfl) ?_
        refine r_iload_n (j := 1) C 49 dX5_direction_48 rfl rfl ?_
        obtain ⟨o49, h⟩ := h
        refine r_iald C 50 dX5_direction_49 rfl kd_228 o49 ?_
        refine r_if_ge C 58 53 dX5_direction_50 (by decide) rfl (fun c50 => ?_) (fun c50 => ?_)
        · have h := h.1 c50
          refine r_bipush C 60 (v := 48) dX5_direction_58 rfl (by decide) ?_
          exact r_iret (S := []) C r dX5_direction_60 (by decide) (by decide) h
        · have h := h.2 c50
          refine r_bipush C 55 (v := 45) dX5_direction_53 rfl (by decide) ?_
          refine r_goto C 60 dX5_direction_55 (by decide) ?_
          exact r_iret (S := []) C r dX5_direction_60 (by decide) (by decide) h
      · have h := h.2 c36
        refine r_bipush C 41 (v := 43) dX5_direction_39 rfl (by decide) ?_
        refine r_goto C 60 dX5_direction_41 (by decide) ?_
        exact r_iret (S := []) C r dX5_direction_60 (by decide) (by decide) h
    · have h := h.2 c21
      refine r_iconst C 25 (v := 0) dX5_direction_24 rfl (by decide) ?_
      exact r_iret (S := []) C r dX5_direction_25 (by decide) (by decide) h
theorem ct_X5_direction (p0 : Int32) (σ : Mem) (K : Int32 → Mem → Prop) (X : String → Mem → Prop) (h : sp_X5_direction p0 σ K X) : CtI yX5_direction cX5_direction 2 (some .char) 7 0 [.ref 209, .int p0] σ K X := by
  have h := h
  exact ctI_of (by decide +kernel) (Nat.le_of_ble_eq_true rfl) (fun x C r => sg_X5_direction_0 C r p0  σ h)
/-! HeatNetworkModel.flow(I)I: level 7, exceptions 0 -/
def sp_X5_flow (p0 : Int32) (σ : Mem) (K : Int32 → Mem → Prop) (X : String → Mem → Prop) : Prop := (∀ σ2 : Mem, σ2 = wi σ 209 0 0 → sp_X5_isPipe p0 σ2 (fun r7 σ7 => (¬ r7 = 0 → sp_X5_looks  σ7 (fun σ20 => (vp_in p0 10) ∧ (K (σ20.1 228 p0.toNatClampNeg) σ20)) X) ∧ (r7 = 0 → sp_X5_raises 1 σ7 (fun r15 σ15 => K r15 σ15) X)) X)
set_option maxRecDepth 4000 in
theorem sg_X5_flow_0 {x : Ctx} {K : Int32 → Mem → Prop} {X : String → Mem → Prop} (C : Cx x RX5 cX5_flow 2) (r : RtI x 7 0 (some .int) K X) (p0 : Int32)  (σ : Mem) (h : ∀ σ2 : Mem, σ2 = wi σ 209 0 0 → sp_X5_isPipe p0 σ2 (fun r7 σ7 => (¬ r7 = 0 → sp_X5_looks  σ7 (fun σ20 => (vp_in p0 10) ∧ (K (σ20.1 228 p0.toNatClampNeg) σ20)) X) ∧ (r7 = 0 → sp_X5_raises 1 σ7 (fun r15 σ15 => K r15 σ15) X)) X) : Ws x 0 0 [(0, .ref 209), (1, .int p0)] [] σ := by
  refine r_aload_n (j := 0) C 1 dX5_flow_0 rfl rfl ?_
  refine r_iconst C 2 (v := 0) dX5_flow_1 rfl (by decide) ?_
  refine r_putI (k := 0) C cl7 5 dX5_flow_2 rfl kd_209 (by decide) wd_1212 rfl rfl rfl rfl ?_
  refine r_nmS (fun σ2 e2 => ?_)
  have h := h σ2 e2
  refine r_aload_n (j := 0) C 6 dX5_flow_5 rfl rfl ?_
  refine r_iload_n (j := 1) C 7 dX5_flow_6 rfl rfl ?_
  refine r_cVI (as := [.int p0]) (S := []) C r.px 10 (ct_X5_isPipe _ _ _ _ h) dX5_flow_7 rfl cl7 kd_209 wd_50 wd_1384 rfl wd_1382 wd_1385 wd_95 yd_X5_isPipe ⟨Nat.le_of_ble_eq_true rfl, Nat.le_of_ble_eq_true rfl⟩ (Nat.le_of_ble_eq_true rfl) (by decide) (fun r7 σ7 h => ?_)
  refine r_if_ne C 19 13 dX5_flow_10 (by decide) rfl (fun c10 => ?_) (fun c10 => ?_)
  · have h := h.1 c10
    refine r_aload_n (j := 0) C 20 dX5_flow_19 rfl rfl ?_
    refine r_cVV (as := []) (S := []) C r.px 23 (ct_X5_looks  _ _ _ h) dX5_flow_20 rfl cl7 kd_209 wd_56 wd_1428 rfl wd_1426 wd_1429 wd_95 yd_X5_looks ⟨Nat.le_of_ble_eq_true rfl, Nat.le_of_ble_eq_true rfl⟩ (Nat.le_of_ble_eq_true rfl) (by decide) (fun σ20 h => ?_)
    refine r_aload_n (j := 0) C 24 dX5_flow_23 rfl rfl ?_
    refine r_get (k := 26) C cl7 27 dX5_flow_24 rfl kd_209 (by decide) wd_1238 (.ref 228) (fun _ => rfl) ?_
    refine r_iload_n (j := 1) C 28 dX5_flow_27 rfl rfl ?_
    obtain ⟨o28, h⟩ := h
    refine r_iald C 29 dX5_flow_28 rfl kd_228 o28 ?_
    exact r_iret (S := []) C r dX5_flow_29 (by decide) rfl h
  · have h := h.2 c10
    refine r_aload_n (j := 0) C 14 dX5_flow_13 rfl rfl ?_
    refine r_iconst C 15 (v := 1) dX5_flow_14 rfl (by decide) ?_
    refine r_cVI (as := [.int 1]) (S := []) C r.px 18 (ct_X5_raises _ _ _ _ h) dX5_flow_15 rfl cl7 kd_209 wd_40 wd_1325 rfl wd_1323 wd_1326 wd_95 yd_X5_raises ⟨Nat.le_of_ble_eq_true rfl, Nat.le_of_ble_eq_true rfl⟩ (Nat.le_of_ble_eq_true rfl) (by decide) (fun r15 σ15 h => ?_)
    exact r_iret (S := []) C r dX5_flow_18 (by decide) rfl h
theorem ct_X5_flow (p0 : Int32) (σ : Mem) (K : Int32 → Mem → Prop) (X : String → Mem → Prop) (h : sp_X5_flow p0 σ K X) : CtI yX5_flow cX5_flow 2 (some .int) 7 0 [.ref 209, .int p0] σ K X := by
  have h := h
  exact ctI_of (by decide +kernel) (Nat.le_of_ble_eq_true rfl) (fun x C r => sg_X5_flow_0 C r p0  σ h)
/-! HeatNetworkModel.imbalance()J: level 7, exceptions 0 -/
def sp_X5_imbalance  (σ : Mem) (K : Int64 → Mem → Prop) (X : String → Mem → Prop) : Prop := (∀ σ2 : Mem, σ2 = wi σ 209 0 0 → sp_X5_looks  σ2 (fun σ6 => (¬ (σ6.1 209 22) = 0 → K (σ6.2.1 209 31) σ6) ∧ ((σ6.1 209 22) = 0 → sp_X5_raises 1 σ6 (fun r18 σ18 => K (r18).toInt64 σ18) X)) X)
set_option maxRecDepth 4000 in
theorem sg_X5_imbalance_0 {x : Ctx} {K : Int64 → Mem → Prop} {X : String → Mem → Prop} (C : Cx x RX5 cX5_imbalance 1) (r : RtL x 7 0 (some .long) K X)   (σ : Mem) (h : ∀ σ2 : Mem, σ2 = wi σ 209 0 0 → sp_X5_looks  σ2 (fun σ6 => (¬ (σ6.1 209 22) = 0 → K (σ6.2.1 209 31) σ6) ∧ ((σ6.1 209 22) = 0 → sp_X5_raises 1 σ6 (fun r18 σ18 => K (r18).toInt64 σ18) X)) X) : Ws x 0 0 [(0, .ref 209)] [] σ := by
  refine r_aload_n (j := 0) C 1 dX5_imbalance_0 rfl rfl ?_
  refine r_iconst C 2 (v := 0) dX5_imbalance_1 rfl (by decide) ?_
  refine r_putI (k := 0) C cl7 5 dX5_imbalance_2 rfl kd_209 (by decide) wd_1212 rfl rfl rfl rfl ?_
  refine r_nmS (fun σ2 e2 => ?_)
  have h := h σ2 e2
  refine r_aload_n (j := 0) C 6 dX5_imbalance_5 rfl rfl ?_
  refine r_cVV (as := []) (S := []) C r.px 9 (ct_X5_looks  _ _ _ h) dX5_imbalance_6 rfl cl7 kd_209 wd_56 wd_1428 rfl wd_1426 wd_1429 wd_95 yd_X5_looks ⟨Nat.le_of_ble_eq_true rfl, Nat.le_of_ble_eq_true rfl⟩ (Nat.le_of_ble_eq_true rfl) (by decide) (fun σ6 h => ?_)
  refine r_aload_n (j := 0) C 10 dX5_imbalance_9 rfl rfl ?_
  refine r_get (k := 22) C cl7 13 dX5_imbalance_10 rfl kd_209 (by decide) wd_1234 (.int (σ6.1 209 22)) (fun _ => rfl) ?_
  refine r_if_ne C 25 16 dX5_imbalance_13 (by decide) rfl (fun c13 => ?_) (fun c13 => ?_)
  · have h := h.1 c13
    refine r_aload_n (j := 0) C 26 dX5_imbalance_25 rfl rfl ?_
    refine r_get (k := 31) C cl7 29 dX5_imbalance_26 rfl kd_209 (by decide) wd_1243 (.long (σ6.2.1 209 31)) (fun _ => rfl) ?_
    exact r_lret (S := []) C r dX5_imbalance_29 (by decide) h
  · have h := h.2 c13
    refine r_aload_n (j := 0) C 17 dX5_imbalance_16 rfl rfl ?_
    refine r_iconst C 18 (v := 1) dX5_imbalance_17 rfl (by decide) ?_
    refine r_cVI (as := [.int 1]) (S := []) C r.px 21 (ct_X5_raises _ _ _ _ h) dX5_imbalance_18 rfl cl7 kd_209 wd_40 wd_1325 rfl wd_1323 wd_1326 wd_95 yd_X5_raises ⟨Nat.le_of_ble_eq_true rfl, Nat.le_of_ble_eq_true rfl⟩ (Nat.le_of_ble_eq_true rfl) (by decide) (fun r18 σ18 h => ?_)
    refine r_i2l C 22 dX5_imbalance_21 rfl ?_
    refine r_goto C 29 dX5_imbalance_22 (by decide) ?_
    exact r_lret (S := []) C r dX5_imbalance_29 (by decide) h
theorem ct_X5_imbalance  (σ : Mem) (K : Int64 → Mem → Prop) (X : String → Mem → Prop) (h : sp_X5_imbalance  σ K X) : CtL yX5_imbalance cX5_imbalance 1 (some .long) 7 0 [.ref 209] σ K X := by
  have h := h
  exact ctL_of (by decide +kernel) (Nat.le_of_ble_eq_true rfl) (fun x C r => sg_X5_imbalance_0 C r   σ h)
/-! HeatNetworkModel.loss(I)J: level 7, exceptions 0 -/
def sp_X5_loss (p0 : Int32) (σ : Mem) (K : Int64 → Mem → Prop) (X : String → Mem → Prop) : Prop := (∀ σ2 : Mem, σ2 = wi σ 209 0 0 → sp_X5_isPipe p0 σ2 (fun r7 σ7 => (¬ r7 = 0 → sp_X5_looks  σ7 (fun σ21 => sp_X5_loses p0 σ21 (fun r26 σ26 => K r26 σ26) X) X) ∧ (r7 = 0 → sp_X5_raises 1 σ7 (fun r15 σ15 => K (r15).toInt64 σ15) X)) X)
set_option maxRecDepth 4000 in
theorem sg_X5_loss_0 {x : Ctx} {K : Int64 → Mem → Prop} {X : String → Mem → Prop} (C : Cx x RX5 cX5_loss 2) (r : RtL x 7 0 (some .long) K X) (p0 : Int32)  (σ : Mem) (h : ∀ σ2 : Mem, σ2 = wi σ 209 0 0 → sp_X5_isPipe p0 σ2 (fun r7 σ7 => (¬ r7 = 0 → sp_X5_looks  σ7 (fun σ21 => sp_X5_loses p0 σ21 (fun r26 σ26 => K r26 σ26) X) X) ∧ (r7 = 0 → sp_X5_raises 1 σ7 (fun r15 σ15 => K (r15).toInt64 σ15) X)) X) : Ws x 0 0 [(0, .ref 209), (1, .int p0)] [] σ := by
  refine r_aload_n (j := 0) C 1 dX5_loss_0 rfl rfl ?_
  refine r_iconst C 2 (v := 0) dX5_loss_1 rfl (by decide) ?_
  refine r_putI (k := 0) C cl7 5 dX5_loss_2 rfl kd_209 (by decide) wd_1212 rfl rfl rfl rfl ?_
  refine r_nmS (fun σ2 e2 => ?_)
  have h := h σ2 e2
  refine r_aload_n (j := 0) C 6 dX5_loss_5 rfl rfl ?_
  refine r_iload_n (j := 1) C 7 dX5_loss_6 rfl rfl ?_
  refine r_cVI (as := [.int p0]) (S := []) C r.px 10 (ct_X5_isPipe _ _ _ _ h) dX5_loss_7 rfl cl7 kd_209 wd_50 wd_1384 rfl wd_1382 wd_1385 wd_95 yd_X5_isPipe ⟨Nat.le_of_ble_eq_true rfl, Nat.le_of_ble_eq_true rfl⟩ (Nat.le_of_ble_eq_true rfl) (by decide) (fun r7 σ7 h => ?_)
  refine r_if_ne C 20 13 dX5_loss_10 (by decide) rfl (fun c10 => ?_) (fun c10 => ?_)
  · have h := h.1 c10
    refine r_aload_n (j := 0) C 21 dX5_loss_20 rfl rfl ?_
    refine r_cVV (as := []) (S := []) C r.px 24 (ct_X5_looks  _ _ _ h) dX5_loss_21 rfl cl7 kd_209 wd_56 wd_1428 rfl wd_1426 wd_1429 wd_95 yd_X5_looks ⟨Nat.le_of_ble_eq_true rfl, Nat.le_of_ble_eq_true rfl⟩ (Nat.le_of_ble_eq_true rfl) (by decide) (fun σ21 h => ?_)
    refine r_aload_n (j := 0) C 25 dX5_loss_24 rfl rfl ?_
    refine r_iload_n (j := 1) C 26 dX5_loss_25 rfl rfl ?_
    refine r_cVL (as := [.int p0]) (S := []) C r.px 29 (ct_X5_loses _ _ _ _ h) dX5_loss_26 rfl cl7 kd_209 wd_87 wd_1609 rfl wd_1607 wd_1610 wd_95 yd_X5_loses ⟨Nat.le_of_ble_eq_true rfl, Nat.le_of_ble_eq_true rfl⟩ (Nat.le_of_ble_eq_true rfl) (by decide) (fun r26 σ26 h => ?_)
    exact r_lret (S := []) C r dX5_loss_29 (by decide) h
  · have h := h.2 c10
    refine r_aload_n (j := 0) C 14 dX5_loss_13 rfl rfl ?_
    refine r_iconst C 15 (v := 1) dX5_loss_14 rfl (by decide) ?_
    refine r_cVI (as := [.int 1]) (S := []) C r.px 18 (ct_X5_raises _ _ _ _ h) dX5_loss_15 rfl cl7 kd_209 wd_40 wd_1325 rfl wd_1323 wd_1326 wd_95 yd_X5_raises ⟨Nat.le_of_ble_eq_true rfl, Nat.le_of_ble_eq_true rfl⟩ (Nat.le_of_ble_eq_true rfl) (by decide) (fun r15 σ15 h => ?_)
    refine r_i2l C 19 dX5_loss_18 rfl ?_
    exact r_lret (S := []) C r dX5_loss_19 (by decide) h
theorem ct_X5_loss (p0 : Int32) (σ : Mem) (K : Int64 → Mem → Prop) (X : String → Mem → Prop) (h : sp_X5_loss p0 σ K X) : CtL yX5_loss cX5_loss 2 (some .long) 7 0 [.ref 209, .int p0] σ K X := by
  have h := h
  exact ctL_of (by decide +kernel) (Nat.le_of_ble_eq_true rfl) (fun x C r => sg_X5_loss_0 C r p0  σ h)
/-! HeatNetworkModel.meter(II)J: level 7, exceptions 0 -/
def sp_X5_meter (p0 : Int32) (p1 : Int32) (σ : Mem) (K : Int64 → Mem → Prop) (X : String → Mem → Prop) : Prop := (∀ σ2 : Mem, σ2 = wi σ 209 0 0 → sp_X5_hasStation p0 σ2 (fun r7 σ7 => (¬ r7 = 0 → sp_X5_in p1 0 3 σ7 (fun r23 σ23 => (¬ r23 = 0 → (3 ≤ p1 → sp_X5_looks  σ23 (fun σ54 => sp_X5_heat p0 σ54 (fun r59 σ59 => K r59 σ59) X) X) ∧ (¬ 3 ≤ p1 → (vp_in ((10 * p1) + p0) 34) ∧ (K (σ23.2.1 211 (((10 * p1) + p0)).toNatClampNeg) σ23))) ∧ (r23 = 0 → sp_X5_raises 2 σ23 (fun r31 σ31 => K (r31).toInt64 σ31) X)) X) ∧ (r7 = 0 → sp_X5_raises 1 σ7 (fun r15 σ15 => K (r15).toInt64 σ15) X)) X)
set_option maxRecDepth 4000 in
theorem sg_X5_meter_0 {x : Ctx} {K : Int64 → Mem → Prop} {X : String → Mem → Prop} (C : Cx x RX5 cX5_meter 3) (r : RtL x 7 0 (some .long) K X) (p0 : Int32) (p1 : Int32)  (σ : Mem) (h : ∀ σ2 : Mem, σ2 = wi σ 209 0 0 → sp_X5_hasStation p0 σ2 (fun r7 σ7 => (¬ r7 = 0 → sp_X5_in p1 0 3 σ7 (fun r23 σ23 => (¬ r23 = 0 → (3 ≤ p1 → sp_X5_looks  σ23 (fun σ54 => sp_X5_heat p0 σ54 (fun r59 σ59 => K r59 σ59) X) X) ∧ (¬ 3 ≤ p1 → (vp_in ((10 * p1) + p0) 34) ∧ (K (σ23.2.1 211 (((10 * p1) + p0)).toNatClampNeg) σ23))) ∧ (r23 = 0 → sp_X5_raises 2 σ23 (fun r31 σ31 => K (r31).toInt64 σ31) X)) X) ∧ (r7 = 0 → sp_X5_raises 1 σ7 (fun r15 σ15 => K (r15).toInt64 σ15) X)) X) : Ws x 0 0 [(0, .ref 209), (1, .int p0), (2, .int p1)] [] σ := by
  refine r_aload_n (j := 0) C 1 dX5_meter_0 rfl rfl ?_
  refine r_iconst C 2 (v := 0) dX5_meter_1 rfl (by decide) ?_
  refine r_putI (k := 0) C cl7 5 dX5_meter_2 rfl kd_209 (by decide) wd_1212 rfl rfl rfl rfl ?_
  refine r_nmS (fun σ2 e2 => ?_)
  have h := h σ2 e2
  refine r_aload_n (j := 0) C 6 dX5_meter_5 rfl rfl ?_
  refine r_iload_n (j := 1) C 7 dX5_meter_6 rfl rfl ?_
  refine r_cVI (as := [.int p0]) (S := []) C r.px 10 (ct_X5_hasStation _ _ _ _ h) dX5_meter_7 rfl cl7 kd_209 wd_52 wd_1396 rfl wd_1394 wd_1397 wd_95 yd_X5_hasStation ⟨Nat.le_of_ble_eq_true rfl, Nat.le_of_ble_eq_true rfl⟩ (Nat.le_of_ble_eq_true rfl) (by decide) (fun r7 σ7 h => ?_)
  refine r_if_ne C 20 13 dX5_meter_10 (by decide) rfl (fun c10 => ?_) (fun c10 => ?_)
  · have h := h.1 c10
    refine r_iload_n (j := 2) C 21 dX5_meter_20 rfl rfl ?_
    refine r_iconst C 22 (v := 0) dX5_meter_21 rfl (by decide) ?_
    refine r_iconst C 23 (v := 3) dX5_meter_22 rfl (by decide) ?_
    refine r_cSI (b := 0) (as := [.int p1, .int 0, .int 3]) (S := []) C r.px 26 (ct_X5_in _ _ _ _ _ _ h) dX5_meter_23 rfl wd_1321 wd_1320 wd_1322 wd_95 yd_X5_in ⟨Nat.le_of_ble_eq_true rfl, Nat.le_of_ble_eq_true rfl⟩ (Nat.le_of_ble_eq_true rfl) (by decide) (fun r23 σ23 h => ?_)
    refine r_if_ne C 36 29 dX5_meter_26 (by decide) rfl (fun c26 => ?_) (fun c26 => ?_)
    · have h := h.1 c26
      refine r_iload_n (j := 2) C 37 dX5_meter_36 rfl rfl ?_
      refine r_iconst C 38 (v := 3) dX5_meter_37 rfl (by decide) ?_
      refine r_icmp_ge C 53 41 dX5_meter_38 (by decide) rfl (fun c38 => ?_) (fun c38 => ?_)
      · have h := h.1 c38
        refine r_aload_n (j := 0) C 54 dX5_meter_53 rfl rfl ?_
        refine r_cVV (as := []) (S := []) C r.px 57 (ct_X5_looks  _ _ _ h) dX5_meter_54 rfl cl7 kd_209 wd_56 wd_1428 rfl wd_1426 wd_1429 wd_95 yd_X5_looks ⟨Nat.le_of_ble_eq_true rfl, Nat.le_of_ble_eq_true rfl⟩ (Nat.le_of_ble_eq_true rfl) (by decide) (fun σ54 h => ?_)
        refine r_aload_n (j := 0) C 58 dX5_meter_57 rfl rfl ?_
        refine r_iload_n (j := 1) C 59 dX5_meter_58 rfl rfl ?_
        refine r_cVL (as := [.int p0]) (S := []) C r.px 62 (ct_X5_heat _ _ _ _ h) dX5_meter_59 rfl cl7 kd_209 wd_76 wd_1519 rfl wd_1517 wd_1520 wd_95 yd_X5_heat ⟨Nat.le_of_ble_eq_true rfl, Nat.le_of_ble_eq_true rfl⟩ (Nat.le_of_ble_eq_true rfl) (by decide) (fun r59 σ59 h => ?_)
        exact r_lret (S := []) C r dX5_meter_62 (by decide) h
      · have h := h.2 c38
        refine r_aload_n (j := 0) C 42 dX5_meter_41 rfl rfl ?_
        refine r_get (k := 2) C cl7 45 dX5_meter_42 rfl kd_209 (by decide) wd_1214 (.ref 211) (fun _ => rfl) ?_
        refine r_bipush C 47 (v := 10) dX5_meter_45 rfl (by decide) ?_
        refine r_iload_n (j := 2) C 48 dX5_meter_47 rfl rfl ?_
        refine r_imul C 49 dX5_meter_48 rfl ?_
        refine r_iload_n (j := 1) C 50 dX5_meter_49 rfl rfl ?_
        refine r_iadd C 51 dX5_meter_50 rfl ?_
        obtain ⟨o51, h⟩ := h
        refine r_lald C 52 dX5_meter_51 rfl kd_211 o51 ?_
        exact r_lret (S := []) C r dX5_meter_52 (by decide) h
    · have h := h.2 c26
      refine r_aload_n (j := 0) C 30 dX5_meter_29 rfl rfl ?_
      refine r_iconst C 31 (v := 2) dX5_meter_30 rfl (by decide) ?_
      refine r_cVI (as := [.int 2]) (S := []) C r.px 34 (ct_X5_raises _ _ _ _ h) dX5_meter_31 rfl cl7 kd_209 wd_40 wd_1325 rfl wd_1323 wd_1326 wd_95 yd_X5_raises ⟨Nat.le_of_ble_eq_true rfl, Nat.le_of_ble_eq_true rfl⟩ (Nat.le_of_ble_eq_true rfl) (by decide) (fun r31 σ31 h => ?_)
      refine r_i2l C 35 dX5_meter_34 rfl ?_
      exact r_lret (S := []) C r dX5_meter_35 (by decide) h
  · have h := h.2 c10
    refine r_aload_n (j := 0) C 14 dX5_meter_13 rfl rfl ?_
    refine r_iconst C 15 (v := 1) dX5_meter_14 rfl (by decide) ?_
    refine r_cVI (as := [.int 1]) (S := []) C r.px 18 (ct_X5_raises _ _ _ _ h) dX5_meter_15 rfl cl7 kd_209 wd_40 wd_1325 rfl wd_1323 wd_1326 wd_95 yd_X5_raises ⟨Nat.le_of_ble_eq_true rfl, Nat.le_of_ble_eq_true rfl⟩ (Nat.le_of_ble_eq_true rfl) (by decide) (fun r15 σ15 h => ?_)
    refine r_i2l C 19 dX5_meter_18 rfl ?_
    exact r_lret (S := []) C r dX5_meter_19 (by decide) h
theorem ct_X5_meter (p0 : Int32) (p1 : Int32) (σ : Mem) (K : Int64 → Mem → Prop) (X : String → Mem → Prop) (h : sp_X5_meter p0 p1 σ K X) : CtL yX5_meter cX5_meter 3 (some .long) 7 0 [.ref 209, .int p0, .int p1] σ K X := by
  have h := h
  exact ctL_of (by decide +kernel) (Nat.le_of_ble_eq_true rfl) (fun x C r => sg_X5_meter_0 C r p0 p1  σ h)
/-! HeatNetworkModel.returnDegrees()F: level 7, exceptions 0 -/
def sp_X5_returnDegrees  (σ : Mem) (K : UInt32 → Mem → Prop) (X : String → Mem → Prop) : Prop := (∀ σ2 : Mem, σ2 = wi σ 209 0 0 → sp_X5_looks  σ2 (fun σ6 => (vf_n32 (FP.fdiv (FP.i2f (σ6.1 230 0)) 1092616192)) ∧ (K (FP.fdiv (FP.i2f (σ6.1 230 0)) 1092616192) σ6)) X)
set_option maxRecDepth 4000 in
theorem sg_X5_returnDegrees_0 {x : Ctx} {K : UInt32 → Mem → Prop} {X : String → Mem → Prop} (C : Cx x RX5 cX5_returnDegrees 1) (r : RtF x 7 0 (some .float) K X)   (σ : Mem) (h : ∀ σ2 : Mem, σ2 = wi σ 209 0 0 → sp_X5_looks  σ2 (fun σ6 => (vf_n32 (FP.fdiv (FP.i2f (σ6.1 230 0)) 1092616192)) ∧ (K (FP.fdiv (FP.i2f (σ6.1 230 0)) 1092616192) σ6)) X) : Ws x 0 0 [(0, .ref 209)] [] σ := by
  refine r_aload_n (j := 0) C 1 dX5_returnDegrees_0 rfl rfl ?_
  refine r_iconst C 2 (v := 0) dX5_returnDegrees_1 rfl (by decide) ?_
  refine r_putI (k := 0) C cl7 5 dX5_returnDegrees_2 rfl kd_209 (by decide) wd_1212 rfl rfl rfl rfl ?_
  refine r_nmS (fun σ2 e2 => ?_)
  have h := h σ2 e2
  refine r_aload_n (j := 0) C 6 dX5_returnDegrees_5 rfl rfl ?_
  refine r_cVV (as := []) (S := []) C r.px 9 (ct_X5_looks  _ _ _ h) dX5_returnDegrees_6 rfl cl7 kd_209 wd_56 wd_1428 rfl wd_1426 wd_1429 wd_95 yd_X5_looks ⟨Nat.le_of_ble_eq_true rfl, Nat.le_of_ble_eq_true rfl⟩ (Nat.le_of_ble_eq_true rfl) (by decide) (fun σ6 h => ?_)
  refine r_aload_n (j := 0) C 10 dX5_returnDegrees_9 rfl rfl ?_
  refine r_get (k := 28) C cl7 13 dX5_returnDegrees_10 rfl kd_209 (by decide) wd_1240 (.ref 230) (fun _ => rfl) ?_
  refine r_iconst C 14 (v := 0) dX5_returnDegrees_13 rfl (by decide) ?_
  refine r_iald C 15 dX5_returnDegrees_14 rfl kd_230 (n_inR (n := 0) (by decide) (by decide)) ?_
  refine r_i2f C 16 dX5_returnDegrees_15 rfl ?_
  refine r_ldcfw C 19 (v := 1092616192) dX5_returnDegrees_16 rfl wd_1676 ?_
  obtain ⟨o19, h⟩ := h
  refine r_fdiv C 20 dX5_returnDegrees_19 rfl o19 ?_
  exact r_fret (S := []) C r dX5_returnDegrees_20 (by decide) h
theorem ct_X5_returnDegrees  (σ : Mem) (K : UInt32 → Mem → Prop) (X : String → Mem → Prop) (h : sp_X5_returnDegrees  σ K X) : CtF yX5_returnDegrees cX5_returnDegrees 1 (some .float) 7 0 [.ref 209] σ K X := by
  have h := h
  exact ctF_of (by decide +kernel) (Nat.le_of_ble_eq_true rfl) (fun x C r => sg_X5_returnDegrees_0 C r   σ h)
/-! HeatNetworkModel.rounding(I)J: level 7, exceptions 0 -/
def sp_X5_rounding (p0 : Int32) (σ : Mem) (K : Int64 → Mem → Prop) (X : String → Mem → Prop) : Prop := (∀ σ2 : Mem, σ2 = wi σ 209 0 0 → sp_X5_isNode p0 σ2 (fun r6 σ6 => (¬ r6 = 0 → sp_X5_looks  σ6 (fun σ20 => (vp_in p0 10) ∧ (K (σ20.2.1 231 p0.toNatClampNeg) σ20)) X) ∧ (r6 = 0 → sp_X5_raises 1 σ6 (fun r14 σ14 => K (r14).toInt64 σ14) X)) X)
set_option maxRecDepth 4000 in
theorem sg_X5_rounding_0 {x : Ctx} {K : Int64 → Mem → Prop} {X : String → Mem → Prop} (C : Cx x RX5 cX5_rounding 2) (r : RtL x 7 0 (some .long) K X) (p0 : Int32)  (σ : Mem) (h : ∀ σ2 : Mem, σ2 = wi σ 209 0 0 → sp_X5_isNode p0 σ2 (fun r6 σ6 => (¬ r6 = 0 → sp_X5_looks  σ6 (fun σ20 => (vp_in p0 10) ∧ (K (σ20.2.1 231 p0.toNatClampNeg) σ20)) X) ∧ (r6 = 0 → sp_X5_raises 1 σ6 (fun r14 σ14 => K (r14).toInt64 σ14) X)) X) : Ws x 0 0 [(0, .ref 209), (1, .int p0)] [] σ := by
  refine r_aload_n (j := 0) C 1 dX5_rounding_0 rfl rfl ?_
  refine r_iconst C 2 (v := 0) dX5_rounding_1 rfl (by decide) ?_
  refine r_putI (k := 0) C cl7 5 dX5_rounding_2 rfl kd_209 (by decide) wd_1212 rfl rfl rfl rfl ?_
  refine r_nmS (fun σ2 e2 => ?_)
  have h := h σ2 e2
  refine r_iload_n (j := 1) C 6 dX5_rounding_5 rfl rfl ?_
  refine r_cSI (b := 0) (as := [.int p0]) (S := []) C r.px 9 (ct_X5_isNode _ _ _ _ h) dX5_rounding_6 rfl wd_1356 wd_1355 wd_1357 wd_95 yd_X5_isNode ⟨Nat.le_of_ble_eq_true rfl, Nat.le_of_ble_eq_true rfl⟩ (Nat.le_of_ble_eq_true rfl) (by decide) (fun r6 σ6 h => ?_)
  refine r_if_ne C 19 12 dX5_rounding_9 (by decide) rfl (fun c9 => ?_) (fun c9 => ?_)
  · have h := h.1 c9
    refine r_aload_n (j := 0) C 20 dX5_rounding_19 rfl rfl ?_
    refine r_cVV (as := []) (S := []) C r.px 23 (ct_X5_looks  _ _ _ h) dX5_rounding_20 rfl cl7 kd_209 wd_56 wd_1428 rfl wd_1426 wd_1429 wd_95 yd_X5_looks ⟨Nat.le_of_ble_eq_true rfl, Nat.le_of_ble_eq_true rfl⟩ (Nat.le_of_ble_eq_true rfl) (by decide) (fun σ20 h => ?_)
    refine r_aload_n (j := 0) C 24 dX5_rounding_23 rfl rfl ?_
    refine r_get (k := 29) C cl7 27 dX5_rounding_24 rfl kd_209 (by decide) wd_1241 (.ref 231) (fun _ => rfl) ?_
    refine r_iload_n (j := 1) C 28 dX5_rounding_27 rfl rfl ?_
    obtain ⟨o28, h⟩ := h
    refine r_lald C 29 dX5_rounding_28 rfl kd_231 o28 ?_
    exact r_lret (S := []) C r dX5_rounding_29 (by decide) h
  · have h := h.2 c9
    refine r_aload_n (j := 0) C 13 dX5_rounding_12 rfl rfl ?_
    refine r_iconst C 14 (v := 1) dX5_rounding_13 rfl (by decide) ?_
    refine r_cVI (as := [.int 1]) (S := []) C r.px 17 (ct_X5_raises _ _ _ _ h) dX5_rounding_14 rfl cl7 kd_209 wd_40 wd_1325 rfl wd_1323 wd_1326 wd_95 yd_X5_raises ⟨Nat.le_of_ble_eq_true rfl, Nat.le_of_ble_eq_true rfl⟩ (Nat.le_of_ble_eq_true rfl) (by decide) (fun r14 σ14 h => ?_)
    refine r_i2l C 18 dX5_rounding_17 rfl ?_
    exact r_lret (S := []) C r dX5_rounding_18 (by decide) h
theorem ct_X5_rounding (p0 : Int32) (σ : Mem) (K : Int64 → Mem → Prop) (X : String → Mem → Prop) (h : sp_X5_rounding p0 σ K X) : CtL yX5_rounding cX5_rounding 2 (some .long) 7 0 [.ref 209, .int p0] σ K X := by
  have h := h
  exact ctL_of (by decide +kernel) (Nat.le_of_ble_eq_true rfl) (fun x C r => sg_X5_rounding_0 C r p0  σ h)
/-! HeatNetworkModel.rounds()I: level 7, exceptions 0 -/
def sp_X5_rounds  (σ : Mem) (K : Int32 → Mem → Prop) (X : String → Mem → Prop) : Prop := (∀ σ2 : Mem, σ2 = wi σ 209 0 0 → sp_X5_looks  σ2 (fun σ6 => K (σ6.1 209 32) σ6) X)
set_option maxRecDepth 4000 in
theorem sg_X5_rounds_0 {x : Ctx} {K : Int32 → Mem → Prop} {X : String → Mem → Prop} (C : Cx x RX5 cX5_rounds 1) (r : RtI x 7 0 (some .int) K X)   (σ : Mem) (h : ∀ σ2 : Mem, σ2 = wi σ 209 0 0 → sp_X5_looks  σ2 (fun σ6 => K (σ6.1 209 32) σ6) X) : Ws x 0 0 [(0, .ref 209)] [] σ := by
  refine r_aload_n (j := 0) C 1 dX5_rounds_0 rfl rfl ?_
  refine r_iconst C 2 (v := 0) dX5_rounds_1 rfl (by decide) ?_
  refine r_putI (k := 0) C cl7 5 dX5_rounds_2 rfl kd_209 (by decide) wd_1212 rfl rfl rfl rfl ?_
  refine r_nmS (fun σ2 e2 => ?_)
  have h := h σ2 e2
  refine r_aload_n (j := 0) C 6 dX5_rounds_5 rfl rfl ?_
  refine r_cVV (as := []) (S := []) C r.px 9 (ct_X5_looks  _ _ _ h) dX5_rounds_6 rfl cl7 kd_209 wd_56 wd_1428 rfl wd_1426 wd_1429 wd_95 yd_X5_looks ⟨Nat.le_of_ble_eq_true rfl, Nat.le_of_ble_eq_true rfl⟩ (Nat.le_of_ble_eq_true rfl) (by decide) (fun σ6 h => ?_)
  refine r_aload_n (j := 0) C 10 dX5_rounds_9 rfl rfl ?_
  refine r_get (k := 32) C cl7 13 dX5_rounds_10 rfl kd_209 (by decide) wd_1244 (.int (σ6.1 209 32)) (fun _ => rfl) ?_
  exact r_iret (S := []) C r dX5_rounds_13 (by decide) rfl h
theorem ct_X5_rounds  (σ : Mem) (K : Int32 → Mem → Prop) (X : String → Mem → Prop) (h : sp_X5_rounds  σ K X) : CtI yX5_rounds cX5_rounds 1 (some .int) 7 0 [.ref 209] σ K X := by
  have h := h
  exact ctI_of (by decide +kernel) (Nat.le_of_ble_eq_true rfl) (fun x C r => sg_X5_rounds_0 C r   σ h)
/-! HeatNetworkModel.station(II)I: level 7, exceptions 0 -/
def sp_X5_station (p0 : Int32) (p1 : Int32) (σ : Mem) (K : Int32 → Mem → Prop) (X : String → Mem → Prop) : Prop := (∀ σ2 : Mem, σ2 = wi σ 209 0 0 → sp_X5_hasStation p0 σ2 (fun r7 σ7 => (¬ r7 = 0 → sp_X5_in p1 0 7 σ7 (fun r23 σ23 => (¬ r23 = 0 → (5 ≤ p1 → (¬ p1 = 5 → (¬ p1 = 7 → sp_X5_looks  σ23 (fun σ81 => (vp_in p0 10) ∧ (K (σ81.1 225 p0.toNatClampNeg) σ81)) X) ∧ (p1 = 7 → sp_X5_tariff p0 σ23 (fun r76 σ76 => K r76 σ76) X)) ∧ (p1 = 5 → sp_X5_wants p0 σ23 (fun r64 σ64 => K r64 σ64) X)) ∧ (¬ 5 ≤ p1 → (vp_in (((48 + (6 * p0)) + p1) + 1) 108) ∧ (K (σ23.1 210 ((((48 + (6 * p0)) + p1) + 1)).toNatClampNeg) σ23))) ∧ (r23 = 0 → sp_X5_raises 2 σ23 (fun r31 σ31 => K r31 σ31) X)) X) ∧ (r7 = 0 → sp_X5_raises 1 σ7 (fun r15 σ15 => K r15 σ15) X)) X)
set_option maxRecDepth 4000 in
theorem sg_X5_station_0 {x : Ctx} {K : Int32 → Mem → Prop} {X : String → Mem → Prop} (C : Cx x RX5 cX5_station 3) (r : RtI x 7 0 (some .int) K X) (p0 : Int32) (p1 : Int32)  (σ : Mem) (h : ∀ σ2 : Mem, σ2 = wi σ 209 0 0 → sp_X5_hasStation p0 σ2 (fun r7 σ7 => (¬ r7 = 0 → sp_X5_in p1 0 7 σ7 (fun r23 σ23 => (¬ r23 = 0 → (5 ≤ p1 → (¬ p1 = 5 → (¬ p1 = 7 → sp_X5_looks  σ23 (fun σ81 => (vp_in p0 10) ∧ (K (σ81.1 225 p0.toNatClampNeg) σ81)) X) ∧ (p1 = 7 → sp_X5_tariff p0 σ23 (fun r76 σ76 => K r76 σ76) X)) ∧ (p1 = 5 → sp_X5_wants p0 σ23 (fun r64 σ64 => K r64 σ64) X)) ∧ (¬ 5 ≤ p1 → (vp_in (((48 + (6 * p0)) + p1) + 1) 108) ∧ (K (σ23.1 210 ((((48 + (6 * p0)) + p1) + 1)).toNatClampNeg) σ23))) ∧ (r23 = 0 → sp_X5_raises 2 σ23 (fun r31 σ31 => K r31 σ31) X)) X) ∧ (r7 = 0 → sp_X5_raises 1 σ7 (fun r15 σ15 => K r15 σ15) X)) X) : Ws x 0 0 [(0, .ref 209), (1, .int p0), (2, .int p1)] [] σ := by
  refine r_aload_n (j := 0) C 1 dX5_station_0 rfl rfl ?_
  refine r_iconst C 2 (v := 0) dX5_station_1 rfl (by decide) ?_
  refine r_putI (k := 0) C cl7 5 dX5_station_2 rfl kd_209 (by decide) wd_1212 rfl rfl rfl rfl ?_
  refine r_nmS (fun σ2 e2 => ?_)
  have h := h σ2 e2
  refine r_aload_n (j := 0) C 6 dX5_station_5 rfl rfl ?_
  refine r_iload_n (j := 1) C 7 dX5_station_6 rfl rfl ?_
  refine r_cVI (as := [.int p0]) (S := []) C r.px 10 (ct_X5_hasStation _ _ _ _ h) dX5_station_7 rfl cl7 kd_209 wd_52 wd_1396 rfl wd_1394 wd_1397 wd_95 yd_X5_hasStation ⟨Nat.le_of_ble_eq_true rfl, Nat.le_of_ble_eq_true rfl⟩ (Nat.le_of_ble_eq_true rfl) (by decide) (fun r7 σ7 h => ?_)
  refine r_if_ne C 19 13 dX5_station_10 (by decide) rfl (fun c10 => ?_) (fun c10 => ?_)
  · have h := h.1 c10
    refine r_iload_n (j := 2) C 20 dX5_station_19 rfl rfl ?_
    refine r_iconst C 21 (v := 0) dX5_station_20 rfl (by decide) ?_
    refine r_bipush C 23 (v := 7) dX5_station_21 rfl (by decide) ?_
    refine r_cSI (b := 0) (as := [.int p1, .int 0, .int 7]) (S := []) C r.px 26 (ct_X5_in _ _ _ _ _ _ h) dX5_station_23 rfl wd_1321 wd_1320 wd_1322 wd_95 yd_X5_in ⟨Nat.le_of_ble_eq_true rfl, Nat.le_of_ble_eq_true rfl⟩ (Nat.le_of_ble_eq_true rfl) (by decide) (fun r23 σ23 h => ?_)
    refine r_if_ne C 35 29 dX5_station_26 (by decide) rfl (fun c26 => ?_) (fun c26 => ?_)
    · have h := h.1 c26
      refine r_iload_n (j := 2) C 36 dX5_station_35 rfl rfl ?_
      refine r_iconst C 37 (v := 5) dX5_station_36 rfl (by decide) ?_
      refine r_icmp_ge C 57 40 dX5_station_37 (by decide) rfl (fun c37 => ?_) (fun c37 => ?_)
      · have h := h.1 c37
        refine r_iload_n (j := 2) C 58 dX5_station_57 rfl rfl ?_
        refine r_iconst C 59 (v := 5) dX5_station_58 rfl (by decide) ?_
        refine r_icmp_ne C 68 62 dX5_station_59 (by decide) rfl (fun c59 => ?_) (fun c59 => ?_)
        · have h := h.1 c59
          refine r_iload_n (j := 2) C 69 dX5_station_68 rfl rfl ?_
          refine r_bipush C 71 (v := 7) dX5_station_69 rfl (by decide) ?_
          refine r_icmp_ne C 80 74 dX5_station_71 (by decide) rfl (fun c71 => ?_) (fun c71 => ?_)
          · have h := h.1 c71
            refine r_aload_n (j := 0) C 81 dX5_station_80 rfl rfl ?_
            refine r_cVV (as := []) (S := []) C r.px 84 (ct_X5_looks  _ _ _ h) dX5_station_81 rfl cl7 kd_209 wd_56 wd_1428 rfl wd_1426 wd_1429 wd_95 yd_X5_looks ⟨Nat.le_of_ble_eq_true rfl, Nat.le_of_ble_eq_true rfl⟩ (Nat.le_of_ble_eq_true rfl) (by decide) (fun σ81 h => ?_)
            refine r_aload_n (j := 0) C 85 dX5_station_84 rfl rfl ?_
            refine r_get (k := 23) C cl7 88 dX5_station_85 rfl kd_209 (by decide) wd_1235 (.ref 225) (fun _ => rfl) ?_
            refine r_iload_n (j := 1) C 89 dX5_station_88 rfl rfl ?_
            obtain ⟨o89, h⟩ := h
            refine r_iald C 90 dX5_station_89 rfl kd_225 o89 ?_
            exact r_iret (S := []) C r dX5_station_90 (by decide) rfl h
          · have h := h.2 c71
            refine r_aload_n (j := 0) C 75 dX5_station_74 rfl rfl ?_
            refine r_iload_n (j := 1) C 76 dX5_station_75 rfl rfl ?_
            refine r_cVI (as := [.int p0]) (S := []) C r.px 79 (ct_X5_tariff _ _ _ _ h) dX5_station_76 rfl cl7 kd_209 wd_79 wd_1532 rfl wd_1530 wd_1533 wd_95 yd_X5_tariff ⟨Nat.le_of_ble_eq_true rfl, Nat.le_of_ble_eq_true rfl⟩ (Nat.le_of_ble_eq_true rfl) (by decide) (fun r76 σ76 h => ?_)
            exact r_iret (S := []) C r dX5_station_79 (by decide) rfl h
        · have h := h.2 c59
          refine r_aload_n (j := 0) C 63 dX5_station_62 rfl rfl ?_
          refine r_iload_n (j := 1) C 64 dX5_station_63 rfl rfl ?_
          refine r_cVI (as := [.int p0]) (S := []) C r.px 67 (ct_X5_wants _ _ _ _ h) dX5_station_64 rfl cl7 kd_209 wd_59 wd_1440 rfl wd_1438 wd_1441 wd_95 yd_X5_wants ⟨Nat.le_of_ble_eq_true rfl, Nat.le_of_ble_eq_true rfl⟩ (Nat.le_of_ble_eq_true rfl) (by decide) (fun r64 σ64 h => ?_)
          exact r_iret (S := []) C r dX5_station_67 (by decide) rfl h
      · have h := h.2 c37
        refine r_aload_n (j := 0) C 41 dX5_station_40 rfl rfl ?_
        refine r_get (k := 1) C cl7 44 dX5_station_41 rfl kd_209 (by decide) wd_1213 (.ref 210) (fun _ => rfl) ?_
        refine r_bipush C 46 (v := 48) dX5_station_44 rfl (by decide) ?_
        refine r_bipush C 48 (v := 6) dX5_station_46 rfl (by decide) ?_
        refine r_iload_n (j := 1) C 49 dX5_station_48 rfl rfl ?_
        refine r_imul C 50 dX5_station_49 rfl ?_
        refine r_iadd C 51 dX5_station_50 rfl ?_
        refine r_iload_n (j := 2) C 52 dX5_station_51 rfl rfl ?_
        refine r_iadd C 53 dX5_station_52 rfl ?_
        refine r_iconst C 54 (v := 1) dX5_station_53 rfl (by decide) ?_
        refine r_iadd C 55 dX5_station_54 rfl ?_
        obtain ⟨o55, h⟩ := h
        refine r_iald C 56 dX5_station_55 rfl kd_210 o55 ?_
        exact r_iret (S := []) C r dX5_station_56 (by decide) rfl h
    · have h := h.2 c26
      refine r_aload_n (j := 0) C 30 dX5_station_29 rfl rfl ?_
      refine r_iconst C 31 (v := 2) dX5_station_30 rfl (by decide) ?_
      refine r_cVI (as := [.int 2]) (S := []) C r.px 34 (ct_X5_raises _ _ _ _ h) dX5_station_31 rfl cl7 kd_209 wd_40 wd_1325 rfl wd_1323 wd_1326 wd_95 yd_X5_raises ⟨Nat.le_of_ble_eq_true rfl, Nat.le_of_ble_eq_true rfl⟩ (Nat.le_of_ble_eq_true rfl) (by decide) (fun r31 σ31 h => ?_)
      exact r_iret (S := []) C r dX5_station_34 (by decide) rfl h
  · have h := h.2 c10
    refine r_aload_n (j := 0) C 14 dX5_station_13 rfl rfl ?_
    refine r_iconst C 15 (v := 1) dX5_station_14 rfl (by decide) ?_
    refine r_cVI (as := [.int 1]) (S := []) C r.px 18 (ct_X5_raises _ _ _ _ h) dX5_station_15 rfl cl7 kd_209 wd_40 wd_1325 rfl wd_1323 wd_1326 wd_95 yd_X5_raises ⟨Nat.le_of_ble_eq_true rfl, Nat.le_of_ble_eq_true rfl⟩ (Nat.le_of_ble_eq_true rfl) (by decide) (fun r15 σ15 h => ?_)
    exact r_iret (S := []) C r dX5_station_18 (by decide) rfl h
theorem ct_X5_station (p0 : Int32) (p1 : Int32) (σ : Mem) (K : Int32 → Mem → Prop) (X : String → Mem → Prop) (h : sp_X5_station p0 p1 σ K X) : CtI yX5_station cX5_station 3 (some .int) 7 0 [.ref 209, .int p0, .int p1] σ K X := by
  have h := h
  exact ctI_of (by decide +kernel) (Nat.le_of_ble_eq_true rfl) (fun x C r => sg_X5_station_0 C r p0 p1  σ h)
/-! HeatNetworkModel.temperature(IZ)I: level 7, exceptions 0 -/
def sp_X5_temperature (p0 : Int32) (p1 : Int32) (σ : Mem) (K : Int32 → Mem → Prop) (X : String → Mem → Prop) : Prop := (∀ σ2 : Mem, σ2 = wi σ 209 0 0 → sp_X5_isNode p0 σ2 (fun r6 σ6 => (¬ r6 = 0 → sp_X5_looks  σ6 (fun σ19 => (p1 = 0 → (vp_in p0 10) ∧ (K (σ19.1 229 p0.toNatClampNeg) σ19)) ∧ (¬ p1 = 0 → (vp_in p0 10) ∧ (K (σ19.1 230 p0.toNatClampNeg) σ19))) X) ∧ (r6 = 0 → sp_X5_raises 1 σ6 (fun r14 σ14 => K r14 σ14) X)) X)
set_option maxRecDepth 4000 in
theorem sg_X5_temperature_0 {x : Ctx} {K : Int32 → Mem → Prop} {X : String → Mem → Prop} (C : Cx x RX5 cX5_temperature 3) (r : RtI x 7 0 (some .int) K X) (p0 : Int32) (p1 : Int32)  (σ : Mem) (h : ∀ σ2 : Mem, σ2 = wi σ 209 0 0 → sp_X5_isNode p0 σ2 (fun r6 σ6 => (¬ r6 = 0 → sp_X5_looks  σ6 (fun σ19 => (p1 = 0 → (vp_in p0 10) ∧ (K (σ19.1 229 p0.toNatClampNeg) σ19)) ∧ (¬ p1 = 0 → (vp_in p0 10) ∧ (K (σ19.1 230 p0.toNatClampNeg) σ19))) X) ∧ (r6 = 0 → sp_X5_raises 1 σ6 (fun r14 σ14 => K r14 σ14) X)) X) : Ws x 0 0 [(0, .ref 209), (1, .int p0), (2, .int p1)] [] σ := by
  refine r_aload_n (j := 0) C 1 dX5_temperature_0 rfl rfl ?_
  refine r_iconst C 2 (v := 0) dX5_temperature_1 rfl (by decide) ?_
  refine r_putI (k := 0) C cl7 5 dX5_temperature_2 rfl kd_209 (by decide) wd_1212 rfl rfl rfl rfl ?_
  refine r_nmS (fun σ2 e2 => ?_)
  have h := h σ2 e2
  refine r_iload_n (j := 1) C 6 dX5_temperature_5 rfl rfl ?_
  refine r_cSI (b := 0) (as := [.int p0]) (S := []) C r.px 9 (ct_X5_isNode _ _ _ _ h) dX5_temperature_6 rfl wd_1356 wd_1355 wd_1357 wd_95 yd_X5_isNode ⟨Nat.le_of_ble_eq_true rfl, Nat.le_of_ble_eq_true rfl⟩ (Nat.le_of_ble_eq_true rfl) (by decide) (fun r6 σ6 h => ?_)
  refine r_if_ne C 18 12 dX5_temperature_9 (by decide) rfl (fun c9 => ?_) (fun c9 => ?_)
  · have h := h.1 c9
    refine r_aload_n (j := 0) C 19 dX5_temperature_18 rfl rfl ?_
    refine r_cVV (as := []) (S := []) C r.px 22 (ct_X5_looks  _ _ _ h) dX5_temperature_19 rfl cl7 kd_209 wd_56 wd_1428 rfl wd_1426 wd_1429 wd_95 yd_X5_looks ⟨Nat.le_of_ble_eq_true rfl, Nat.le_of_ble_eq_true rfl⟩ (Nat.le_of_ble_eq_true rfl) (by decide) (fun σ19 h => ?_)
    refine r_iload_n (j := 2) C 23 dX5_temperature_22 rfl rfl ?_
    refine r_if_eq C 35 26 dX5_temperature_23 (by decide) rfl (fun c23 => ?_) (fun c23 => ?_)
    · have h := h.1 c23
      refine r_aload_n (j := 0) C 36 dX5_temperature_35 rfl rfl ?_
      refine r_get (k := 27) C cl7 39 dX5_temperature_36 rfl kd_209 (by decide) wd_1239 (.ref 229) (fun _ => rfl) ?_
      refine r_iload_n (j := 1) C 40 dX5_temperature_39 rfl rfl ?_
      obtain ⟨o40, h⟩ := h
      refine r_iald C 41 dX5_temperature_40 rfl kd_229 o40 ?_
      exact r_iret (S := []) C r dX5_temperature_41 (by decide) rfl h
    · have h := h.2 c23
      refine r_aload_n (j := 0) C 27 dX5_temperature_26 rfl rfl ?_
      refine r_get (k := 28) C cl7 30 dX5_temperature_27 rfl kd_209 (by decide) wd_1240 (.ref 230) (fun _ => rfl) ?_
      refine r_iload_n (j := 1) C 31 dX5_temperature_30 rfl rfl ?_
      obtain ⟨o31, h⟩ := h
      refine r_iald C 32 dX5_temperature_31 rfl kd_230 o31 ?_
      refine r_goto C 41 dX5_temperature_32 (by decide) ?_
      exact r_iret (S := []) C r dX5_temperature_41 (by decide) rfl h
  · have h := h.2 c9
    refine r_aload_n (j := 0) C 13 dX5_temperature_12 rfl rfl ?_
    refine r_iconst C 14 (v := 1) dX5_temperature_13 rfl (by decide) ?_
    refine r_cVI (as := [.int 1]) (S := []) C r.px 17 (ct_X5_raises _ _ _ _ h) dX5_temperature_14 rfl cl7 kd_209 wd_40 wd_1325 rfl wd_1323 wd_1326 wd_95 yd_X5_raises ⟨Nat.le_of_ble_eq_true rfl, Nat.le_of_ble_eq_true rfl⟩ (Nat.le_of_ble_eq_true rfl) (by decide) (fun r14 σ14 h => ?_)
    exact r_iret (S := []) C r dX5_temperature_17 (by decide) rfl h
theorem ct_X5_temperature (p0 : Int32) (p1 : Int32) (σ : Mem) (K : Int32 → Mem → Prop) (X : String → Mem → Prop) (h : sp_X5_temperature p0 p1 σ K X) : CtI yX5_temperature cX5_temperature 3 (some .int) 7 0 [.ref 209, .int p0, .int p1] σ K X := by
  have h := h
  exact ctI_of (by decide +kernel) (Nat.le_of_ble_eq_true rfl) (fun x C r => sg_X5_temperature_0 C r p0 p1  σ h)
/-! HeatNetworkModel.trial(II)J: level 7, exceptions 0 -/
def sp_X5_trial (p0 : Int32) (p1 : Int32) (σ : Mem) (K : Int64 → Mem → Prop) (X : String → Mem → Prop) : Prop := (∀ σ2 : Mem, σ2 = wi σ 209 0 0 → sp_X5_hasStation p0 σ2 (fun r7 σ7 => (¬ r7 = 0 → sp_X5_in p1 200 600 σ7 (fun r27 σ27 => (¬ r27 = 0 → (vp_in ((48 + (6 * p0)) + 2) 108) ∧ (∀ v54 : Int32, v54 = (σ27.1 210 (((48 + (6 * p0)) + 2)).toNatClampNeg) → (vp_in ((48 + (6 * p0)) + 2) 108) ∧ (∀ σ69 : Mem, σ69 = wi σ27 210 (((48 + (6 * p0)) + 2)).toNatClampNeg p1 → sp_X5_looks  σ69 (fun σ71 => sp_X5_made  σ71 (fun r75 σ75 => (vp_in ((48 + (6 * p0)) + 2) 108) ∧ (∀ σ94 : Mem, σ94 = wi σ75 210 (((48 + (6 * p0)) + 2)).toNatClampNeg v54 → K r75 σ94)) X) X))) ∧ (r27 = 0 → sp_X5_raises 2 σ27 (fun r35 σ35 => K (r35).toInt64 σ35) X)) X) ∧ (r7 = 0 → sp_X5_raises 1 σ7 (fun r15 σ15 => K (r15).toInt64 σ15) X)) X)
set_option maxRecDepth 4000 in
theorem sg_X5_trial_0 {x : Ctx} {K : Int64 → Mem → Prop} {X : String → Mem → Prop} (C : Cx x RX5 cX5_trial 6) (r : RtL x 7 0 (some .long) K X) (p0 : Int32) (p1 : Int32)  (σ : Mem) (h : ∀ σ2 : Mem, σ2 = wi σ 209 0 0 → sp_X5_hasStation p0 σ2 (fun r7 σ7 => (¬ r7 = 0 → sp_X5_in p1 200 600 σ7 (fun r27 σ27 => (¬ r27 = 0 → (vp_in ((48 + (6 * p0)) + 2) 108) ∧ (∀ v54 : Int32, v54 = (σ27.1 210 (((48 + (6 * p0)) + 2)).toNatClampNeg) → (vp_in ((48 + (6 * p0)) + 2) 108) ∧ (∀ σ69 : Mem, σ69 = wi σ27 210 (((48 + (6 * p0)) + 2)).toNatClampNeg p1 → sp_X5_looks  σ69 (fun σ71 => sp_X5_made  σ71 (fun r75 σ75 => (vp_in ((48 + (6 * p0)) + 2) 108) ∧ (∀ σ94 : Mem, σ94 = wi σ75 210 (((48 + (6 * p0)) + 2)).toNatClampNeg v54 → K r75 σ94)) X) X))) ∧ (r27 = 0 → sp_X5_raises 2 σ27 (fun r35 σ35 => K (r35).toInt64 σ35) X)) X) ∧ (r7 = 0 → sp_X5_raises 1 σ7 (fun r15 σ15 => K (r15).toInt64 σ15) X)) X) : Ws x 0 0 [(0, .ref 209), (1, .int p0), (2, .int p1)] [] σ := by
  refine r_aload_n (j := 0) C 1 dX5_trial_0 rfl rfl ?_
  refine r_iconst C 2 (v := 0) dX5_trial_1 rfl (by decide) ?_
  refine r_putI (k := 0) C cl7 5 dX5_trial_2 rfl kd_209 (by decide) wd_1212 rfl rfl rfl rfl ?_
  refine r_nmS (fun σ2 e2 => ?_)
  have h := h σ2 e2
  refine r_aload_n (j := 0) C 6 dX5_trial_5 rfl rfl ?_
  refine r_iload_n (j := 1) C 7 dX5_trial_6 rfl rfl ?_
  refine r_cVI (as := [.int p0]) (S := []) C r.px 10 (ct_X5_hasStation _ _ _ _ h) dX5_trial_7 rfl cl7 kd_209 wd_52 wd_1396 rfl wd_1394 wd_1397 wd_95 yd_X5_hasStation ⟨Nat.le_of_ble_eq_true rfl, Nat.le_of_ble_eq_true rfl⟩ (Nat.le_of_ble_eq_true rfl) (by decide) (fun r7 σ7 h => ?_)
  refine r_if_ne C 20 13 dX5_trial_10 (by decide) rfl (fun c10 => ?_) (fun c10 => ?_)
  · have h := h.1 c10
    refine r_iload_n (j := 2) C 21 dX5_trial_20 rfl rfl ?_
    refine r_sipush C 24 (v := 200) dX5_trial_21 rfl (by decide) ?_
    refine r_sipush C 27 (v := 600) dX5_trial_24 rfl (by decide) ?_
    refine r_cSI (b := 0) (as := [.int p1, .int 200, .int 600]) (S := []) C r.px 30 (ct_X5_in _ _ _ _ _ _ h) dX5_trial_27 rfl wd_1321 wd_1320 wd_1322 wd_95 yd_X5_in ⟨Nat.le_of_ble_eq_true rfl, Nat.le_of_ble_eq_true rfl⟩ (Nat.le_of_ble_eq_true rfl) (by decide) (fun r27 σ27 h => ?_)
    refine r_if_ne C 40 33 dX5_trial_30 (by decide) rfl (fun c30 => ?_) (fun c30 => ?_)
    · have h := h.1 c30
      refine r_aload_n (j := 0) C 41 dX5_trial_40 rfl rfl ?_
      refine r_get (k := 1) C cl7 44 dX5_trial_41 rfl kd_209 (by decide) wd_1213 (.ref 210) (fun _ => rfl) ?_
      refine r_bipush C 46 (v := 48) dX5_trial_44 rfl (by decide) ?_
      refine r_bipush C 48 (v := 6) dX5_trial_46 rfl (by decide) ?_
      refine r_iload_n (j := 1) C 49 dX5_trial_48 rfl rfl ?_
      refine r_imul C 50 dX5_trial_49 rfl ?_
      refine r_iadd C 51 dX5_trial_50 rfl ?_
      refine r_iconst C 52 (v := 2) dX5_trial_51 rfl (by decide) ?_
      refine r_iadd C 53 dX5_trial_52 rfl ?_
      obtain ⟨o53, h⟩ := h
      refine r_iald C 54 dX5_trial_53 rfl kd_210 o53 ?_
      refine r_nmI (fun v54 e54 => ?_)
      have h := h v54 e54
      refine r_istore_n C 55 [(3, .int v54), (0, .ref 209), (1, .int p0), (2, .int p1)] dX5_trial_54 rfl (by decide) rfl ?_
      refine r_aload_n (j := 1) C 56 dX5_trial_55 rfl rfl ?_
      refine r_get (k := 1) C cl7 59 dX5_trial_56 rfl kd_209 (by decide) wd_1213 (.ref 210) (fun _ => rfl) ?_
      refine r_bipush C 61 (v := 48) dX5_trial_59 rfl (by decide) ?_
      refine r_bipush C 63 (v := 6) dX5_trial_61 rfl (by decide) ?_
      refine r_iload_n (j := 2) C 64 dX5_trial_63 rfl rfl ?_
      refine r_imul C 65 dX5_trial_64 rfl ?_
      refine r_iadd C 66 dX5_trial_65 rfl ?_
      refine r_iconst C 67 (v := 2) dX5_trial_66 rfl (by decide) ?_
      refine r_iadd C 68 dX5_trial_67 rfl ?_
      refine r_iload_n (j := 3) C 69 dX5_trial_68 rfl rfl ?_
      obtain ⟨o69, h⟩ := h
      refine r_iast C 70 dX5_trial_69 rfl kd_210 o69 ?_
      refine r_nmS (fun σ69 e69 => ?_)
      have h := h σ69 e69
      refine r_aload_n (j := 1) C 71 dX5_trial_70 rfl rfl ?_
      refine r_cVV (as := []) (S := []) C r.px 74 (ct_X5_looks  _ _ _ h) dX5_trial_71 rfl cl7 kd_209 wd_56 wd_1428 rfl wd_1426 wd_1429 wd_95 yd_X5_looks ⟨Nat.le_of_ble_eq_true rfl, Nat.le_of_ble_eq_true rfl⟩ (Nat.le_of_ble_eq_true rfl) (by decide) (fun σ71 h => ?_)
      refine r_aload_n (j := 1) C 75 dX5_trial_74 rfl rfl ?_
      refine r_cVL (as := []) (S := []) C r.px 78 (ct_X5_made  _ _ _ h) dX5_trial_75 rfl cl7 kd_209 wd_74 wd_1511 rfl wd_1509 wd_1512 wd_95 yd_X5_made ⟨Nat.le_of_ble_eq_true rfl, Nat.le_of_ble_eq_true rfl⟩ (Nat.le_of_ble_eq_true rfl) (by decide) (fun r75 σ75 h => ?_)
      refine r_lstore C 80 [(4, .long r75), (3, .int v54), (0, .ref 209), (1, .int p0), (2, .int p1)] dX5_trial_78 rfl (by decide) rfl ?_
      refine r_aload_n (j := 2) C 81 dX5_trial_80 rfl rfl ?_
      refine r_get (k := 1) C cl7 84 dX5_trial_81 rfl kd_209 (by decide) wd_1213 (.ref 210) (fun _ => rfl) ?_
      refine r_bipush C 86 (v := 48) dX5_trial_84 rfl (by decide) ?_
      refine r_bipush C 88 (v := 6) dX5_trial_86 rfl (by decide) ?_
      refine r_iload_n (j := 3) C 89 dX5_trial_88 rfl rfl ?_
      refine r_imul C 90 dX5_trial_89 rfl ?_
      refine r_iadd C 91 dX5_trial_90 rfl ?_
      refine r_iconst C 92 (v := 2) dX5_trial_91 rfl (by decide) ?_
      refine r_iadd C 93 dX5_trial_92 rfl ?_
      refine r_iload_n (j := 1) C 94 dX5_trial_93 rfl rfl ?_
      obtain ⟨o94, h⟩ := h
      refine r_iast C 95 dX5_trial_94 rfl kd_210 o94 ?_
      refine r_nmS (fun σ94 e94 => ?_)
      have h := h σ94 e94
      refine r_lload (j := 0) C 97 dX5_trial_95 rfl rfl ?_
      exact r_lret (S := []) C r dX5_trial_97 (by decide) h
    · have h := h.2 c30
      refine r_aload_n (j := 0) C 34 dX5_trial_33 rfl rfl ?_
      refine r_iconst C 35 (v := 2) dX5_trial_34 rfl (by decide) ?_
      refine r_cVI (as := [.int 2]) (S := []) C r.px 38 (ct_X5_raises _ _ _ _ h) dX5_trial_35 rfl cl7 kd_209 wd_40 wd_1325 rfl wd_1323 wd_1326 wd_95 yd_X5_raises ⟨Nat.le_of_ble_eq_true rfl, Nat.le_of_ble_eq_true rfl⟩ (Nat.le_of_ble_eq_true rfl) (by decide) (fun r35 σ35 h => ?_)
      refine r_i2l C 39 dX5_trial_38 rfl ?_
      exact r_lret (S := []) C r dX5_trial_39 (by decide) h
  · have h := h.2 c10
    refine r_aload_n (j := 0) C 14 dX5_trial_13 rfl rfl ?_
    refine r_iconst C 15 (v := 1) dX5_trial_14 rfl (by decide) ?_
    refine r_cVI (as := [.int 1]) (S := []) C r.px 18 (ct_X5_raises _ _ _ _ h) dX5_trial_15 rfl cl7 kd_209 wd_40 wd_1325 rfl wd_1323 wd_1326 wd_95 yd_X5_raises ⟨Nat.le_of_ble_eq_true rfl, Nat.le_of_ble_eq_true rfl⟩ (Nat.le_of_ble_eq_true rfl) (by decide) (fun r15 σ15 h => ?_)
    refine r_i2l C 19 dX5_trial_18 rfl ?_
    exact r_lret (S := []) C r dX5_trial_19 (by decide) h
theorem ct_X5_trial (p0 : Int32) (p1 : Int32) (σ : Mem) (K : Int64 → Mem → Prop) (X : String → Mem → Prop) (h : sp_X5_trial p0 p1 σ K X) : CtL yX5_trial cX5_trial 6 (some .long) 7 0 [.ref 209, .int p0, .int p1] σ K X := by
  have h := h
  exact ctL_of (by decide +kernel) (Nat.le_of_ble_eq_true rfl) (fun x C r => sg_X5_trial_0 C r p0 p1  σ h)
