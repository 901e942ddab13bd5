/-! HeatNetworkModel.temperatures()V: level 4, exceptions 0 -/
def sp_X5_temperatures (σ : Mem) (K : Mem → Prop) (X : String → Mem → Prop) : Prop := ∃ (w : Nat → Int32) (g : Gr) (fl : Nat → Int) (dr rk T S : Nat → Nat), TBase w g fl dr rk σ ∧ (∀ e, e < 10 → (gd w ≤ T e ∧ T e ≤ 1200) ∧ (gd w ≤ S e ∧ S e ≤ 1200)) ∧ (∀ n, n < 10 → EqH w g fl T n ∧ EqC w g fl dr S n) ∧ ∀ τ : Mem, (∀ a k, a ≠ 229 → a ≠ 230 → a ≠ 232 → τ.1 a k = σ.1 a k) → (∀ a k, a ≠ 231 → τ.2.1 a k = σ.2.1 a k) → τ.2.2 = σ.2.2 → (∀ n, n < 10 → τ.1 229 n = nI (T n) ∧ τ.1 230 n = nI (S n) ∧ τ.2.1 231 n = lN (rmH w g fl T n + rmC w g fl dr S n)) → K τ
set_option maxRecDepth 4000 in
theorem sg_X5_temperatures_0 {x : Ctx} {K : Mem → Prop} {X : String → Mem → Prop} (C : Cx x RX5 cX5_temperatures 5) (r : RtV x 4 0 none K X)   (σ : Mem) (h : Ws x 0 2 [(0, .ref 209), (1, .int 0)] [] σ) : Ws x 0 0 [(0, .ref 209)] [] σ := by
  refine r_iconst C 1 (v := 0) dX5_temperatures_0 rfl (by decide) ?_
  refine r_istore_n C 2 [(1, .int 0), (0, .ref 209)] dX5_temperatures_1 rfl (by decide) rfl ?_
  exact Ws_pick [1, 0] rfl h
set_option maxRecDepth 4000 in
theorem sg_X5_temperatures_2 {x : Ctx} {K : Mem → Prop} {X : String → Mem → Prop} (C : Cx x RX5 cX5_temperatures 5) (r : RtV x 4 0 none K X) (i1 : Int32)  (σ : Mem) (h : (10 ≤ i1 → Ws x 0 23 [(0, .ref 209), (1, .int 0)] [] σ) ∧ (¬ 10 ≤ i1 → (vp_in i1 10) ∧ (∀ σ14 : Mem, σ14 = wl σ 231 i1.toNatClampNeg 0 → ∀ v15 : Int32, v15 = i1 + 1 → Ws x 0 2 [(0, .ref 209), (1, .int v15)] [] σ14))) : Ws x 0 2 [(0, .ref 209), (1, .int i1)] [] σ := by
  refine r_iload_n (j := 1) C 3 dX5_temperatures_2 rfl rfl ?_
  refine r_bipush C 5 (v := 10) dX5_temperatures_3 rfl (by decide) ?_
  refine r_icmp_ge C 21 8 dX5_temperatures_5 (by decide) rfl (fun c5 => ?_) (fun c5 => ?_)
  · have h := h.1 c5
    refine r_iconst C 22 (v := 0) dX5_temperatures_21 rfl (by decide) ?_
    refine r_istore_n C 23 [(1, .int 0), (0, .ref 209)] dX5_temperatures_22 rfl (by decide) rfl ?_
    exact Ws_pick [1, 0] rfl h
  · have h := h.2 c5
    refine r_aload_n (j := 0) C 9 dX5_temperatures_8 rfl rfl ?_
    refine r_get (k := 29) C cl7 12 dX5_temperatures_9 rfl kd_209 (by decide) wd_1241 (.ref 231) (fun _ => rfl) ?_
    refine r_iload_n (j := 1) C 13 dX5_temperatures_12 rfl rfl ?_
    refine r_lconst C 14 (v := 0) dX5_temperatures_13 rfl rfl ?_
    obtain ⟨o14, h⟩ := h
    refine r_last C 15 dX5_temperatures_14 rfl kd_231 o14 ?_
    refine r_nmS (fun σ14 e14 => ?_)
    have h := h σ14 e14
    obtain ⟨v15, e15⟩ : ∃ y : Int32, y = i1 + 1 := ⟨_, rfl⟩
    have h := h v15 e15
    refine r_iinc (j := 1) C 18 [(1, .int v15), (0, .ref 209)] dX5_temperatures_15 rfl rfl (by rw [e15]; rfl) (by decide) rfl ?_
    refine r_goto C 2 dX5_temperatures_18 (by decide) ?_
    exact Ws_pick [1, 0] rfl h
set_option maxRecDepth 4000 in
theorem sg_X5_temperatures_23 {x : Ctx} {K : Mem → Prop} {X : String → Mem → Prop} (C : Cx x RX5 cX5_temperatures 5) (r : RtV x 4 0 none K X) (i1 : Int32)  (σ : Mem) (h : (2 ≤ i1 → K σ) ∧ (¬ 2 ≤ i1 → (¬ i1 = 1 → Ws x 0 41 [(0, .ref 209), (1, .int i1), (2, .int 0), (3, .int 0)] [] σ) ∧ (i1 = 1 → Ws x 0 41 [(0, .ref 209), (1, .int i1), (2, .int 1), (3, .int 0)] [] σ))) : Ws x 0 23 [(0, .ref 209), (1, .int i1)] [] σ := by
  refine r_iload_n (j := 1) C 24 dX5_temperatures_23 rfl rfl ?_
  refine r_iconst C 25 (v := 2) dX5_temperatures_24 rfl (by decide) ?_
  refine r_icmp_ge C 157 28 dX5_temperatures_25 (by decide) rfl (fun c25 => ?_) (fun c25 => ?_)
  · have h := h.1 c25
    exact r_vret (S := []) C r dX5_temperatures_157 (by decide) h
  · have h := h.2 c25
    refine r_iload_n (j := 1) C 29 dX5_temperatures_28 rfl rfl ?_
    refine r_iconst C 30 (v := 1) dX5_temperatures_29 rfl (by decide) ?_
    refine r_icmp_ne C 37 33 dX5_temperatures_30 (by decide) rfl (fun c30 => ?_) (fun c30 => ?_)
    · have h := h.1 c30
      refine r_iconst C 38 (v := 0) dX5_temperatures_37 rfl (by decide) ?_
      refine r_istore_n C 39 [(2, .int 0), (0, .ref 209), (1, .int i1)] dX5_temperatures_38 rfl (by decide) rfl ?_
      refine r_iconst C 40 (v := 0) dX5_temperatures_39 rfl (by decide) ?_
      refine r_istore_n C 41 [(3, .int 0), (2, .int 0), (0, .ref 209), (1, .int i1)] dX5_temperatures_40 rfl (by decide) rfl ?_
      exact Ws_pick [2, 3, 1, 0] rfl h
    · have h := h.2 c30
      refine r_iconst C 34 (v := 1) dX5_temperatures_33 rfl (by decide) ?_
      refine r_goto C 38 dX5_temperatures_34 (by decide) ?_
      refine r_istore_n C 39 [(2, .int 1), (0, .ref 209), (1, .int i1)] dX5_temperatures_38 rfl (by decide) rfl ?_
      refine r_iconst C 40 (v := 0) dX5_temperatures_39 rfl (by decide) ?_
      refine r_istore_n C 41 [(3, .int 0), (2, .int 1), (0, .ref 209), (1, .int i1)] dX5_temperatures_40 rfl (by decide) rfl ?_
      exact Ws_pick [2, 3, 1, 0] rfl h
set_option maxRecDepth 4000 in
theorem sg_X5_temperatures_41 {x : Ctx} {K : Mem → Prop} {X : String → Mem → Prop} (C : Cx x RX5 cX5_temperatures 5) (r : RtV x 4 0 none K X) (i1 : Int32) (i2 : Int32) (i3 : Int32)  (σ : Mem) (h : (10 ≤ i3 → (¬ i2 = 0 → Ws x 0 85 [(0, .ref 209), (1, .int i1), (2, .int i2), (3, .int 0)] [] σ) ∧ (i2 = 0 → ∀ σ75 : Mem, σ75 = wi σ 229 0 (σ.1 210 0) → ∀ σ82 : Mem, σ82 = wi σ75 232 0 1 → Ws x 0 85 [(0, .ref 209), (1, .int i1), (2, .int i2), (3, .int 0)] [] σ82)) ∧ (¬ 10 ≤ i3 → (vp_in i3 10) ∧ (∀ σ53 : Mem, σ53 = wi σ 232 i3.toNatClampNeg 0 → ∀ v54 : Int32, v54 = i3 + 1 → Ws x 0 41 [(0, .ref 209), (1, .int i1), (2, .int i2), (3, .int v54)] [] σ53))) : Ws x 0 41 [(0, .ref 209), (1, .int i1), (2, .int i2), (3, .int i3)] [] σ := by
  refine r_iload_n (j := 3) C 42 dX5_temperatures_41 rfl rfl ?_
  refine r_bipush C 44 (v := 10) dX5_temperatures_42 rfl (by decide) ?_
  refine r_icmp_ge C 60 47 dX5_temperatures_44 (by decide) rfl (fun c44 => ?_) (fun c44 => ?_)
  · have h := h.1 c44
    refine r_iload_n (j := 2) C 61 dX5_temperatures_60 rfl rfl ?_
    refine r_if_ne C 83 64 dX5_temperatures_61 (by decide) rfl (fun c61 => ?_) (fun c61 => ?_)
    · have h := h.1 c61
      refine r_iconst C 84 (v := 0) dX5_temperatures_83 rfl (by decide) ?_
      refine r_istore_n C 85 [(3, .int 0), (0, .ref 209), (1, .int i1), (2, .int i2)] dX5_temperatures_84 rfl (by decide) rfl ?_
      exact Ws_pick [1, 2, 3, 0] rfl h
    · have h := h.2 c61
      refine r_aload_n (j := 0) C 65 dX5_temperatures_64 rfl rfl ?_
      refine r_get (k := 27) C cl7 68 dX5_temperatures_65 rfl kd_209 (by decide) wd_1239 (.ref 229) (fun _ => rfl) ?_
      refine r_iconst C 69 (v := 0) dX5_temperatures_68 rfl (by decide) ?_
      refine r_aload_n (j := 0) C 70 dX5_temperatures_69 rfl rfl ?_
      refine r_get (k := 1) C cl7 73 dX5_temperatures_70 rfl kd_209 (by decide) wd_1213 (.ref 210) (fun _ => rfl) ?_
      refine r_iconst C 74 (v := 0) dX5_temperatures_73 rfl (by decide) ?_
      refine r_iald C 75 dX5_temperatures_74 rfl kd_210 (n_inR (n := 0) (by decide) (by decide)) ?_
      refine r_iast C 76 dX5_temperatures_75 rfl kd_229 (n_inR (n := 0) (by decide) (by decide)) ?_
      refine r_nmS (fun σ75 e75 => ?_)
      have h := h σ75 e75
      refine r_aload_n (j := 0) C 77 dX5_temperatures_76 rfl rfl ?_
      refine r_get (k := 30) C cl7 80 dX5_temperatures_77 rfl kd_209 (by decide) wd_1242 (.ref 232) (fun _ => rfl) ?_
      refine r_iconst C 81 (v := 0) dX5_temperatures_80 rfl (by decide) ?_
      refine r_iconst C 82 (v := 1) dX5_temperatures_81 rfl (by decide) ?_
      refine r_zast C 83 dX5_temperatures_82 rfl kd_232 (n_inR (n := 0) (by decide) (by decide)) (by decide) ?_
      refine r_nmS (fun σ82 e82 => ?_)
      have h := h σ82 e82
      refine r_iconst C 84 (v := 0) dX5_temperatures_83 rfl (by decide) ?_
      refine r_istore_n C 85 [(3, .int 0), (0, .ref 209), (1, .int i1), (2, .int i2)] dX5_temperatures_84 rfl (by decide) rfl ?_
      exact Ws_pick [1, 2, 3, 0] rfl h
  · have h := h.2 c44
    refine r_aload_n (j := 0) C 48 dX5_temperatures_47 rfl rfl ?_
    refine r_get (k := 30) C cl7 51 dX5_temperatures_48 rfl kd_209 (by decide) wd_1242 (.ref 232) (fun _ => rfl) ?_
    refine r_iload_n (j := 3) C 52 dX5_temperatures_51 rfl rfl ?_
    refine r_iconst C 53 (v := 0) dX5_temperatures_52 rfl (by decide) ?_
    obtain ⟨o53, h⟩ := h
    refine r_zast C 54 dX5_temperatures_53 rfl kd_232 o53 (by decide) ?_
    refine r_nmS (fun σ53 e53 => ?_)
    have h := h σ53 e53
    obtain ⟨v54, e54⟩ : ∃ y : Int32, y = i3 + 1 := ⟨_, rfl⟩
    have h := h v54 e54
    refine r_iinc (j := 3) C 57 [(3, .int v54), (0, .ref 209), (1, .int i1), (2, .int i2)] dX5_temperatures_54 rfl rfl (by rw [e54]; rfl) (by decide) rfl ?_
    refine r_goto C 41 dX5_temperatures_57 (by decide) ?_
    exact Ws_pick [1, 2, 3, 0] rfl h
set_option maxRecDepth 4000 in
theorem sg_X5_temperatures_85 {x : Ctx} {K : Mem → Prop} {X : String → Mem → Prop} (C : Cx x RX5 cX5_temperatures 5) (r : RtV x 4 0 none K X) (i1 : Int32) (i2 : Int32) (i3 : Int32)  (σ : Mem) (h : (10 ≤ i3 → ∀ v151 : Int32, v151 = i1 + 1 → Ws x 0 23 [(0, .ref 209), (1, .int v151)] [] σ) ∧ (¬ 10 ≤ i3 → Ws x 0 94 [(0, .ref 209), (1, .int i1), (2, .int i2), (3, .int i3), (4, .int 0)] [] σ)) : Ws x 0 85 [(0, .ref 209), (1, .int i1), (2, .int i2), (3, .int i3)] [] σ := by
  refine r_iload_n (j := 3) C 86 dX5_temperatures_85 rfl rfl ?_
  refine r_bipush C 88 (v := 10) dX5_temperatures_86 rfl (by decide) ?_
  refine r_icmp_ge C 151 91 dX5_temperatures_88 (by decide) rfl (fun c88 => ?_) (fun c88 => ?_)
  · have h := h.1 c88
    obtain ⟨v151, e151⟩ : ∃ y : Int32, y = i1 + 1 := ⟨_, rfl⟩
    have h := h v151 e151
    refine r_iinc (j := 1) C 154 [(1, .int v151), (0, .ref 209), (2, .int i2), (3, .int i3)] dX5_temperatures_151 rfl rfl (by rw [e151]; rfl) (by decide) rfl ?_
    refine r_goto C 23 dX5_temperatures_154 (by decide) ?_
    exact Ws_pick [1, 0] rfl h
  · have h := h.2 c88
    refine r_iconst C 92 (v := 0) dX5_temperatures_91 rfl (by decide) ?_
    refine r_istore C 94 [(4, .int 0), (0, .ref 209), (1, .int i1), (2, .int i2), (3, .int i3)] dX5_temperatures_92 rfl (by decide) rfl ?_
    exact Ws_pick [1, 2, 3, 4, 0] rfl h
set_option maxRecDepth 4000 in
theorem sg_X5_temperatures_94 {x : Ctx} {K : Mem → Prop} {X : String → Mem → Prop} (C : Cx x RX5 cX5_temperatures 5) (r : RtV x 4 0 none K X) (i1 : Int32) (i2 : Int32) (i3 : Int32) (i4 : Int32)  (σ : Mem) (h : (10 ≤ i4 → ∀ v145 : Int32, v145 = i3 + 1 → Ws x 0 85 [(0, .ref 209), (1, .int i1), (2, .int i2), (3, .int v145)] [] σ) ∧ (¬ 10 ≤ i4 → (vp_in i4 10) ∧ ((¬ (σ.1 232 i4.toNatClampNeg) = 0 → ∀ v139 : Int32, v139 = i4 + 1 → Ws x 0 94 [(0, .ref 209), (1, .int i1), (2, .int i2), (3, .int i3), (4, .int v139)] [] σ) ∧ ((σ.1 232 i4.toNatClampNeg) = 0 → sp_X5_isReady i4 i2 σ (fun r115 σ115 => (¬ r115 = 0 → sp_X5_mixes i4 i2 σ115 (fun σ128 => (vp_in i4 10) ∧ (∀ σ138 : Mem, σ138 = wi σ128 232 i4.toNatClampNeg 1 → ∀ v139 : Int32, v139 = i4 + 1 → Ws x 0 94 [(0, .ref 209), (1, .int i1), (2, .int i2), (3, .int i3), (4, .int v139)] [] σ138)) X) ∧ (r115 = 0 → ∀ v139 : Int32, v139 = i4 + 1 → Ws x 0 94 [(0, .ref 209), (1, .int i1), (2, .int i2), (3, .int i3), (4, .int v139)] [] σ115)) X)))) : Ws x 0 94 [(0, .ref 209), (1, .int i1), (2, .int i2), (3, .int i3), (4, .int i4)] [] σ := by
  refine r_iload (j := 4) C 96 dX5_temperatures_94 rfl rfl ?_
  refine r_bipush C 98 (v := 10) dX5_temperatures_96 rfl (by decide) ?_
  refine r_icmp_ge C 145 101 dX5_temperatures_98 (by decide) rfl (fun c98 => ?_) (fun c98 => ?_)
  · have h := h.1 c98
    obtain ⟨v145, e145⟩ : ∃ y : Int32, y = i3 + 1 := ⟨_, rfl⟩
    have h := h v145 e145
    refine r_iinc (j := 3) C 148 [(3, .int v145), (0, .ref 209), (1, .int i1), (2, .int i2), (4, .int i4)] dX5_temperatures_145 rfl rfl (by rw [e145]; rfl) (by decide) rfl ?_
    refine r_goto C 85 dX5_temperatures_148 (by decide) ?_
    exact Ws_pick [1, 2, 3, 0] rfl h
  · have h := h.2 c98
    refine r_aload_n (j := 0) C 102 dX5_temperatures_101 rfl rfl ?_
    refine r_get (k := 30) C cl7 105 dX5_temperatures_102 rfl kd_209 (by decide) wd_1242 (.ref 232) (fun _ => rfl) ?_
    refine r_iload (j := 4) C 107 dX5_temperatures_105 rfl rfl ?_
    obtain ⟨o107, h⟩ := h
    refine r_zald C 108 dX5_temperatures_107 rfl kd_232 o107 ?_
    refine r_if_ne C 139 111 dX5_temperatures_108 (by decide) rfl (fun c108 => ?_) (fun c108 => ?_)
    · have h := h.1 c108
      obtain ⟨v139, e139⟩ : ∃ y : Int32, y = i4 + 1 := ⟨_, rfl⟩
      have h := h v139 e139
      refine r_iinc (j := 4) C 142 [(4, .int v139), (0, .ref 209), (1, .int i1), (2, .int i2), (3, .int i3)] dX5_temperatures_139 rfl rfl (by rw [e139]; rfl) (by decide) rfl ?_
      refine r_goto C 94 dX5_temperatures_142 (by decide) ?_
      exact Ws_pick [1, 2, 3, 4, 0] rfl h
    · have h := h.2 c108
      refine r_aload_n (j := 0) C 112 dX5_temperatures_111 rfl rfl ?_
      refine r_iload (j := 4) C 114 dX5_temperatures_112 rfl rfl ?_
      refine r_iload_n (j := 2) C 115 dX5_temperatures_114 rfl rfl ?_
      refine r_cVI (as := [.int i4, .int i2]) (S := []) C r.px 118 (ct_X5_isReady _ _ _ _ _ h) dX5_temperatures_115 rfl cl7 kd_209 wd_67 wd_1477 rfl wd_1475 wd_1478 wd_95 yd_X5_isReady ⟨Nat.le_of_ble_eq_true rfl, Nat.le_of_ble_eq_true rfl⟩ (Nat.le_of_ble_eq_true rfl) (by decide) (fun r115 σ115 h => ?_)
      refine r_if_ne C 124 121 dX5_temperatures_118 (by decide) rfl (fun c118 => ?_) (fun c118 => ?_)
      · have h := h.1 c118
        refine r_aload_n (j := 0) C 125 dX5_temperatures_124 rfl rfl ?_
        refine r_iload (j := 4) C 127 dX5_temperatures_125 rfl rfl ?_
        refine r_iload_n (j := 2) C 128 dX5_temperatures_127 rfl rfl ?_
        refine r_cVV (as := [.int i4, .int i2]) (S := []) C r.px 131 (ct_X5_mixes _ _ _ _ _ h) dX5_temperatures_128 rfl cl7 kd_209 wd_70 wd_1489 rfl wd_1487 wd_1490 wd_95 yd_X5_mixes ⟨Nat.le_of_ble_eq_true rfl, Nat.le_of_ble_eq_true rfl⟩ (Nat.le_of_ble_eq_true rfl) (by decide) (fun σ128 h => ?_)
        refine r_aload_n (j := 0) C 132 dX5_temperatures_131 rfl rfl ?_
        refine r_get (k := 30) C cl7 135 dX5_temperatures_132 rfl kd_209 (by decide) wd_1242 (.ref 232) (fun _ => rfl) ?_
        refine r_iload (j := 4) C 137 dX5_temperatures_135 rfl rfl ?_
        refine r_iconst C 138 (v := 1) dX5_temperatures_137 rfl (by decide) ?_
        obtain ⟨o138, h⟩ := h
        refine r_zast C 139 dX5_temperatures_138 rfl kd_232 o138 (by decide) ?_
        refine r_nmS (fun σ138 e138 => ?_)
        have h := h σ138 e138
        obtain ⟨v139, e139⟩ : ∃ y : Int32, y = i4 + 1 := ⟨_, rfl⟩
        have h := h v139 e139
        refine r_iinc (j := 4) C 142 [(4, .int v139), (0, .ref 209), (1, .int i1), (2, .int i2), (3, .int i3)] dX5_temperatures_139 rfl rfl (by rw [e139]; rfl) (by decide) rfl ?_
        refine r_goto C 94 dX5_temperatures_142 (by decide) ?_
        exact Ws_pick [1, 2, 3, 4, 0] rfl h
      · have h := h.2 c118
        refine r_goto C 139 dX5_temperatures_121 (by decide) ?_
        obtain ⟨v139, e139⟩ : ∃ y : Int32, y = i4 + 1 := ⟨_, rfl⟩
        have h := h v139 e139
        refine r_iinc (j := 4) C 142 [(4, .int v139), (0, .ref 209), (1, .int i1), (2, .int i2), (3, .int i3)] dX5_temperatures_139 rfl rfl (by rw [e139]; rfl) (by decide) rfl ?_
        refine r_goto C 94 dX5_temperatures_142 (by decide) ?_
        exact Ws_pick [1, 2, 3, 4, 0] rfl h
/-- a sweep's state: what is known is right -/
def KnW (row : Nat) (V r0 rX : Nat → Nat) (σ τ : Mem) : Prop := (∀ a k, a ≠ row → a ≠ 232 → τ.1 a k = σ.1 a k) ∧ (∀ a k, a ≠ 231 → τ.2.1 a k = σ.2.1 a k) ∧ τ.2.2 = σ.2.2 ∧ (∀ n, n < 10 → τ.1 232 n ≠ 0 → τ.1 row n = nI (V n) ∧ τ.2.1 231 n = lN (r0 n + rX n)) ∧ (∀ n, n < 10 → τ.1 232 n = 0 → τ.2.1 231 n = lN (r0 n))
theorem TBase.ch {w : Nat → Int32} {g : Gr} {fl : Nat → Int} {dr rk : Nat → Nat} {σ τ : Mem} (h : TBase w g fl dr rk σ) (h1 : ∀ k, τ.1 210 k = σ.1 210 k) (h2 : ∀ k, τ.1 228 k = σ.1 228 k) (h3 : ∀ k, τ.1 225 k = σ.1 225 k) : TBase w g fl dr rk τ :=
  ⟨h.1, fun k hk => by rw [h1]; exact h.2.1 k hk, fun p hp => by rw [h2]; exact h.2.2.1 p hp, h.2.2.2.1, fun n hn => by rw [h3]; exact h.2.2.2.2 n hn⟩
theorem vc_X5_temperatures {x : Ctx} {K : Mem → Prop} {X : String → Mem → Prop} (C : Cx x RX5 cX5_temperatures 5) (r : RtV x 4 0 none K X) (σ : Mem) (h : sp_X5_temperatures σ K X) : Ws x 0 0 [(0, .ref 209)] [] σ := by
  obtain ⟨w, g, fl, dr, rk, T, S, hb, hbd, hE, hK⟩ := h
  have hw := hb.1
  have hg := hw.2.1
  have hfo := hb.2.2.2.1
  obtain ⟨sp1, -⟩ := sup_bd hw
  -- the sweeps of one time
  have H85 : ∀ (i1 : Int32) (b : Bool) (row : Nat) (V r0 rX rkx : Nat → Nat) (σ0 : Mem), (if b then row = 230 else row = 229) → TBase w g fl dr rk σ0 → (∀ e n, prd g fl b e n → e < 10 ∧ rkx e < rkx n) → (∀ n, n < 10 → rkx n < 10) → (∀ (τ : Mem) (n : Nat) (K' : Mem → Prop), KnW row V r0 rX σ0 τ → n < 10 → τ.1 232 n = 0 → (b = false → n ≠ 0) → (∀ e, prd g fl b e n → τ.1 232 e ≠ 0) → (∀ τ' : Mem, MixW row n (V n) (rX n) τ τ' → K' τ') → sp_X5_mixes (nI n) (if b then 1 else 0) τ K' X) → (∀ τ : Mem, KnW row V r0 rX σ0 τ → (∀ n, n < 10 → τ.1 232 n ≠ 0) → ∀ v151 : Int32, v151 = i1 + 1 → Ws x 0 23 [(0, .ref 209), (1, .int v151)] [] τ) → ∀ (s : Nat) (τ : Mem), s ≤ 10 → (KnW row V r0 rX σ0 τ ∧ (b = false → τ.1 232 0 ≠ 0) ∧ ∀ n, n < 10 → rkx n < s → τ.1 232 n ≠ 0) → Ws x 0 85 [(0, .ref 209), (1, .int i1), (2, .int (if b then 1 else 0)), (3, .int (nI s))] [] τ := by
    intro i1 b row V r0 rX rkx σ0 hrow hb0 hprd hrk hmix hout
    have hrow2 : row = 229 ∨ row = 230 := by cases b <;> simp at hrow <;> omega
    refine cnt 10 (fun s τ => KnW row V r0 rX σ0 τ ∧ (b = false → τ.1 232 0 ≠ 0) ∧ ∀ n, n < 10 → rkx n < s → τ.1 232 n ≠ 0) (fun s τ => Ws x 0 85 [(0, .ref 209), (1, .int i1), (2, .int (if b then 1 else 0)), (3, .int (nI s))] [] τ) ?_ ?_
    · rintro τ ⟨k1, k0, k2⟩
      exact sg_X5_temperatures_85 C r _ _ _ τ ⟨fun _ => hout τ k1 (fun n hn => k2 n hn (hrk n hn)), fun q => (lit_lt (by decide) (Nat.le_refl 10) (by decide) q).elim⟩
    · rintro s τ0 hs ⟨k1, k0, k2⟩ ih
      refine sg_X5_temperatures_85 C r _ _ _ τ0 ⟨fun q => (lit_ge (by decide) hs q).elim, fun _ => ?_⟩
      refine cnt 10 (fun k τ => KnW row V r0 rX σ0 τ ∧ (b = false → τ.1 232 0 ≠ 0) ∧ (∀ n, n < 10 → rkx n < s → τ.1 232 n ≠ 0) ∧ ∀ n, n < k → rkx n < s + 1 → τ.1 232 n ≠ 0) (fun k τ => Ws x 0 94 [(0, .ref 209), (1, .int i1), (2, .int (if b then 1 else 0)), (3, .int (nI s)), (4, .int (nI k))] [] τ) ?_ ?_ 0 τ0 (Nat.zero_le _) ⟨k1, k0, k2, fun n hn => absurd hn (Nat.not_lt_zero n)⟩
      · rintro τ ⟨j1, j0, j2, j3⟩
        refine sg_X5_temperatures_94 C r _ _ _ _ τ ⟨fun _ v145 e145 => ?_, fun q => (lit_lt (by decide) (Nat.le_refl 10) (by decide) q).elim⟩
        rw [e145, nI_1]
        exact ih τ ⟨j1, j0, fun n hn hr => j3 n hn hr⟩
      · rintro n τ hn ⟨j1, j0, j2, j3⟩ ihn
        have stay : (τ.1 232 n ≠ 0 ∨ ¬ rkx n < s + 1) → ∀ v139 : Int32, v139 = nI n + 1 → Ws x 0 94 [(0, .ref 209), (1, .int i1), (2, .int (if b then 1 else 0)), (3, .int (nI s)), (4, .int v139)] [] τ := fun hh v e => by
          rw [e, nI_1]
          refine ihn τ ⟨j1, j0, j2, fun m hm hr => ?_⟩
          by_cases d : m = n
          · rw [d] at hr ⊢
            rcases hh with z | z
            · exact z
            · exact absurd hr z
          · exact j3 m (by omega) hr
        have hbτ : TBase w g fl dr rk τ := hb0.ch (fun k => j1.1 210 k (by omega) (by decide)) (fun k => j1.1 228 k (by omega) (by decide)) (fun k => j1.1 225 k (by omega) (by decide))
        refine sg_X5_temperatures_94 C r _ _ _ _ τ ⟨fun q => (lit_ge (by decide) hn q).elim, fun _ => ⟨n_inR hn (by decide), ?_⟩⟩
        rw [n_cl (n := n) (by omega)]
        refine ⟨fun q => stay (.inl q), fun q => ⟨w, g, fl, dr, rk, n, b, hbτ, hn, rfl, rfl, fun hready => ⟨fun _ => ?_, fun z => absurd z (by decide)⟩, fun ⟨e, he, hz⟩ => ⟨fun z => absurd rfl z, fun _ => ?_⟩⟩⟩
        · have hn0 : b = false → n ≠ 0 := fun hbf e => by
            rw [e] at q
            exact j0 hbf q
          refine hmix τ n _ j1 hn q hn0 hready (fun τ' hm => ⟨n_inR hn (by decide), fun σ138 e138 v139 e139 => ?_⟩)
          obtain ⟨m1, m2, m3, m4, m5⟩ := hm
          rw [e139, nI_1]
          have u232 : ∀ k, σ138.1 232 k = if k = n then 1 else τ.1 232 k := fun k => by
            rw [e138, wi_i]
            by_cases d : k = n
            · rw [if_pos ⟨rfl, d⟩, if_pos d]
            · rw [if_neg (fun z => d z.2), if_neg d, m1 232 k (by omega)]
          have ua : ∀ a k, a ≠ 232 → σ138.1 a k = τ'.1 a k := fun a k ha => by rw [e138, wi_i, if_neg (fun z => ha z.1)]
          have ul : ∀ a k, σ138.2.1 a k = τ'.2.1 a k := fun a k => by rw [e138]; rfl
          refine ihn σ138 ⟨⟨fun a k h1 h2 => ?_, fun a k h1 => ?_, by rw [e138]; show τ'.2.2 = _; rw [m3]; exact j1.2.2.1, fun m hm hk => ?_, fun m hm hk => ?_⟩, fun hbf => ?_, fun m hm hr => ?_, fun m hm hr => ?_⟩
          · rw [ua a k h2, m1 a k (fun z => h1 z.1)]; exact j1.1 a k h1 h2
          · rw [ul, m2 a k (fun z => h1 z.1)]; exact j1.2.1 a k h1
          · rw [ua row m (by omega), ul]
            by_cases d : m = n
            · rw [d, m4, m5, j1.2.2.2.2 n hn q, lN_add]; exact ⟨rfl, rfl⟩
            · rw [u232, if_neg d] at hk
              rw [m1 row m (fun z => d z.2), m2 231 m (fun z => d z.2)]
              exact j1.2.2.2.1 m hm hk
          · rw [u232] at hk
            by_cases d : m = n
            · rw [if_pos d] at hk; exact absurd hk (by decide)
            · rw [if_neg d] at hk
              rw [ul, m2 231 m (fun z => d z.2)]
              exact j1.2.2.2.2 m hm hk
          · rw [u232]
            split
            · decide
            · exact j0 hbf
          · rw [u232]
            split
            · decide
            · exact j2 m hm hr
          · rw [u232]
            by_cases d : m = n
            · rw [if_pos d]; decide
            · rw [if_neg d]; exact j3 m (by omega) hr
        · refine stay (.inr (fun z => ?_))
          obtain ⟨e10, er⟩ := hprd e n he
          exact j2 e e10 (by omega) hz
  -- isKnown is emptied
  have H41 : ∀ (i1 i2 : Int32) (σ0 : Mem), (∀ τ : Mem, (∀ a k, a ≠ 232 → τ.1 a k = σ0.1 a k) → τ.2 = σ0.2 → (∀ n, n < 10 → τ.1 232 n = 0) → (¬ i2 = 0 → Ws x 0 85 [(0, .ref 209), (1, .int i1), (2, .int i2), (3, .int 0)] [] τ) ∧ (i2 = 0 → ∀ σ75 : Mem, σ75 = wi τ 229 0 (τ.1 210 0) → ∀ σ82 : Mem, σ82 = wi σ75 232 0 1 → Ws x 0 85 [(0, .ref 209), (1, .int i1), (2, .int i2), (3, .int 0)] [] σ82)) → Ws x 0 41 [(0, .ref 209), (1, .int i1), (2, .int i2), (3, .int 0)] [] σ0 := by
    intro i1 i2 σ0 hgo
    refine cnt 10 (fun k τ => (∀ a j, a ≠ 232 → τ.1 a j = σ0.1 a j) ∧ τ.2 = σ0.2 ∧ ∀ n, n < k → τ.1 232 n = 0) (fun k τ => Ws x 0 41 [(0, .ref 209), (1, .int i1), (2, .int i2), (3, .int (nI k))] [] τ) ?_ ?_ 0 σ0 (Nat.zero_le _) ⟨fun _ _ _ => rfl, rfl, fun n hn => absurd hn (Nat.not_lt_zero n)⟩
    · rintro τ ⟨j1, j2, j3⟩
      exact sg_X5_temperatures_41 C r _ _ _ τ ⟨fun _ => hgo τ j1 j2 j3, fun q => (lit_lt (by decide) (Nat.le_refl 10) (by decide) q).elim⟩
    · rintro k τ hk ⟨j1, j2, j3⟩ ih
      refine sg_X5_temperatures_41 C r _ _ _ τ ⟨fun q => (lit_ge (by decide) hk q).elim, fun _ => ⟨n_inR hk (by decide), fun σ53 e53 v54 e54 => ?_⟩⟩
      rw [n_cl (by omega)] at e53
      rw [e54, nI_1]
      refine ih σ53 ⟨fun a j ha => by rw [e53, wi_i, if_neg (fun z => ha z.1)]; exact j1 a j ha, by rw [e53]; exact j2, fun n hn => ?_⟩
      rw [e53, wi_i]
      by_cases d : n = k
      · rw [if_pos ⟨rfl, d⟩]
      · rw [if_neg (fun z => d z.2)]; exact j3 n (by omega)
  -- the water that goes back
  have HC : ∀ τ0 : Mem, (∀ a k, a ≠ 229 → a ≠ 232 → τ0.1 a k = σ.1 a k) → (∀ a k, a ≠ 231 → τ0.2.1 a k = σ.2.1 a k) → τ0.2.2 = σ.2.2 → (∀ n, n < 10 → τ0.1 229 n = nI (T n) ∧ τ0.2.1 231 n = lN (rmH w g fl T n)) → Ws x 0 23 [(0, .ref 209), (1, .int 1)] [] τ0 := by
    intro τ0 a1 a2 a3 a4
    refine sg_X5_temperatures_23 C r _ τ0 ⟨fun q => absurd q (by decide), fun _ => ⟨fun q => absurd rfl q, fun _ => H41 1 1 τ0 (fun τ b1 b2 b3 => ⟨fun _ => ?_, fun q => absurd q (by decide)⟩)⟩⟩
    have hbτ : TBase w g fl dr rk τ := hb.ch (fun k => by rw [b1 210 k (by decide), a1 210 k (by decide) (by decide)]) (fun k => by rw [b1 228 k (by decide), a1 228 k (by decide) (by decide)]) (fun k => by rw [b1 225 k (by decide), a1 225 k (by decide) (by decide)])
    refine H85 1 true 230 S (rmH w g fl T) (rmC w g fl dr S) (fun n => 9 - rk n) τ rfl hbτ (fun e n ⟨p, hp, he⟩ => ?_) (fun n _ => by omega) (fun υ n K' hk hn hz _ hready hgo => ?_) (fun υ hk hall v151 e151 => ?_) 0 τ (Nat.zero_le _) ⟨⟨fun _ _ _ _ => rfl, fun _ _ _ => rfl, rfl, fun n hn hk => absurd (b3 n hn) hk, fun n hn _ => by rw [b2]; exact (a4 n hn).2⟩, fun q => absurd q (by decide), fun n _ hlt => absurd hlt (Nat.not_lt_zero _)⟩
    · have he : toO g fl p = some e ∧ frO g fl p = some n := he
      have hlt := hfo.2.2.1 p n e hp he.2 he.1
      have hn10 := frO_lt hg hp n he.2
      have he10 := toO_lt hg hp e he.1
      have := hfo.2.2.2 e he10
      exact ⟨he10, by omega⟩
    · refine ⟨w, g, fl, dr, rk, S, n, hbτ.ch (fun k => hk.1 210 k (by decide) (by decide)) (fun k => hk.1 228 k (by decide) (by decide)) (fun k => hk.1 225 k (by decide) (by decide)), hn, rfl, fun e he => (hbd e he).2, .inr ⟨rfl, fun e hpe => ?_, fun τ' hm => hgo τ' ?_⟩⟩
      · obtain ⟨p, hp, he⟩ := id hpe
        have he : toO g fl p = some e ∧ frO g fl p = some n := he
        exact (hk.2.2.2.1 e (toO_lt hg hp e he.1) (hready e hpe)).1
      · have e2 := (hE n hn).2
        unfold EqC at e2
        rw [← e2] at hm
        exact hm
    · refine sg_X5_temperatures_23 C r _ υ ⟨fun _ => ?_, fun q => absurd (by rw [e151]; decide) q⟩
      refine hK υ (fun a k h1 h2 h3 => ?_) (fun a k h1 => ?_) ?_ (fun n hn => ?_)
      · rw [hk.1 a k h2 h3, b1 a k h3, a1 a k h1 h3]
      · rw [hk.2.1 a k h1, b2, a2 a k h1]
      · rw [hk.2.2.1, b2, a3]
      · obtain ⟨c1, c2⟩ := hk.2.2.2.1 n hn (hall n hn)
        exact ⟨by rw [hk.1 229 n (by decide) (by decide), b1 229 n (by decide)]; exact (a4 n hn).1, c1, c2⟩
  -- the hot water
  have HH : ∀ τ0 : Mem, (∀ a k, τ0.1 a k = σ.1 a k) → (∀ a k, a ≠ 231 → τ0.2.1 a k = σ.2.1 a k) → τ0.2.2 = σ.2.2 → (∀ n, n < 10 → τ0.2.1 231 n = 0) → Ws x 0 23 [(0, .ref 209), (1, .int 0)] [] τ0 := by
    intro τ0 a1 a2 a3 a4
    refine sg_X5_temperatures_23 C r _ τ0 ⟨fun q => absurd q (by decide), fun _ => ⟨fun _ => H41 0 0 τ0 (fun τ b1 b2 b3 => ⟨fun q => absurd rfl q, fun _ σ75 e75 σ82 e82 => ?_⟩), fun q => absurd q (by decide)⟩⟩
    have u : ∀ a k, a ≠ 229 → a ≠ 232 → σ82.1 a k = σ.1 a k := fun a k h1 h2 => by
      rw [e82, e75, wi_i, if_neg (fun z => h2 z.1), wi_i, if_neg (fun z => h1 z.1), b1 a k h2, a1]
    have ul : ∀ a k, σ82.2.1 a k = τ0.2.1 a k := fun a k => by rw [e82, e75]; show τ.2.1 a k = _; rw [b2]
    have u0 : σ82.1 232 0 = 1 := by rw [e82, wi_i, if_pos ⟨rfl, rfl⟩]
    have un : ∀ n, n < 10 → n ≠ 0 → σ82.1 232 n = 0 := fun n hn h0 => by rw [e82, wi_i, if_neg (fun z => h0 z.2), e75, wi_i, if_neg (fun z => absurd z.1 (by decide))]; exact b3 n hn
    have uh : σ82.1 229 0 = nI (T 0) := by
      rw [e82, wi_i, if_neg (fun z => absurd z.1 (by decide)), e75, wi_i, if_pos ⟨rfl, rfl⟩, b1 210 0 (by decide), a1, hb.2.1 0 (by decide), sp1]
      have e2 := (hE 0 (by decide)).1
      unfold EqH at e2
      rw [if_pos rfl] at e2
      rw [e2]
    have hbτ : TBase w g fl dr rk σ82 := hb.ch (fun k => u 210 k (by decide) (by decide)) (fun k => u 228 k (by decide) (by decide)) (fun k => u 225 k (by decide) (by decide))
    refine H85 0 false 229 T (fun _ => 0) (rmH w g fl T) rk σ82 rfl hbτ (fun e n ⟨p, hp, he⟩ => ?_) (fun n hn => hfo.2.2.2 n hn) (fun υ n K' hk hn hz hn0 hready hgo => ?_) (fun υ hk hall v151 e151 => ?_) 0 σ82 (Nat.zero_le _) ⟨⟨fun _ _ _ _ => rfl, fun _ _ _ => rfl, rfl, fun n hn hk => ?_, fun n hn _ => by rw [ul]; exact a4 n hn⟩, fun _ => by rw [u0]; decide, fun n _ hlt => absurd hlt (Nat.not_lt_zero _)⟩
    · have he : frO g fl p = some e ∧ toO g fl p = some n := he
      exact ⟨frO_lt hg hp e he.1, hfo.2.2.1 p e n hp he.1 he.2⟩
    · refine ⟨w, g, fl, dr, rk, T, n, hbτ.ch (fun k => hk.1 210 k (by decide) (by decide)) (fun k => hk.1 228 k (by decide) (by decide)) (fun k => hk.1 225 k (by decide) (by decide)), hn, rfl, fun e he => (hbd e he).1, .inl ⟨rfl, fun e hpe => ?_, fun τ' hm => hgo τ' ?_⟩⟩
      · obtain ⟨p, hp, he⟩ := id hpe
        have he : frO g fl p = some e ∧ toO g fl p = some n := he
        exact (hk.2.2.2.1 e (frO_lt hg hp e he.1) (hready e hpe)).1
      · have e2 := (hE n hn).1
        unfold EqH at e2
        rw [if_neg (hn0 rfl)] at e2
        rw [← e2] at hm
        have e3 : rmH w g fl T n = if flH g fl n = 0 then 0 else smH w g fl T n % flH g fl n := by
          unfold rmH
          by_cases z : flH g fl n = 0
          · rw [if_pos (.inr z), if_pos z]
          · rw [if_neg (by rintro (y | y); exact hn0 rfl y; exact z y), if_neg z]
        rw [e3]; exact hm
    · have e1 : v151 = 1 := by rw [e151]; rfl
      rw [e1]
      refine HC υ (fun a k h1 h2 => ?_) (fun a k h1 => ?_) ?_ (fun n hn => ?_)
      · rw [hk.1 a k h1 h2, u a k h1 h2]
      · rw [hk.2.1 a k h1, ul, a2 a k h1]
      · rw [hk.2.2.1, e82, e75]; show τ.2.2 = _; rw [b2, a3]
      · obtain ⟨c1, c2⟩ := hk.2.2.2.1 n hn (hall n hn)
        exact ⟨c1, by rw [c2, Nat.zero_add]⟩
    · by_cases n0 : n = 0
      · rw [n0]
        refine ⟨uh, ?_⟩
        rw [ul, a4 0 (by decide)]
        unfold rmH
        rw [if_pos (.inl rfl)]; rfl
      · exact absurd (un n hn n0) hk
  refine sg_X5_temperatures_0 C r σ ?_
  refine cnt 10 (fun k τ => (∀ a j, τ.1 a j = σ.1 a j) ∧ (∀ a j, a ≠ 231 → τ.2.1 a j = σ.2.1 a j) ∧ τ.2.2 = σ.2.2 ∧ ∀ n, n < k → τ.2.1 231 n = 0) (fun k τ => Ws x 0 2 [(0, .ref 209), (1, .int (nI k))] [] τ) ?_ ?_ 0 σ (Nat.zero_le _) ⟨fun _ _ => rfl, fun _ _ _ => rfl, rfl, fun n hn => absurd hn (Nat.not_lt_zero n)⟩
  · rintro τ ⟨j1, j2, j3, j4⟩
    exact sg_X5_temperatures_2 C r _ τ ⟨fun _ => HH τ j1 j2 j3 j4, fun q => (lit_lt (by decide) (Nat.le_refl 10) (by decide) q).elim⟩
  · rintro k τ hk ⟨j1, j2, j3, j4⟩ ih
    refine sg_X5_temperatures_2 C r _ τ ⟨fun q => (lit_ge (by decide) hk q).elim, fun _ => ⟨n_inR hk (by decide), fun σ14 e14 v15 e15 => ?_⟩⟩
    rw [n_cl (by omega)] at e14
    rw [e15, nI_1]
    refine ih σ14 ⟨fun a j => by rw [e14]; exact j1 a j, fun a j ha => by rw [e14, wl_l, if_neg (fun z => ha z.1)]; exact j2 a j ha, by rw [e14]; exact j3, fun n hn => ?_⟩
    rw [e14, wl_l]
    by_cases d : n = k
    · rw [if_pos ⟨rfl, d⟩]
    · rw [if_neg (fun z => d z.2)]; exact j4 n (by omega)
theorem ct_X5_temperatures  (σ : Mem) (K : Mem → Prop) (X : String → Mem → Prop) (h : sp_X5_temperatures  σ K X) : CtV yX5_temperatures cX5_temperatures 5 none 4 0 [.ref 209] σ K X :=
  ctV_of (by decide +kernel) (Nat.le_of_ble_eq_true rfl) (fun x C r => vc_X5_temperatures C r  σ h)
