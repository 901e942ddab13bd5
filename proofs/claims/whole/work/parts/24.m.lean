/-! HeatNetworkModel.findsLoop()V: level 4, exceptions 0 -/
def sp_X5_findsLoop (σ : Mem) (K : Mem → Prop) (X : String → Mem → Prop) : Prop := ∃ (g : Gr) (c : Lp), WG g ∧ GM σ g ∧ LPo g (bfs g 0) c ∧ ∀ τ : Mem, ChM σ τ → FarM (bfs g 0) τ → LoM c τ → K τ
set_option maxRecDepth 4000 in
theorem sg_X5_findsLoop_0 {x : Ctx} {K : Mem → Prop} {X : String → Mem → Prop} (C : Cx x RX5 cX5_findsLoop 9) (r : RtV x 4 0 none K X)   (σ : Mem) (h : sp_X5_measure 0 σ (fun σ2 => Ws x 0 7 [(0, .ref 209), (1, .int 0)] [] σ2) X) : Ws x 0 0 [(0, .ref 209)] [] σ := by
  refine r_aload_n (j := 0) C 1 dX5_findsLoop_0 rfl rfl ?_
  refine r_iconst C 2 (v := 0) dX5_findsLoop_1 rfl (by decide) ?_
  refine r_cVV (as := [.int 0]) (S := []) C r.px 5 (ct_X5_measure _ _ _ _ h) dX5_findsLoop_2 rfl cl7 kd_209 wd_48 wd_1372 rfl wd_1370 wd_1373 wd_95 yd_X5_measure ⟨Nat.le_of_ble_eq_true rfl, Nat.le_of_ble_eq_true rfl⟩ (Nat.le_of_ble_eq_true rfl) (by decide) (fun σ2 h => ?_)
  refine r_iconst C 6 (v := 0) dX5_findsLoop_5 rfl (by decide) ?_
  refine r_istore_n C 7 [(1, .int 0), (0, .ref 209)] dX5_findsLoop_6 rfl (by decide) rfl ?_
  exact Ws_pick [1, 0] rfl h
set_option maxRecDepth 4000 in
theorem sg_X5_findsLoop_7 {x : Ctx} {K : Mem → Prop} {X : String → Mem → Prop} (C : Cx x RX5 cX5_findsLoop 9) (r : RtV x 4 0 none K X) (i1 : Int32)  (σ : Mem) (h : (10 ≤ i1 → Ws x 0 48 [(0, .ref 209), (1, .int 1)] [] σ) ∧ (¬ 10 ≤ i1 → (vp_in i1 10) ∧ (((σ.1 219 i1.toNatClampNeg) < 0 → (vp_in i1 10) ∧ (∀ σ32 : Mem, σ32 = wi σ 222 i1.toNatClampNeg 0 → (vp_in i1 10) ∧ (∀ σ39 : Mem, σ39 = wi σ32 221 i1.toNatClampNeg 0 → ∀ v40 : Int32, v40 = i1 + 1 → Ws x 0 7 [(0, .ref 209), (1, .int v40)] [] σ39))) ∧ (¬ (σ.1 219 i1.toNatClampNeg) < 0 → (vp_in i1 10) ∧ (∀ σ32 : Mem, σ32 = wi σ 222 i1.toNatClampNeg 1 → (vp_in i1 10) ∧ (∀ σ39 : Mem, σ39 = wi σ32 221 i1.toNatClampNeg 0 → ∀ v40 : Int32, v40 = i1 + 1 → Ws x 0 7 [(0, .ref 209), (1, .int v40)] [] σ39)))))) : Ws x 0 7 [(0, .ref 209), (1, .int i1)] [] σ := by
  refine r_iload_n (j := 1) C 8 dX5_findsLoop_7 rfl rfl ?_
  refine r_bipush C 10 (v := 10) dX5_findsLoop_8 rfl (by decide) ?_
  refine r_icmp_ge C 46 13 dX5_findsLoop_10 (by decide) rfl (fun c10 => ?_) (fun c10 => ?_)
  · have h := h.1 c10
    refine r_iconst C 47 (v := 1) dX5_findsLoop_46 rfl (by decide) ?_
    refine r_istore_n C 48 [(1, .int 1), (0, .ref 209)] dX5_findsLoop_47 rfl (by decide) rfl ?_
    exact Ws_pick [1, 0] rfl h
  · have h := h.2 c10
    refine r_aload_n (j := 0) C 14 dX5_findsLoop_13 rfl rfl ?_
    refine r_get (k := 19) C cl7 17 dX5_findsLoop_14 rfl kd_209 (by decide) wd_1231 (.ref 222) (fun _ => rfl) ?_
    refine r_iload_n (j := 1) C 18 dX5_findsLoop_17 rfl rfl ?_
    refine r_aload_n (j := 0) C 19 dX5_findsLoop_18 rfl rfl ?_
    refine r_get (k := 16) C cl7 22 dX5_findsLoop_19 rfl kd_209 (by decide) wd_1228 (.ref 219) (fun _ => rfl) ?_
    refine r_iload_n (j := 1) C 23 dX5_findsLoop_22 rfl rfl ?_
    obtain ⟨o23, h⟩ := h
    refine r_iald C 24 dX5_findsLoop_23 rfl kd_219 o23 ?_
    refine r_if_lt C 31 27 dX5_findsLoop_24 (by decide) rfl (fun c24 => ?_) (fun c24 => ?_)
    · have h := h.1 c24
      refine r_iconst C 32 (v := 0) dX5_findsLoop_31 rfl (by decide) ?_
      obtain ⟨o32, h⟩ := h
      refine r_zast C 33 dX5_findsLoop_32 rfl kd_222 o32 (by decide) ?_
      refine r_nmS (fun σ32 e32 => ?_)
      have h := h σ32 e32
      refine r_aload_n (j := 0) C 34 dX5_findsLoop_33 rfl rfl ?_
      refine r_get (k := 18) C cl7 37 dX5_findsLoop_34 rfl kd_209 (by decide) wd_1230 (.ref 221) (fun _ => rfl) ?_
      refine r_iload_n (j := 1) C 38 dX5_findsLoop_37 rfl rfl ?_
      refine r_iconst C 39 (v := 0) dX5_findsLoop_38 rfl (by decide) ?_
      obtain ⟨o39, h⟩ := h
      refine r_iast C 40 dX5_findsLoop_39 rfl kd_221 o39 ?_
      refine r_nmS (fun σ39 e39 => ?_)
      have h := h σ39 e39
      obtain ⟨v40, e40⟩ : ∃ y : Int32, y = i1 + 1 := ⟨_, rfl⟩
      have h := h v40 e40
      refine r_iinc (j := 1) C 43 [(1, .int v40), (0, .ref 209)] dX5_findsLoop_40 rfl rfl (by rw [e40]; rfl) (by decide) rfl ?_
      refine r_goto C 7 dX5_findsLoop_43 (by decide) ?_
      exact Ws_pick [1, 0] rfl h
    · have h := h.2 c24
      refine r_iconst C 28 (v := 1) dX5_findsLoop_27 rfl (by decide) ?_
      refine r_goto C 32 dX5_findsLoop_28 (by decide) ?_
      obtain ⟨o32, h⟩ := h
      refine r_zast C 33 dX5_findsLoop_32 rfl kd_222 o32 (by decide) ?_
      refine r_nmS (fun σ32 e32 => ?_)
      have h := h σ32 e32
      refine r_aload_n (j := 0) C 34 dX5_findsLoop_33 rfl rfl ?_
      refine r_get (k := 18) C cl7 37 dX5_findsLoop_34 rfl kd_209 (by decide) wd_1230 (.ref 221) (fun _ => rfl) ?_
      refine r_iload_n (j := 1) C 38 dX5_findsLoop_37 rfl rfl ?_
      refine r_iconst C 39 (v := 0) dX5_findsLoop_38 rfl (by decide) ?_
      obtain ⟨o39, h⟩ := h
      refine r_iast C 40 dX5_findsLoop_39 rfl kd_221 o39 ?_
      refine r_nmS (fun σ39 e39 => ?_)
      have h := h σ39 e39
      obtain ⟨v40, e40⟩ : ∃ y : Int32, y = i1 + 1 := ⟨_, rfl⟩
      have h := h v40 e40
      refine r_iinc (j := 1) C 43 [(1, .int v40), (0, .ref 209)] dX5_findsLoop_40 rfl rfl (by rw [e40]; rfl) (by decide) rfl ?_
      refine r_goto C 7 dX5_findsLoop_43 (by decide) ?_
      exact Ws_pick [1, 0] rfl h
set_option maxRecDepth 4000 in
theorem sg_X5_findsLoop_48 {x : Ctx} {K : Mem → Prop} {X : String → Mem → Prop} (C : Cx x RX5 cX5_findsLoop 9) (r : RtV x 4 0 none K X) (i1 : Int32)  (σ : Mem) (h : (i1 = 0 → ∀ σ202 : Mem, σ202 = wi σ 209 22 0 → Ws x 0 209 [(0, .ref 209), (2, .int (-1)), (3, .int 0)] [] σ202) ∧ (¬ i1 = 0 → Ws x 0 56 [(0, .ref 209), (1, .int 0), (2, .int 0)] [] σ)) : Ws x 0 48 [(0, .ref 209), (1, .int i1)] [] σ := by
  refine r_iload_n (j := 1) C 49 dX5_findsLoop_48 rfl rfl ?_
  refine r_if_eq C 200 52 dX5_findsLoop_49 (by decide) rfl (fun c49 => ?_) (fun c49 => ?_)
  · have h := h.1 c49
    refine r_aload_n (j := 0) C 201 dX5_findsLoop_200 rfl rfl ?_
    refine r_iconst C 202 (v := 0) dX5_findsLoop_201 rfl (by decide) ?_
    refine r_putI (k := 22) C cl7 205 dX5_findsLoop_202 rfl kd_209 (by decide) wd_1234 rfl rfl rfl rfl ?_
    refine r_nmS (fun σ202 e202 => ?_)
    have h := h σ202 e202
    refine r_iconst C 206 (v := (-1)) dX5_findsLoop_205 rfl (by decide) ?_
    refine r_istore_n C 207 [(2, .int (-1)), (0, .ref 209), (1, .int i1)] dX5_findsLoop_206 rfl (by decide) rfl ?_
    refine r_iconst C 208 (v := 0) dX5_findsLoop_207 rfl (by decide) ?_
    refine r_istore_n C 209 [(3, .int 0), (2, .int (-1)), (0, .ref 209), (1, .int i1)] dX5_findsLoop_208 rfl (by decide) rfl ?_
    exact Ws_pick [2, 1, 0] rfl h
  · have h := h.2 c49
    refine r_iconst C 53 (v := 0) dX5_findsLoop_52 rfl (by decide) ?_
    refine r_istore_n C 54 [(1, .int 0), (0, .ref 209)] dX5_findsLoop_53 rfl (by decide) rfl ?_
    refine r_iconst C 55 (v := 0) dX5_findsLoop_54 rfl (by decide) ?_
    refine r_istore_n C 56 [(2, .int 0), (1, .int 0), (0, .ref 209)] dX5_findsLoop_55 rfl (by decide) rfl ?_
    exact Ws_pick [2, 1, 0] rfl h
set_option maxRecDepth 4000 in
theorem sg_X5_findsLoop_56 {x : Ctx} {K : Mem → Prop} {X : String → Mem → Prop} (C : Cx x RX5 cX5_findsLoop 9) (r : RtV x 4 0 none K X) (i1 : Int32) (i2 : Int32)  (σ : Mem) (h : (10 ≤ i2 → Ws x 0 77 [(0, .ref 209), (1, .int i1), (2, .int 0)] [] σ) ∧ (¬ 10 ≤ i2 → (vp_in i2 10) ∧ (∀ σ68 : Mem, σ68 = wi σ 221 i2.toNatClampNeg 0 → ∀ v69 : Int32, v69 = i2 + 1 → Ws x 0 56 [(0, .ref 209), (1, .int i1), (2, .int v69)] [] σ68))) : Ws x 0 56 [(0, .ref 209), (1, .int i1), (2, .int i2)] [] σ := by
  refine r_iload_n (j := 2) C 57 dX5_findsLoop_56 rfl rfl ?_
  refine r_bipush C 59 (v := 10) dX5_findsLoop_57 rfl (by decide) ?_
  refine r_icmp_ge C 75 62 dX5_findsLoop_59 (by decide) rfl (fun c59 => ?_) (fun c59 => ?_)
  · have h := h.1 c59
    refine r_iconst C 76 (v := 0) dX5_findsLoop_75 rfl (by decide) ?_
    refine r_istore_n C 77 [(2, .int 0), (0, .ref 209), (1, .int i1)] dX5_findsLoop_76 rfl (by decide) rfl ?_
    exact Ws_pick [1, 2, 0] rfl h
  · have h := h.2 c59
    refine r_aload_n (j := 0) C 63 dX5_findsLoop_62 rfl rfl ?_
    refine r_get (k := 18) C cl7 66 dX5_findsLoop_63 rfl kd_209 (by decide) wd_1230 (.ref 221) (fun _ => rfl) ?_
    refine r_iload_n (j := 2) C 67 dX5_findsLoop_66 rfl rfl ?_
    refine r_iconst C 68 (v := 0) dX5_findsLoop_67 rfl (by decide) ?_
    obtain ⟨o68, h⟩ := h
    refine r_iast C 69 dX5_findsLoop_68 rfl kd_221 o68 ?_
    refine r_nmS (fun σ68 e68 => ?_)
    have h := h σ68 e68
    obtain ⟨v69, e69⟩ : ∃ y : Int32, y = i2 + 1 := ⟨_, rfl⟩
    have h := h v69 e69
    refine r_iinc (j := 2) C 72 [(2, .int v69), (0, .ref 209), (1, .int i1)] dX5_findsLoop_69 rfl rfl (by rw [e69]; rfl) (by decide) rfl ?_
    refine r_goto C 56 dX5_findsLoop_72 (by decide) ?_
    exact Ws_pick [1, 2, 0] rfl h
set_option maxRecDepth 4000 in
theorem sg_X5_findsLoop_77 {x : Ctx} {K : Mem → Prop} {X : String → Mem → Prop} (C : Cx x RX5 cX5_findsLoop 9) (r : RtV x 4 0 none K X) (i1 : Int32) (i2 : Int32)  (σ : Mem) (h : sp_X5_pipes  σ (fun r79 σ79 => (r79 ≤ i2 → Ws x 0 154 [(0, .ref 209), (1, .int i1), (2, .int 0)] [] σ79) ∧ (¬ r79 ≤ i2 → sp_X5_of i2 0 σ79 (fun r92 σ92 => (vp_in r92 10) ∧ (((σ92.1 222 r92.toNatClampNeg) = 0 → ∀ v146 : Int32, v146 = i2 + 1 → Ws x 0 77 [(0, .ref 209), (1, .int i1), (2, .int v146)] [] σ92) ∧ (¬ (σ92.1 222 r92.toNatClampNeg) = 0 → sp_X5_of i2 1 σ92 (fun r106 σ106 => (vp_in r106 10) ∧ ((¬ (σ106.1 222 r106.toNatClampNeg) = 0 → sp_X5_of i2 0 σ106 (fun r123 σ123 => (vp_in r123 10) ∧ ((vp_in r123 10) ∧ (∀ σ130 : Mem, σ130 = wi σ123 221 r123.toNatClampNeg ((σ123.1 221 r123.toNatClampNeg) + 1) → sp_X5_of i2 1 σ130 (fun r138 σ138 => (vp_in r138 10) ∧ ((vp_in r138 10) ∧ (∀ σ145 : Mem, σ145 = wi σ138 221 r138.toNatClampNeg ((σ138.1 221 r138.toNatClampNeg) + 1) → ∀ v146 : Int32, v146 = i2 + 1 → Ws x 0 77 [(0, .ref 209), (1, .int i1), (2, .int v146)] [] σ145))) X))) X) ∧ ((σ106.1 222 r106.toNatClampNeg) = 0 → ∀ v146 : Int32, v146 = i2 + 1 → Ws x 0 77 [(0, .ref 209), (1, .int i1), (2, .int v146)] [] σ106))) X))) X)) X) : Ws x 0 77 [(0, .ref 209), (1, .int i1), (2, .int i2)] [] σ := by
  refine r_iload_n (j := 2) C 78 dX5_findsLoop_77 rfl rfl ?_
  refine r_aload_n (j := 0) C 79 dX5_findsLoop_78 rfl rfl ?_
  refine r_cVI (as := []) (S := [.int i2]) C r.px 82 (ct_X5_pipes  _ _ _ h) dX5_findsLoop_79 rfl cl7 kd_209 wd_45 wd_1360 rfl wd_1358 wd_1361 wd_95 yd_X5_pipes ⟨Nat.le_of_ble_eq_true rfl, Nat.le_of_ble_eq_true rfl⟩ (Nat.le_of_ble_eq_true rfl) (by decide) (fun r79 σ79 h => ?_)
  refine r_icmp_ge C 152 85 dX5_findsLoop_82 (by decide) rfl (fun c82 => ?_) (fun c82 => ?_)
  · have h := h.1 c82
    refine r_iconst C 153 (v := 0) dX5_findsLoop_152 rfl (by decide) ?_
    refine r_istore_n C 154 [(2, .int 0), (0, .ref 209), (1, .int i1)] dX5_findsLoop_153 rfl (by decide) rfl ?_
    exact Ws_pick [1, 2, 0] rfl h
  · have h := h.2 c82
    refine r_aload_n (j := 0) C 86 dX5_findsLoop_85 rfl rfl ?_
    refine r_get (k := 19) C cl7 89 dX5_findsLoop_86 rfl kd_209 (by decide) wd_1231 (.ref 222) (fun _ => rfl) ?_
    refine r_aload_n (j := 0) C 90 dX5_findsLoop_89 rfl rfl ?_
    refine r_iload_n (j := 2) C 91 dX5_findsLoop_90 rfl rfl ?_
    refine r_iconst C 92 (v := 0) dX5_findsLoop_91 rfl (by decide) ?_
    refine r_cVI (as := [.int i2, .int 0]) (S := [.ref 222]) C r.px 95 (ct_X5_of _ _ _ _ _ h) dX5_findsLoop_92 rfl cl7 kd_209 wd_47 wd_1368 rfl wd_1366 wd_1369 wd_95 yd_X5_of ⟨Nat.le_of_ble_eq_true rfl, Nat.le_of_ble_eq_true rfl⟩ (Nat.le_of_ble_eq_true rfl) (by decide) (fun r92 σ92 h => ?_)
    obtain ⟨o95, h⟩ := h
    refine r_zald C 96 dX5_findsLoop_95 rfl kd_222 o95 ?_
    refine r_if_eq C 146 99 dX5_findsLoop_96 (by decide) rfl (fun c96 => ?_) (fun c96 => ?_)
    · have h := h.1 c96
      obtain ⟨v146, e146⟩ : ∃ y : Int32, y = i2 + 1 := ⟨_, rfl⟩
      have h := h v146 e146
      refine r_iinc (j := 2) C 149 [(2, .int v146), (0, .ref 209), (1, .int i1)] dX5_findsLoop_146 rfl rfl (by rw [e146]; rfl) (by decide) rfl ?_
      refine r_goto C 77 dX5_findsLoop_149 (by decide) ?_
      exact Ws_pick [1, 2, 0] rfl h
    · have h := h.2 c96
      refine r_aload_n (j := 0) C 100 dX5_findsLoop_99 rfl rfl ?_
      refine r_get (k := 19) C cl7 103 dX5_findsLoop_100 rfl kd_209 (by decide) wd_1231 (.ref 222) (fun _ => rfl) ?_
      refine r_aload_n (j := 0) C 104 dX5_findsLoop_103 rfl rfl ?_
      refine r_iload_n (j := 2) C 105 dX5_findsLoop_104 rfl rfl ?_
      refine r_iconst C 106 (v := 1) dX5_findsLoop_105 rfl (by decide) ?_
      refine r_cVI (as := [.int i2, .int 1]) (S := [.ref 222]) C r.px 109 (ct_X5_of _ _ _ _ _ h) dX5_findsLoop_106 rfl cl7 kd_209 wd_47 wd_1368 rfl wd_1366 wd_1369 wd_95 yd_X5_of ⟨Nat.le_of_ble_eq_true rfl, Nat.le_of_ble_eq_true rfl⟩ (Nat.le_of_ble_eq_true rfl) (by decide) (fun r106 σ106 h => ?_)
      obtain ⟨o109, h⟩ := h
      refine r_zald C 110 dX5_findsLoop_109 rfl kd_222 o109 ?_
      refine r_if_ne C 116 113 dX5_findsLoop_110 (by decide) rfl (fun c110 => ?_) (fun c110 => ?_)
      · have h := h.1 c110
        refine r_aload_n (j := 0) C 117 dX5_findsLoop_116 rfl rfl ?_
        refine r_get (k := 18) C cl7 120 dX5_findsLoop_117 rfl kd_209 (by decide) wd_1230 (.ref 221) (fun _ => rfl) ?_
        refine r_aload_n (j := 0) C 121 dX5_findsLoop_120 rfl rfl ?_
        refine r_iload_n (j := 2) C 122 dX5_findsLoop_121 rfl rfl ?_
        refine r_iconst C 123 (v := 0) dX5_findsLoop_122 rfl (by decide) ?_
        refine r_cVI (as := [.int i2, .int 0]) (S := [.ref 221]) C r.px 126 (ct_X5_of _ _ _ _ _ h) dX5_findsLoop_123 rfl cl7 kd_209 wd_47 wd_1368 rfl wd_1366 wd_1369 wd_95 yd_X5_of ⟨Nat.le_of_ble_eq_true rfl, Nat.le_of_ble_eq_true rfl⟩ (Nat.le_of_ble_eq_true rfl) (by decide) (fun r123 σ123 h => ?_)
        refine r_dup2 C 127 dX5_findsLoop_126 rfl rfl rfl ?_
        obtain ⟨o127, h⟩ := h
        refine r_iald C 128 dX5_findsLoop_127 rfl kd_221 o127 ?_
        refine r_iconst C 129 (v := 1) dX5_findsLoop_128 rfl (by decide) ?_
        refine r_iadd C 130 dX5_findsLoop_129 rfl ?_
        obtain ⟨o130, h⟩ := h
        refine r_iast C 131 dX5_findsLoop_130 rfl kd_221 o130 ?_
        refine r_nmS (fun σ130 e130 => ?_)
        have h := h σ130 e130
        refine r_aload_n (j := 0) C 132 dX5_findsLoop_131 rfl rfl ?_
        refine r_get (k := 18) C cl7 135 dX5_findsLoop_132 rfl kd_209 (by decide) wd_1230 (.ref 221) (fun _ => rfl) ?_
        refine r_aload_n (j := 0) C 136 dX5_findsLoop_135 rfl rfl ?_
        refine r_iload_n (j := 2) C 137 dX5_findsLoop_136 rfl rfl ?_
        refine r_iconst C 138 (v := 1) dX5_findsLoop_137 rfl (by decide) ?_
        refine r_cVI (as := [.int i2, .int 1]) (S := [.ref 221]) C r.px 141 (ct_X5_of _ _ _ _ _ h) dX5_findsLoop_138 rfl cl7 kd_209 wd_47 wd_1368 rfl wd_1366 wd_1369 wd_95 yd_X5_of ⟨Nat.le_of_ble_eq_true rfl, Nat.le_of_ble_eq_true rfl⟩ (Nat.le_of_ble_eq_true rfl) (by decide) (fun r138 σ138 h => ?_)
        refine r_dup2 C 142 dX5_findsLoop_141 rfl rfl rfl ?_
        obtain ⟨o142, h⟩ := h
        refine r_iald C 143 dX5_findsLoop_142 rfl kd_221 o142 ?_
        refine r_iconst C 144 (v := 1) dX5_findsLoop_143 rfl (by decide) ?_
        refine r_iadd C 145 dX5_findsLoop_144 rfl ?_
        obtain ⟨o145, h⟩ := h
        refine r_iast C 146 dX5_findsLoop_145 rfl kd_221 o145 ?_
        refine r_nmS (fun σ145 e145 => ?_)
        have h := h σ145 e145
        obtain ⟨v146, e146⟩ : ∃ y : Int32, y = i2 + 1 := ⟨_, rfl⟩
        have h := h v146 e146
        refine r_iinc (j := 2) C 149 [(2, .int v146), (0, .ref 209), (1, .int i1)] dX5_findsLoop_146 rfl rfl (by rw [e146]; rfl) (by decide) rfl ?_
        refine r_goto C 77 dX5_findsLoop_149 (by decide) ?_
        exact Ws_pick [1, 2, 0] rfl h
      · have h := h.2 c110
        refine r_goto C 146 dX5_findsLoop_113 (by decide) ?_
        obtain ⟨v146, e146⟩ : ∃ y : Int32, y = i2 + 1 := ⟨_, rfl⟩
        have h := h v146 e146
        refine r_iinc (j := 2) C 149 [(2, .int v146), (0, .ref 209), (1, .int i1)] dX5_findsLoop_146 rfl rfl (by rw [e146]; rfl) (by decide) rfl ?_
        refine r_goto C 77 dX5_findsLoop_149 (by decide) ?_
        exact Ws_pick [1, 2, 0] rfl h
set_option maxRecDepth 4000 in
theorem sg_X5_findsLoop_154 {x : Ctx} {K : Mem → Prop} {X : String → Mem → Prop} (C : Cx x RX5 cX5_findsLoop 9) (r : RtV x 4 0 none K X) (i1 : Int32) (i2 : Int32)  (σ : Mem) (h : (10 ≤ i2 → Ws x 0 48 [(0, .ref 209), (1, .int i1)] [] σ) ∧ (¬ 10 ≤ i2 → (vp_in i2 10) ∧ (((σ.1 222 i2.toNatClampNeg) = 0 → ∀ v191 : Int32, v191 = i2 + 1 → Ws x 0 154 [(0, .ref 209), (1, .int i1), (2, .int v191)] [] σ) ∧ (¬ (σ.1 222 i2.toNatClampNeg) = 0 → (vp_in i2 10) ∧ (((σ.1 221 i2.toNatClampNeg) ≤ 1 → (vp_in i2 10) ∧ (∀ σ188 : Mem, σ188 = wi σ 222 i2.toNatClampNeg 0 → ∀ v191 : Int32, v191 = i2 + 1 → Ws x 0 154 [(0, .ref 209), (1, .int 1), (2, .int v191)] [] σ188)) ∧ (¬ (σ.1 221 i2.toNatClampNeg) ≤ 1 → ∀ v191 : Int32, v191 = i2 + 1 → Ws x 0 154 [(0, .ref 209), (1, .int i1), (2, .int v191)] [] σ)))))) : Ws x 0 154 [(0, .ref 209), (1, .int i1), (2, .int i2)] [] σ := by
  refine r_iload_n (j := 2) C 155 dX5_findsLoop_154 rfl rfl ?_
  refine r_bipush C 157 (v := 10) dX5_findsLoop_155 rfl (by decide) ?_
  refine r_icmp_ge C 197 160 dX5_findsLoop_157 (by decide) rfl (fun c157 => ?_) (fun c157 => ?_)
  · have h := h.1 c157
    refine r_goto C 48 dX5_findsLoop_197 (by decide) ?_
    exact Ws_pick [0, 1] rfl h
  · have h := h.2 c157
    refine r_aload_n (j := 0) C 161 dX5_findsLoop_160 rfl rfl ?_
    refine r_get (k := 19) C cl7 164 dX5_findsLoop_161 rfl kd_209 (by decide) wd_1231 (.ref 222) (fun _ => rfl) ?_
    refine r_iload_n (j := 2) C 165 dX5_findsLoop_164 rfl rfl ?_
    obtain ⟨o165, h⟩ := h
    refine r_zald C 166 dX5_findsLoop_165 rfl kd_222 o165 ?_
    refine r_if_eq C 191 169 dX5_findsLoop_166 (by decide) rfl (fun c166 => ?_) (fun c166 => ?_)
    · have h := h.1 c166
      obtain ⟨v191, e191⟩ : ∃ y : Int32, y = i2 + 1 := ⟨_, rfl⟩
      have h := h v191 e191
      refine r_iinc (j := 2) C 194 [(2, .int v191), (0, .ref 209), (1, .int i1)] dX5_findsLoop_191 rfl rfl (by rw [e191]; rfl) (by decide) rfl ?_
      refine r_goto C 154 dX5_findsLoop_194 (by decide) ?_
      exact Ws_pick [1, 2, 0] rfl h
    · have h := h.2 c166
      refine r_aload_n (j := 0) C 170 dX5_findsLoop_169 rfl rfl ?_
      refine r_get (k := 18) C cl7 173 dX5_findsLoop_170 rfl kd_209 (by decide) wd_1230 (.ref 221) (fun _ => rfl) ?_
      refine r_iload_n (j := 2) C 174 dX5_findsLoop_173 rfl rfl ?_
      obtain ⟨o174, h⟩ := h
      refine r_iald C 175 dX5_findsLoop_174 rfl kd_221 o174 ?_
      refine r_iconst C 176 (v := 1) dX5_findsLoop_175 rfl (by decide) ?_
      refine r_icmp_le C 182 179 dX5_findsLoop_176 (by decide) rfl (fun c176 => ?_) (fun c176 => ?_)
      · have h := h.1 c176
        refine r_aload_n (j := 0) C 183 dX5_findsLoop_182 rfl rfl ?_
        refine r_get (k := 19) C cl7 186 dX5_findsLoop_183 rfl kd_209 (by decide) wd_1231 (.ref 222) (fun _ => rfl) ?_
        refine r_iload_n (j := 2) C 187 dX5_findsLoop_186 rfl rfl ?_
        refine r_iconst C 188 (v := 0) dX5_findsLoop_187 rfl (by decide) ?_
        obtain ⟨o188, h⟩ := h
        refine r_zast C 189 dX5_findsLoop_188 rfl kd_222 o188 (by decide) ?_
        refine r_nmS (fun σ188 e188 => ?_)
        have h := h σ188 e188
        refine r_iconst C 190 (v := 1) dX5_findsLoop_189 rfl (by decide) ?_
        refine r_istore_n C 191 [(1, .int 1), (0, .ref 209), (2, .int i2)] dX5_findsLoop_190 rfl (by decide) rfl ?_
        obtain ⟨v191, e191⟩ : ∃ y : Int32, y = i2 + 1 := ⟨_, rfl⟩
        have h := h v191 e191
        refine r_iinc (j := 2) C 194 [(2, .int v191), (1, .int 1), (0, .ref 209)] dX5_findsLoop_191 rfl rfl (by rw [e191]; rfl) (by decide) rfl ?_
        refine r_goto C 154 dX5_findsLoop_194 (by decide) ?_
        exact Ws_pick [2, 1, 0] rfl h
      · have h := h.2 c176
        refine r_goto C 191 dX5_findsLoop_179 (by decide) ?_
        obtain ⟨v191, e191⟩ : ∃ y : Int32, y = i2 + 1 := ⟨_, rfl⟩
        have h := h v191 e191
        refine r_iinc (j := 2) C 194 [(2, .int v191), (0, .ref 209), (1, .int i1)] dX5_findsLoop_191 rfl rfl (by rw [e191]; rfl) (by decide) rfl ?_
        refine r_goto C 154 dX5_findsLoop_194 (by decide) ?_
        exact Ws_pick [1, 2, 0] rfl h
set_option maxRecDepth 4000 in
theorem sg_X5_findsLoop_209 {x : Ctx} {K : Mem → Prop} {X : String → Mem → Prop} (C : Cx x RX5 cX5_findsLoop 9) (r : RtV x 4 0 none K X) (i2 : Int32) (i3 : Int32)  (σ : Mem) (h : (10 ≤ i3 → (0 ≤ i2 → Ws x 0 261 [(0, .ref 209), (2, .int i2), (3, .int (-1)), (4, .int i2)] [] σ) ∧ (¬ 0 ≤ i2 → K σ)) ∧ (¬ 10 ≤ i3 → (vp_in i3 10) ∧ (((σ.1 222 i3.toNatClampNeg) = 0 → ∀ v245 : Int32, v245 = i3 + 1 → Ws x 0 209 [(0, .ref 209), (2, .int i2), (3, .int v245)] [] σ) ∧ (¬ (σ.1 222 i3.toNatClampNeg) = 0 → (i2 < 0 → ∀ v245 : Int32, v245 = i3 + 1 → Ws x 0 209 [(0, .ref 209), (2, .int i3), (3, .int v245)] [] σ) ∧ (¬ i2 < 0 → (vp_in i3 10) ∧ ((vp_in i2 10) ∧ (((σ.1 219 i2.toNatClampNeg) ≤ (σ.1 219 i3.toNatClampNeg) → ∀ v245 : Int32, v245 = i3 + 1 → Ws x 0 209 [(0, .ref 209), (2, .int i2), (3, .int v245)] [] σ) ∧ (¬ (σ.1 219 i2.toNatClampNeg) ≤ (σ.1 219 i3.toNatClampNeg) → ∀ v245 : Int32, v245 = i3 + 1 → Ws x 0 209 [(0, .ref 209), (2, .int i3), (3, .int v245)] [] σ)))))))) : Ws x 0 209 [(0, .ref 209), (2, .int i2), (3, .int i3)] [] σ := by
  refine r_iload_n (j := 2) C 210 dX5_findsLoop_209 rfl rfl ?_
  refine r_bipush C 212 (v := 10) dX5_findsLoop_210 rfl (by decide) ?_
  refine r_icmp_ge C 251 215 dX5_findsLoop_212 (by decide) rfl (fun c212 => ?_) (fun c212 => ?_)
  · have h := h.1 c212
    refine r_iload_n (j := 1) C 252 dX5_findsLoop_251 rfl rfl ?_
    refine r_if_ge C 256 255 dX5_findsLoop_252 (by decide) rfl (fun c252 => ?_) (fun c252 => ?_)
    · have h := h.1 c252
      refine r_iconst C 257 (v := (-1)) dX5_findsLoop_256 rfl (by decide) ?_
      refine r_istore_n C 258 [(3, .int (-1)), (0, .ref 209), (2, .int i2)] dX5_findsLoop_257 rfl (by decide) rfl ?_
      refine r_iload_n (j := 2) C 259 dX5_findsLoop_258 rfl rfl ?_
      refine r_istore C 261 [(4, .int i2), (3, .int (-1)), (0, .ref 209), (2, .int i2)] dX5_findsLoop_259 rfl (by decide) rfl ?_
      exact Ws_pick [2, 3, 1, 0] rfl h
    · have h := h.2 c252
      exact r_vret (S := []) C r dX5_findsLoop_255 (by decide) h
  · have h := h.2 c212
    refine r_aload_n (j := 0) C 216 dX5_findsLoop_215 rfl rfl ?_
    refine r_get (k := 19) C cl7 219 dX5_findsLoop_216 rfl kd_209 (by decide) wd_1231 (.ref 222) (fun _ => rfl) ?_
    refine r_iload_n (j := 2) C 220 dX5_findsLoop_219 rfl rfl ?_
    obtain ⟨o220, h⟩ := h
    refine r_zald C 221 dX5_findsLoop_220 rfl kd_222 o220 ?_
    refine r_if_eq C 245 224 dX5_findsLoop_221 (by decide) rfl (fun c221 => ?_) (fun c221 => ?_)
    · have h := h.1 c221
      obtain ⟨v245, e245⟩ : ∃ y : Int32, y = i3 + 1 := ⟨_, rfl⟩
      have h := h v245 e245
      refine r_iinc (j := 2) C 248 [(3, .int v245), (0, .ref 209), (2, .int i2)] dX5_findsLoop_245 rfl rfl (by rw [e245]; rfl) (by decide) rfl ?_
      refine r_goto C 209 dX5_findsLoop_248 (by decide) ?_
      exact Ws_pick [1, 2, 0] rfl h
    · have h := h.2 c221
      refine r_iload_n (j := 1) C 225 dX5_findsLoop_224 rfl rfl ?_
      refine r_if_lt C 243 228 dX5_findsLoop_225 (by decide) rfl (fun c225 => ?_) (fun c225 => ?_)
      · have h := h.1 c225
        refine r_iload_n (j := 2) C 244 dX5_findsLoop_243 rfl rfl ?_
        refine r_istore_n C 245 [(2, .int i3), (0, .ref 209), (3, .int i3)] dX5_findsLoop_244 rfl (by decide) rfl ?_
        obtain ⟨v245, e245⟩ : ∃ y : Int32, y = i3 + 1 := ⟨_, rfl⟩
        have h := h v245 e245
        refine r_iinc (j := 2) C 248 [(3, .int v245), (2, .int i3), (0, .ref 209)] dX5_findsLoop_245 rfl rfl (by rw [e245]; rfl) (by decide) rfl ?_
        refine r_goto C 209 dX5_findsLoop_248 (by decide) ?_
        exact Ws_pick [2, 1, 0] rfl h
      · have h := h.2 c225
        refine r_aload_n (j := 0) C 229 dX5_findsLoop_228 rfl rfl ?_
        refine r_get (k := 16) C cl7 232 dX5_findsLoop_229 rfl kd_209 (by decide) wd_1228 (.ref 219) (fun _ => rfl) ?_
        refine r_iload_n (j := 2) C 233 dX5_findsLoop_232 rfl rfl ?_
        obtain ⟨o233, h⟩ := h
        refine r_iald C 234 dX5_findsLoop_233 rfl kd_219 o233 ?_
        refine r_aload_n (j := 0) C 235 dX5_findsLoop_234 rfl rfl ?_
        refine r_get (k := 16) C cl7 238 dX5_findsLoop_235 rfl kd_209 (by decide) wd_1228 (.ref 219) (fun _ => rfl) ?_
        refine r_iload_n (j := 1) C 239 dX5_findsLoop_238 rfl rfl ?_
        obtain ⟨o239, h⟩ := h
        refine r_iald C 240 dX5_findsLoop_239 rfl kd_219 o239 ?_
        refine r_icmp_ge C 245 243 dX5_findsLoop_240 (by decide) rfl (fun c240 => ?_) (fun c240 => ?_)
        · have h := h.1 c240
          obtain ⟨v245, e245⟩ : ∃ y : Int32, y = i3 + 1 := ⟨_, rfl⟩
          have h := h v245 e245
          refine r_iinc (j := 2) C 248 [(3, .int v245), (0, .ref 209), (2, .int i2)] dX5_findsLoop_245 rfl rfl (by rw [e245]; rfl) (by decide) rfl ?_
          refine r_goto C 209 dX5_findsLoop_248 (by decide) ?_
          exact Ws_pick [1, 2, 0] rfl h
        · have h := h.2 c240
          refine r_iload_n (j := 2) C 244 dX5_findsLoop_243 rfl rfl ?_
          refine r_istore_n C 245 [(2, .int i3), (0, .ref 209), (3, .int i3)] dX5_findsLoop_244 rfl (by decide) rfl ?_
          obtain ⟨v245, e245⟩ : ∃ y : Int32, y = i3 + 1 := ⟨_, rfl⟩
          have h := h v245 e245
          refine r_iinc (j := 2) C 248 [(3, .int v245), (2, .int i3), (0, .ref 209)] dX5_findsLoop_245 rfl rfl (by rw [e245]; rfl) (by decide) rfl ?_
          refine r_goto C 209 dX5_findsLoop_248 (by decide) ?_
          exact Ws_pick [2, 1, 0] rfl h
set_option maxRecDepth 4000 in
theorem sg_X5_findsLoop_261 {x : Ctx} {K : Mem → Prop} {X : String → Mem → Prop} (C : Cx x RX5 cX5_findsLoop 9) (r : RtV x 4 0 none K X) (i2 : Int32) (i3 : Int32) (i4 : Int32)  (σ : Mem) (h : ((σ.1 209 22) = 0 → Ws x 0 283 [(0, .ref 209), (2, .int i2), (3, .int i3), (4, .int i4), (5, .int (-1)), (6, .int (-1)), (7, .int 0)] [] σ) ∧ (¬ (σ.1 209 22) = 0 → (i4 = i2 → K σ) ∧ (¬ i4 = i2 → Ws x 0 283 [(0, .ref 209), (2, .int i2), (3, .int i3), (4, .int i4), (5, .int (-1)), (6, .int (-1)), (7, .int 0)] [] σ))) : Ws x 0 261 [(0, .ref 209), (2, .int i2), (3, .int i3), (4, .int i4)] [] σ := by
  refine r_aload_n (j := 0) C 262 dX5_findsLoop_261 rfl rfl ?_
  refine r_get (k := 22) C cl7 265 dX5_findsLoop_262 rfl kd_209 (by decide) wd_1234 (.int (σ.1 209 22)) (fun _ => rfl) ?_
  refine r_if_eq C 274 268 dX5_findsLoop_265 (by decide) rfl (fun c265 => ?_) (fun c265 => ?_)
  · have h := h.1 c265
    refine r_iconst C 275 (v := (-1)) dX5_findsLoop_274 rfl (by decide) ?_
    refine r_istore C 277 [(5, .int (-1)), (0, .ref 209), (2, .int i2), (3, .int i3), (4, .int i4)] dX5_findsLoop_275 rfl (by decide) rfl ?_
    refine r_iconst C 278 (v := (-1)) dX5_findsLoop_277 rfl (by decide) ?_
    refine r_istore C 280 [(6, .int (-1)), (5, .int (-1)), (0, .ref 209), (2, .int i2), (3, .int i3), (4, .int i4)] dX5_findsLoop_278 rfl (by decide) rfl ?_
    refine r_iconst C 281 (v := 0) dX5_findsLoop_280 rfl (by decide) ?_
    refine r_istore C 283 [(7, .int 0), (6, .int (-1)), (5, .int (-1)), (0, .ref 209), (2, .int i2), (3, .int i3), (4, .int i4)] dX5_findsLoop_281 rfl (by decide) rfl ?_
    exact Ws_pick [3, 4, 5, 6, 2, 1, 0] rfl h
  · have h := h.2 c265
    refine r_iload (j := 3) C 270 dX5_findsLoop_268 rfl rfl ?_
    refine r_iload_n (j := 1) C 271 dX5_findsLoop_270 rfl rfl ?_
    refine r_icmp_eq C 391 274 dX5_findsLoop_271 (by decide) rfl (fun c271 => ?_) (fun c271 => ?_)
    · have h := h.1 c271
      exact r_vret (S := []) C r dX5_findsLoop_391 (by decide) h
    · have h := h.2 c271
      refine r_iconst C 275 (v := (-1)) dX5_findsLoop_274 rfl (by decide) ?_
      refine r_istore C 277 [(5, .int (-1)), (0, .ref 209), (2, .int i2), (3, .int i3), (4, .int i4)] dX5_findsLoop_275 rfl (by decide) rfl ?_
      refine r_iconst C 278 (v := (-1)) dX5_findsLoop_277 rfl (by decide) ?_
      refine r_istore C 280 [(6, .int (-1)), (5, .int (-1)), (0, .ref 209), (2, .int i2), (3, .int i3), (4, .int i4)] dX5_findsLoop_278 rfl (by decide) rfl ?_
      refine r_iconst C 281 (v := 0) dX5_findsLoop_280 rfl (by decide) ?_
      refine r_istore C 283 [(7, .int 0), (6, .int (-1)), (5, .int (-1)), (0, .ref 209), (2, .int i2), (3, .int i3), (4, .int i4)] dX5_findsLoop_281 rfl (by decide) rfl ?_
      exact Ws_pick [3, 4, 5, 6, 2, 1, 0] rfl h
set_option maxRecDepth 4000 in
theorem sg_X5_findsLoop_283 {x : Ctx} {K : Mem → Prop} {X : String → Mem → Prop} (C : Cx x RX5 cX5_findsLoop 9) (r : RtV x 4 0 none K X) (i2 : Int32) (i3 : Int32) (i4 : Int32) (i5 : Int32) (i6 : Int32) (i7 : Int32)  (σ : Mem) (h : sp_X5_pipes  σ (fun r286 σ286 => (r286 ≤ i7 → (vp_in (σ286.1 209 22) 10) ∧ (∀ σ362 : Mem, σ362 = wi σ286 223 ((σ286.1 209 22)).toNatClampNeg i4 → ∀ σ375 : Mem, σ375 = wi σ362 209 22 ((σ362.1 209 22) + 1) → (vp_in (σ362.1 209 22) 10) ∧ (∀ σ380 : Mem, σ380 = wi σ375 224 ((σ362.1 209 22)).toNatClampNeg i6 → Ws x 0 261 [(0, .ref 209), (2, .int i2), (3, .int i6), (4, .int i5)] [] σ380))) ∧ (¬ r286 ≤ i7 → sp_X5_across i7 i4 σ286 (fun r297 σ297 => (r297 < 0 → ∀ v346 : Int32, v346 = i7 + 1 → Ws x 0 283 [(0, .ref 209), (2, .int i2), (3, .int i3), (4, .int i4), (5, .int i5), (6, .int i6), (7, .int v346)] [] σ297) ∧ (¬ r297 < 0 → (vp_in r297 10) ∧ (((σ297.1 222 r297.toNatClampNeg) = 0 → ∀ v346 : Int32, v346 = i7 + 1 → Ws x 0 283 [(0, .ref 209), (2, .int i2), (3, .int i3), (4, .int i4), (5, .int i5), (6, .int i6), (7, .int v346)] [] σ297) ∧ (¬ (σ297.1 222 r297.toNatClampNeg) = 0 → (i7 = i3 → ∀ v346 : Int32, v346 = i7 + 1 → Ws x 0 283 [(0, .ref 209), (2, .int i2), (3, .int i3), (4, .int i4), (5, .int i5), (6, .int i6), (7, .int v346)] [] σ297) ∧ (¬ i7 = i3 → (i5 < 0 → ∀ v346 : Int32, v346 = i7 + 1 → Ws x 0 283 [(0, .ref 209), (2, .int i2), (3, .int i3), (4, .int i4), (5, .int r297), (6, .int i7), (7, .int v346)] [] σ297) ∧ (¬ i5 < 0 → (r297 ≤ i5 → ∀ v346 : Int32, v346 = i7 + 1 → Ws x 0 283 [(0, .ref 209), (2, .int i2), (3, .int i3), (4, .int i4), (5, .int r297), (6, .int i7), (7, .int v346)] [] σ297) ∧ (¬ r297 ≤ i5 → ∀ v346 : Int32, v346 = i7 + 1 → Ws x 0 283 [(0, .ref 209), (2, .int i2), (3, .int i3), (4, .int i4), (5, .int i5), (6, .int i6), (7, .int v346)] [] σ297))))))) X)) X) : Ws x 0 283 [(0, .ref 209), (2, .int i2), (3, .int i3), (4, .int i4), (5, .int i5), (6, .int i6), (7, .int i7)] [] σ := by
  refine r_iload (j := 6) C 285 dX5_findsLoop_283 rfl rfl ?_
  refine r_aload_n (j := 0) C 286 dX5_findsLoop_285 rfl rfl ?_
  refine r_cVI (as := []) (S := [.int i7]) C r.px 289 (ct_X5_pipes  _ _ _ h) dX5_findsLoop_286 rfl cl7 kd_209 wd_45 wd_1360 rfl wd_1358 wd_1361 wd_95 yd_X5_pipes ⟨Nat.le_of_ble_eq_true rfl, Nat.le_of_ble_eq_true rfl⟩ (Nat.le_of_ble_eq_true rfl) (by decide) (fun r286 σ286 h => ?_)
  refine r_icmp_ge C 352 292 dX5_findsLoop_289 (by decide) rfl (fun c289 => ?_) (fun c289 => ?_)
  · have h := h.1 c289
    refine r_aload_n (j := 0) C 353 dX5_findsLoop_352 rfl rfl ?_
    refine r_get (k := 20) C cl7 356 dX5_findsLoop_353 rfl kd_209 (by decide) wd_1232 (.ref 223) (fun _ => rfl) ?_
    refine r_aload_n (j := 0) C 357 dX5_findsLoop_356 rfl rfl ?_
    refine r_get (k := 22) C cl7 360 dX5_findsLoop_357 rfl kd_209 (by decide) wd_1234 (.int (σ286.1 209 22)) (fun _ => rfl) ?_
    refine r_iload (j := 3) C 362 dX5_findsLoop_360 rfl rfl ?_
    obtain ⟨o362, h⟩ := h
    refine r_iast C 363 dX5_findsLoop_362 rfl kd_223 o362 ?_
    refine r_nmS (fun σ362 e362 => ?_)
    have h := h σ362 e362
    refine r_aload_n (j := 0) C 364 dX5_findsLoop_363 rfl rfl ?_
    refine r_get (k := 21) C cl7 367 dX5_findsLoop_364 rfl kd_209 (by decide) wd_1233 (.ref 224) (fun _ => rfl) ?_
    refine r_aload_n (j := 0) C 368 dX5_findsLoop_367 rfl rfl ?_
    refine r_dup C 369 dX5_findsLoop_368 rfl rfl ?_
    refine r_get (k := 22) C cl7 372 dX5_findsLoop_369 rfl kd_209 (by decide) wd_1234 (.int (σ362.1 209 22)) (fun _ => rfl) ?_
    refine r_dup_x1 C 373 dX5_findsLoop_372 rfl rfl rfl ?_
    refine r_iconst C 374 (v := 1) dX5_findsLoop_373 rfl (by decide) ?_
    refine r_iadd C 375 dX5_findsLoop_374 rfl ?_
    refine r_putI (k := 22) C cl7 378 dX5_findsLoop_375 rfl kd_209 (by decide) wd_1234 rfl rfl rfl rfl ?_
    refine r_nmS (fun σ375 e375 => ?_)
    have h := h σ375 e375
    refine r_iload (j := 5) C 380 dX5_findsLoop_378 rfl rfl ?_
    obtain ⟨o380, h⟩ := h
    refine r_iast C 381 dX5_findsLoop_380 rfl kd_224 o380 ?_
    refine r_nmS (fun σ380 e380 => ?_)
    have h := h σ380 e380
    refine r_iload (j := 5) C 383 dX5_findsLoop_381 rfl rfl ?_
    refine r_istore_n C 384 [(3, .int i6), (0, .ref 209), (2, .int i2), (4, .int i4), (5, .int i5), (6, .int i6), (7, .int i7)] dX5_findsLoop_383 rfl (by decide) rfl ?_
    refine r_iload (j := 4) C 386 dX5_findsLoop_384 rfl rfl ?_
    refine r_istore C 388 [(4, .int i5), (3, .int i6), (0, .ref 209), (2, .int i2), (5, .int i5), (6, .int i6), (7, .int i7)] dX5_findsLoop_386 rfl (by decide) rfl ?_
    refine r_goto C 261 dX5_findsLoop_388 (by decide) ?_
    exact Ws_pick [2, 3, 1, 0] rfl h
  · have h := h.2 c289
    refine r_aload_n (j := 0) C 293 dX5_findsLoop_292 rfl rfl ?_
    refine r_iload (j := 6) C 295 dX5_findsLoop_293 rfl rfl ?_
    refine r_iload (j := 3) C 297 dX5_findsLoop_295 rfl rfl ?_
    refine r_cVI (as := [.int i7, .int i4]) (S := []) C r.px 300 (ct_X5_across _ _ _ _ _ h) dX5_findsLoop_297 rfl cl7 kd_209 wd_46 wd_1364 rfl wd_1362 wd_1365 wd_95 yd_X5_across ⟨Nat.le_of_ble_eq_true rfl, Nat.le_of_ble_eq_true rfl⟩ (Nat.le_of_ble_eq_true rfl) (by decide) (fun r297 σ297 h => ?_)
    refine r_istore C 302 [(8, .int r297), (0, .ref 209), (2, .int i2), (3, .int i3), (4, .int i4), (5, .int i5), (6, .int i6), (7, .int i7)] dX5_findsLoop_300 rfl (by decide) rfl ?_
    refine r_iload (j := 0) C 304 dX5_findsLoop_302 rfl rfl ?_
    refine r_if_lt C 346 307 dX5_findsLoop_304 (by decide) rfl (fun c304 => ?_) (fun c304 => ?_)
    · have h := h.1 c304
      obtain ⟨v346, e346⟩ : ∃ y : Int32, y = i7 + 1 := ⟨_, rfl⟩
      have h := h v346 e346
      refine r_iinc (j := 7) C 349 [(7, .int v346), (8, .int r297), (0, .ref 209), (2, .int i2), (3, .int i3), (4, .int i4), (5, .int i5), (6, .int i6)] dX5_findsLoop_346 rfl rfl (by rw [e346]; rfl) (by decide) rfl ?_
      refine r_goto C 283 dX5_findsLoop_349 (by decide) ?_
      exact Ws_pick [2, 3, 4, 5, 6, 7, 0] rfl h
    · have h := h.2 c304
      refine r_aload_n (j := 1) C 308 dX5_findsLoop_307 rfl rfl ?_
      refine r_get (k := 19) C cl7 311 dX5_findsLoop_308 rfl kd_209 (by decide) wd_1231 (.ref 222) (fun _ => rfl) ?_
      refine r_iload (j := 0) C 313 dX5_findsLoop_311 rfl rfl ?_
      obtain ⟨o313, h⟩ := h
      refine r_zald C 314 dX5_findsLoop_313 rfl kd_222 o313 ?_
      refine r_if_eq C 346 317 dX5_findsLoop_314 (by decide) rfl (fun c314 => ?_) (fun c314 => ?_)
      · have h := h.1 c314
        obtain ⟨v346, e346⟩ : ∃ y : Int32, y = i7 + 1 := ⟨_, rfl⟩
        have h := h v346 e346
        refine r_iinc (j := 7) C 349 [(7, .int v346), (8, .int r297), (0, .ref 209), (2, .int i2), (3, .int i3), (4, .int i4), (5, .int i5), (6, .int i6)] dX5_findsLoop_346 rfl rfl (by rw [e346]; rfl) (by decide) rfl ?_
        refine r_goto C 283 dX5_findsLoop_349 (by decide) ?_
        exact Ws_pick [2, 3, 4, 5, 6, 7, 0] rfl h
      · have h := h.2 c314
        refine r_iload (j := 7) C 319 dX5_findsLoop_317 rfl rfl ?_
        refine r_iload_n (j := 3) C 320 dX5_findsLoop_319 rfl rfl ?_
        refine r_icmp_eq C 346 323 dX5_findsLoop_320 (by decide) rfl (fun c320 => ?_) (fun c320 => ?_)
        · have h := h.1 c320
          obtain ⟨v346, e346⟩ : ∃ y : Int32, y = i7 + 1 := ⟨_, rfl⟩
          have h := h v346 e346
          refine r_iinc (j := 7) C 349 [(7, .int v346), (8, .int r297), (0, .ref 209), (2, .int i2), (3, .int i3), (4, .int i4), (5, .int i5), (6, .int i6)] dX5_findsLoop_346 rfl rfl (by rw [e346]; rfl) (by decide) rfl ?_
          refine r_goto C 283 dX5_findsLoop_349 (by decide) ?_
          exact Ws_pick [2, 3, 4, 5, 6, 7, 0] rfl h
        · have h := h.2 c320
          refine r_iload (j := 5) C 325 dX5_findsLoop_323 rfl rfl ?_
          refine r_if_lt C 338 328 dX5_findsLoop_325 (by decide) rfl (fun c325 => ?_) (fun c325 => ?_)
          · have h := h.1 c325
            refine r_iload (j := 0) C 340 dX5_findsLoop_338 rfl rfl ?_
            refine r_istore C 342 [(5, .int r297), (8, .int r297), (0, .ref 209), (2, .int i2), (3, .int i3), (4, .int i4), (6, .int i6), (7, .int i7)] dX5_findsLoop_340 rfl (by decide) rfl ?_
            refine r_iload (j := 7) C 344 dX5_findsLoop_342 rfl rfl ?_
            refine r_istore C 346 [(6, .int i7), (5, .int r297), (8, .int r297), (0, .ref 209), (2, .int i2), (3, .int i3), (4, .int i4), (7, .int i7)] dX5_findsLoop_344 rfl (by decide) rfl ?_
            obtain ⟨v346, e346⟩ : ∃ y : Int32, y = i7 + 1 := ⟨_, rfl⟩
            have h := h v346 e346
            refine r_iinc (j := 7) C 349 [(7, .int v346), (6, .int i7), (5, .int r297), (8, .int r297), (0, .ref 209), (2, .int i2), (3, .int i3), (4, .int i4)] dX5_findsLoop_346 rfl rfl (by rw [e346]; rfl) (by decide) rfl ?_
            refine r_goto C 283 dX5_findsLoop_349 (by decide) ?_
            exact Ws_pick [4, 5, 6, 7, 2, 1, 0] rfl h
          · have h := h.2 c325
            refine r_iload (j := 0) C 330 dX5_findsLoop_328 rfl rfl ?_
            refine r_iload (j := 5) C 332 dX5_findsLoop_330 rfl rfl ?_
            refine r_icmp_le C 338 335 dX5_findsLoop_332 (by decide) rfl (fun c332 => ?_) (fun c332 => ?_)
            · have h := h.1 c332
              refine r_iload (j := 0) C 340 dX5_findsLoop_338 rfl rfl ?_
              refine r_istore C 342 [(5, .int r297), (8, .int r297), (0, .ref 209), (2, .int i2), (3, .int i3), (4, .int i4), (6, .int i6), (7, .int i7)] dX5_findsLoop_340 rfl (by decide) rfl ?_
              refine r_iload (j := 7) C 344 dX5_findsLoop_342 rfl rfl ?_
              refine r_istore C 346 [(6, .int i7), (5, .int r297), (8, .int r297), (0, .ref 209), (2, .int i2), (3, .int i3), (4, .int i4), (7, .int i7)] dX5_findsLoop_344 rfl (by decide) rfl ?_
              obtain ⟨v346, e346⟩ : ∃ y : Int32, y = i7 + 1 := ⟨_, rfl⟩
              have h := h v346 e346
              refine r_iinc (j := 7) C 349 [(7, .int v346), (6, .int i7), (5, .int r297), (8, .int r297), (0, .ref 209), (2, .int i2), (3, .int i3), (4, .int i4)] dX5_findsLoop_346 rfl rfl (by rw [e346]; rfl) (by decide) rfl ?_
              refine r_goto C 283 dX5_findsLoop_349 (by decide) ?_
              exact Ws_pick [4, 5, 6, 7, 2, 1, 0] rfl h
            · have h := h.2 c332
              refine r_goto C 346 dX5_findsLoop_335 (by decide) ?_
              obtain ⟨v346, e346⟩ : ∃ y : Int32, y = i7 + 1 := ⟨_, rfl⟩
              have h := h v346 e346
              refine r_iinc (j := 7) C 349 [(7, .int v346), (8, .int r297), (0, .ref 209), (2, .int i2), (3, .int i3), (4, .int i4), (5, .int i5), (6, .int i6)] dX5_findsLoop_346 rfl rfl (by rw [e346]; rfl) (by decide) rfl ?_
              refine r_goto C 283 dX5_findsLoop_349 (by decide) ?_
              exact Ws_pick [2, 3, 4, 5, 6, 7, 0] rfl h
/-- degrees, as they are counted -/
def dgB (g : Gr) (S : Nat → Bool) (n q : Nat) : Bool := match ac g q n with
  | some e => S n && S e
  | none => false
theorem dgB_true {g : Gr} {S : Nat → Bool} {n q : Nat} (h : dgB g S n q = true) : ∃ e, ac g q n = some e ∧ S n = true ∧ S e = true := by
  unfold dgB at h
  cases e : ac g q n with
  | none => rw [e] at h; cases h
  | some y => rw [e] at h; exact ⟨y, rfl, by simpa using h⟩
theorem dgB_of {g : Gr} {S : Nat → Bool} {n q e : Nat} (h : ac g q n = some e) (h1 : S n = true) (h2 : S e = true) : dgB g S n q = true := by
  unfold dgB; rw [h]; simp [h1, h2]
theorem vc_X5_findsLoop {x : Ctx} {K : Mem → Prop} {X : String → Mem → Prop} (C : Cx x RX5 cX5_findsLoop 9) (r : RtV x 4 0 none K X) (σ : Mem) (h : sp_X5_findsLoop σ K X) : Ws x 0 0 [(0, .ref 209)] [] σ := by
  obtain ⟨g, c, hg, hG, hL, hK⟩ := h
  have hP := hg.1
  have hT := bfs_tre hg (by decide : 0 < 10)
  refine sg_X5_findsLoop_0 C r σ ⟨g, 0, hg, by decide, rfl, hG, fun σ2 u1 u2 u3 => ?_⟩
  have hC2 : ChM σ σ2 := ⟨fun a k q => ⟨u1 a k (by omega) (by omega), by rw [u2]⟩, fun k _ _ => u1 209 k (by decide) (by decide), fun k _ => by rw [u2], by rw [u2]⟩
  have hF2 : FarM (bfs g 0) σ2 := u3
  generalize bfs g 0 = L at hL hK hT hF2
  have hle := hL.1.le hT
  have n10 : ∀ i, i < c.1 → c.2.1 i < 10 := fun i hi => hT.lt (hL.1.2.2.2.1 i hi)
  have pP : ∀ i, i < c.1 → c.2.2 i < g.1 := fun i hi => (hL.1.2.1 i hi).1
  have inN10 : ∀ n, inN c n → n < 10 ∧ n ∈ nds L := fun n ⟨i, hi, e⟩ => by rw [← e]; exact ⟨n10 i hi, hL.1.2.2.2.1 i hi⟩
  have far : ∀ τ : Mem, FarM L τ → ∀ n, n ∈ nds L → τ.1 219 n = nI (di L n) := fun τ hF n hn => by
    rw [hF n (hT.lt hn), dOf_in hT hn]; rfl
  -- the walk round
  have H261 : ∀ (k : Nat) (τ : Mem), k ≤ c.1 → (0 < c.1 ∧ ChM σ τ ∧ FarM L τ ∧ (∀ n, n < 10 → (τ.1 222 n ≠ 0 ↔ inN c n)) ∧ τ.1 209 22 = nI k ∧ (∀ i, i < k → τ.1 223 i = nI (c.2.1 i) ∧ τ.1 224 i = nI (c.2.2 i))) → Ws x 0 261 [(0, .ref 209), (2, .int (nI (c.2.1 0))), (3, .int (if k = 0 then -1 else nI (c.2.2 (k - 1)))), (4, .int (nI (c.2.1 (if k = c.1 then 0 else k))))] [] τ := by
    refine cnt c.1 (fun k τ => 0 < c.1 ∧ ChM σ τ ∧ FarM L τ ∧ (∀ n, n < 10 → (τ.1 222 n ≠ 0 ↔ inN c n)) ∧ τ.1 209 22 = nI k ∧ (∀ i, i < k → τ.1 223 i = nI (c.2.1 i) ∧ τ.1 224 i = nI (c.2.2 i))) (fun k τ => Ws x 0 261 [(0, .ref 209), (2, .int (nI (c.2.1 0))), (3, .int (if k = 0 then -1 else nI (c.2.2 (k - 1)))), (4, .int (nI (c.2.1 (if k = c.1 then 0 else k))))] [] τ) ?_ ?_
    · rintro τ ⟨i0, i1, i2, i3, i4, i5⟩
      rw [if_pos rfl]
      refine sg_X5_findsLoop_261 C r _ _ _ τ ?_
      rw [i4]
      refine ⟨fun q => ?_, fun _ => ⟨fun _ => hK τ i1 i2 ⟨i4, i5⟩, fun q => absurd rfl q⟩⟩
      exact absurd ((nI_eq (b := 0) (by omega) (by decide)).mp q) (by omega)
    · rintro k τ hk ⟨i0, i1, i2, i3, i4, i5⟩ ih
      have h3 : 3 ≤ c.1 := by rcases hL.1.2.2.1 with q | q <;> omega
      have hor : c.2.1 1 < c.2.1 (c.1 - 1) := by rcases hL.2 with q | q <;> omega
      have ck := n10 k hk
      obtain ⟨b1, b2⟩ := hL.1.2.1 k hk
      have en10 := n10 _ (nxt_lt hk)
      rw [if_neg (by omega : ¬ k = c.1)]
      have hG' := hG.ch i1
      have H283 : ∀ (p : Nat) (s : Int32 × Int32), p ≤ g.1 → ((c.2.2 k < p → s = (nI (c.2.1 (nxt c k)), nI (c.2.2 k))) ∧ (p ≤ c.2.2 k → s.1 = -1 ∨ ∃ f, f < 10 ∧ s.1 = nI f ∧ c.2.1 (nxt c k) < f)) → Ws x 0 283 [(0, .ref 209), (2, .int (nI (c.2.1 0))), (3, .int (if k = 0 then -1 else nI (c.2.2 (k - 1)))), (4, .int (nI (c.2.1 k))), (5, .int s.1), (6, .int s.2), (7, .int (nI p))] [] τ := by
        refine cnt g.1 (fun p s => (c.2.2 k < p → s = (nI (c.2.1 (nxt c k)), nI (c.2.2 k))) ∧ (p ≤ c.2.2 k → s.1 = -1 ∨ ∃ f, f < 10 ∧ s.1 = nI f ∧ c.2.1 (nxt c k) < f)) (fun p s => Ws x 0 283 [(0, .ref 209), (2, .int (nI (c.2.1 0))), (3, .int (if k = 0 then -1 else nI (c.2.2 (k - 1)))), (4, .int (nI (c.2.1 k))), (5, .int s.1), (6, .int s.2), (7, .int (nI p))] [] τ) ?_ ?_
        · rintro s ⟨s1, -⟩
          rw [s1 b1]
          refine sg_X5_findsLoop_283 C r _ _ _ _ _ _ τ ?_
          show (τ.1 210 7 ≤ nI g.1 → _) ∧ (¬ τ.1 210 7 ≤ nI g.1 → _)
          rw [hG'.1]
          refine ⟨fun _ => ?_, fun q => absurd (nI_le (Nat.le_refl g.1) (by omega)) q⟩
          rw [i4, n_cl (by omega)]
          refine ⟨n_inR (by omega) (by decide), fun σ362 e362 σ375 e375 => ?_⟩
          have x1 : σ362.1 209 22 = nI k := by rw [e362, wi_i, if_neg (fun q => absurd q.1 (by decide))]; exact i4
          rw [x1, n_cl (by omega)]
          rw [x1, nI_1] at e375
          refine ⟨n_inR (by omega) (by decide), fun σ380 e380 => ?_⟩
          have := ih σ380 ⟨i0, by rw [e380, e375, e362]; exact ((i1.swi (by decide) (by decide)).w22).swi (by decide) (by decide), fun j hj => ?_, fun n hn => ?_, ?_, fun i hi => ?_⟩
          · rw [if_neg (by omega : ¬ k + 1 = 0), Nat.add_sub_cancel] at this
            exact this
          · rw [e380, e375, e362, wi_i, if_neg (fun q => absurd q.1 (by decide)), wi_i, if_neg (fun q => absurd q.1 (by decide)), wi_i, if_neg (fun q => absurd q.1 (by decide))]; exact i2 j hj
          · rw [e380, e375, e362, wi_i, if_neg (fun q => absurd q.1 (by decide)), wi_i, if_neg (fun q => absurd q.1 (by decide)), wi_i, if_neg (fun q => absurd q.1 (by decide))]; exact i3 n hn
          · rw [e380, e375, wi_i, if_neg (fun q => absurd q.1 (by decide)), wi_i, if_pos ⟨rfl, rfl⟩]
          · have y1 : σ380.1 223 i = if i = k then nI (c.2.1 k) else τ.1 223 i := by
              rw [e380, e375, e362, wi_i, if_neg (fun q => absurd q.1 (by decide)), wi_i, if_neg (fun q => absurd q.1 (by decide)), wi_i]
              by_cases d : i = k
              · rw [if_pos ⟨rfl, d⟩, if_pos d]
              · rw [if_neg (fun q => d q.2), if_neg d]
            have y2 : σ380.1 224 i = if i = k then nI (c.2.2 k) else τ.1 224 i := by
              rw [e380, e375, e362, wi_i]
              by_cases d : i = k
              · rw [if_pos ⟨rfl, d⟩, if_pos d]
              · rw [if_neg (fun q => d q.2), if_neg d, wi_i, if_neg (fun q => absurd q.1 (by decide)), wi_i, if_neg (fun q => absurd q.1 (by decide))]
            rw [y1, y2]
            by_cases d : i = k
            · rw [if_pos d, if_pos d, d]; exact ⟨rfl, rfl⟩
            · rw [if_neg d, if_neg d]; exact i5 i (by omega)
        · rintro p s hp ⟨s1, s2⟩ ihp
          refine sg_X5_findsLoop_283 C r _ _ _ _ _ _ τ ?_
          show (τ.1 210 7 ≤ nI p → _) ∧ (¬ τ.1 210 7 ≤ nI p → _)
          rw [hG'.1]
          refine ⟨fun q => absurd (n_le (by omega) (by omega) q) (by omega), fun _ => i_X5_across (by omega) ?_⟩
          rw [acr_ac hg hG' hp ck]
          have skip : p ≠ c.2.2 k → ∀ v346 : Int32, v346 = nI p + 1 → Ws x 0 283 [(0, .ref 209), (2, .int (nI (c.2.1 0))), (3, .int (if k = 0 then -1 else nI (c.2.2 (k - 1)))), (4, .int (nI (c.2.1 k))), (5, .int s.1), (6, .int s.2), (7, .int v346)] [] τ := fun hne v ev => by
            rw [ev, nI_1]
            exact ihp s ⟨fun q => s1 (by omega), fun q => s2 (by omega)⟩
          cases ea : ac g p (c.2.1 k) with
          | none => exact ⟨fun _ => skip (fun q => by rw [q, b2] at ea; cases ea), fun q => absurd (by decide) q⟩
          | some e' =>
            have he' := (ac_lt hg hp ea).1
            refine ⟨fun q => absurd q (nI_pos (n := e') (by omega)), fun _ => ⟨n_inR he' (by decide), ?_⟩⟩
            show (τ.1 222 (nI e').toNatClampNeg = 0 → _) ∧ (¬ τ.1 222 (nI e').toNatClampNeg = 0 → _)
            rw [n_cl (n := e') (by omega)]
            refine ⟨fun q => skip (fun w => ?_), fun q => ?_⟩
            · rw [w, b2] at ea
              cases ea
              exact (i3 _ en10).mpr ⟨_, nxt_lt hk, rfl⟩ q
            · have hin : inN c e' := (i3 e' he').mp q
              have hq := hL.1.chord hg hT hp ea ⟨k, hk, rfl⟩ hin
              have hat := hL.1.at hk ea hq
              refine ⟨fun w => skip (fun z => ?_), fun w => ?_⟩
              · rw [z] at w
                by_cases k0 : k = 0
                · rw [if_pos k0] at w
                  have h0 := nI_pos (n := c.2.2 k) (by omega)
                  rw [w] at h0
                  exact h0 (by decide)
                · rw [if_neg k0] at w
                  have := pP (k - 1) (by omega)
                  have := hL.1.pinj hk (by omega) (nI_eqP (by omega) (by omega) w)
                  omega
              · have hcase : (p = c.2.2 k ∧ e' = c.2.1 (nxt c k)) ∨ (p ≠ c.2.2 k ∧ c.2.1 (nxt c k) < e') := by
                  rcases hat with z | ⟨z1, z2⟩
                  · exact .inl z
                  · right
                    by_cases k0 : k = 0
                    · have y1 : prv c k = c.1 - 1 := by unfold prv; rw [if_pos k0]
                      have y2 : nxt c k = 1 := by unfold nxt; rw [if_neg (by omega), k0]
                      rw [z2, y1, y2]
                      refine ⟨fun z => ?_, hor⟩
                      rw [z1, y1] at z
                      have := hL.1.pinj (by omega) hk z
                      omega
                    · have y1 : prv c k = k - 1 := by unfold prv; rw [if_neg k0]
                      rw [if_neg k0, z1, y1] at w
                      exact absurd rfl w
                have take : ∀ v346 : Int32, v346 = nI p + 1 → (p = c.2.2 k ∧ e' = c.2.1 (nxt c k)) ∨ (p < c.2.2 k ∧ c.2.1 (nxt c k) < e') → Ws x 0 283 [(0, .ref 209), (2, .int (nI (c.2.1 0))), (3, .int (if k = 0 then -1 else nI (c.2.2 (k - 1)))), (4, .int (nI (c.2.1 k))), (5, .int (nI e')), (6, .int (nI p)), (7, .int v346)] [] τ := fun v ev z => by
                  rw [ev, nI_1]
                  rcases z with ⟨z1, z2⟩ | ⟨z1, z2⟩
                  · exact ihp (nI e', nI p) ⟨fun _ => by rw [z1, z2], fun q => absurd q (by omega)⟩
                  · exact ihp (nI e', nI p) ⟨fun q => absurd q (by omega), fun _ => .inr ⟨e', he', rfl, z2⟩⟩
                refine ⟨fun y v ev => take v ev ?_, fun y => ⟨fun y2 v ev => take v ev ?_, fun y2 => skip (fun z => ?_)⟩⟩
                · rcases hcase with z | ⟨z1, z2⟩
                  · exact .inl z
                  · right
                    refine ⟨?_, z2⟩
                    apply Classical.byContradiction
                    intro z3
                    rw [s1 (by omega)] at y
                    exact absurd y (nI_pos (by omega))
                · rcases hcase with z | ⟨z1, z2⟩
                  · exact .inl z
                  · right
                    refine ⟨?_, z2⟩
                    apply Classical.byContradiction
                    intro z3
                    rw [s1 (by omega)] at y2
                    have := n_le (by omega) (by omega) y2
                    omega
                · rcases hcase with ⟨-, z2⟩ | ⟨z1, -⟩
                  · rcases s2 (by omega) with w1 | ⟨f, f1, f2, f3⟩
                    · rw [w1] at y; exact y (by decide)
                    · rw [f2, z2] at y2
                      exact y2 (nI_le (by omega) (by omega))
                  · exact z1 z
      have start := H283 0 (-1, -1) (Nat.zero_le _) ⟨fun q => absurd q (Nat.not_lt_zero _), fun _ => .inl rfl⟩
      refine sg_X5_findsLoop_261 C r _ _ _ τ ⟨fun _ => start, fun q => ⟨fun w => ?_, fun _ => start⟩⟩
      have := hL.1.1 _ _ hk i0 (nI_eqP ck (n10 0 i0) w)
      subst this
      exact absurd i4 q
  -- where the loop begins
  have H209 : ∀ (τ : Mem), ChM σ τ → FarM L τ → (∀ n, n < 10 → (τ.1 222 n ≠ 0 ↔ inN c n)) → τ.1 209 22 = 0 → Ws x 0 209 [(0, .ref 209), (2, .int (-1)), (3, .int 0)] [] τ := by
    intro τ i1 i2 i3 i4
    refine cnt 10 (fun k (v : Int32) => (0 < c.1 → c.2.1 0 < k → v = nI (c.2.1 0)) ∧ ((0 < c.1 → ¬ c.2.1 0 < k) → v = -1 ∨ ∃ b, b < 10 ∧ inT c b ∧ v = nI b)) (fun k v => Ws x 0 209 [(0, .ref 209), (2, .int v), (3, .int (nI k))] [] τ) ?_ ?_ 0 (-1) (Nat.zero_le _) ⟨fun _ q => absurd q (Nat.not_lt_zero _), fun _ => .inl rfl⟩
    · rintro v ⟨v1, v2⟩
      refine sg_X5_findsLoop_209 C r _ _ τ ⟨fun _ => ?_, fun q => (lit_lt (by decide) (Nat.le_refl 10) (by decide) q).elim⟩
      by_cases c0 : 0 < c.1
      · rw [v1 c0 (n10 0 c0)]
        refine ⟨fun _ => ?_, fun q => absurd (nI_pos' (by have := n10 0 c0; omega)) q⟩
        have := H261 0 τ (Nat.zero_le _) ⟨c0, i1, i2, i3, by rw [i4]; rfl, fun i hi => absurd hi (Nat.not_lt_zero i)⟩
        rw [if_pos rfl, if_neg (by omega)] at this
        exact this
      · rcases v2 (fun q => absurd q c0) with q | ⟨b, -, ⟨i, -, i2, -⟩, -⟩
        · rw [q]
          exact ⟨fun q => absurd q (by decide), fun _ => hK τ i1 i2 ⟨by rw [i4, show c.1 = 0 by omega]; rfl, fun i hi => absurd hi (by omega)⟩⟩
        · omega
    · rintro k v hk ⟨v1, v2⟩ ih
      have stay : ((0 < c.1 → k ≠ c.2.1 0) ∨ v = nI (c.2.1 0)) → ∀ v245 : Int32, v245 = nI k + 1 → Ws x 0 209 [(0, .ref 209), (2, .int v), (3, .int v245)] [] τ := fun hne v245 e => by
        rw [e, nI_1]
        refine ih v ⟨fun q q2 => ?_, fun q => v2 (fun w w2 => q w (by omega))⟩
        rcases hne with z | z
        · exact v1 q (by have := z q; omega)
        · exact z
      refine sg_X5_findsLoop_209 C r _ _ τ ⟨fun q => (lit_ge (by decide) hk q).elim, fun _ => ⟨n_inR hk (by decide), ?_⟩⟩
      rw [n_cl (n := k) (by omega)]
      refine ⟨fun q => stay (.inl (fun c0 z => (i3 k hk).mpr ⟨0, c0, z.symm⟩ q)), fun q => ?_⟩
      have hin : inN c k := (i3 k hk).mp q
      have c0 : 0 < c.1 := by obtain ⟨i, hi, -⟩ := hin; omega
      have d0 : k ≠ c.2.1 0 → inT c k ∧ di L (c.2.1 0) < di L k := fun hne => by
        obtain ⟨i, hi, e⟩ := hin
        have i0 : 0 < i := by
          apply Nat.pos_of_ne_zero
          intro z; rw [z] at e; exact hne e.symm
        exact ⟨⟨i, i0, hi, e⟩, by rw [← e]; exact hL.1.2.2.2.2.1 i i0 hi⟩
      have put : (k ≠ c.2.1 0 → ¬ c.2.1 0 < k) → ∀ v245 : Int32, v245 = nI k + 1 → Ws x 0 209 [(0, .ref 209), (2, .int (nI k)), (3, .int v245)] [] τ := fun hz v245 e => by
        rw [e, nI_1]
        refine ih (nI k) ⟨fun _ q2 => ?_, fun q2 => .inr ⟨k, hk, (d0 (fun z => q2 c0 (by omega))).1, rfl⟩⟩
        by_cases z : k = c.2.1 0
        · rw [z]
        · exact absurd (by omega) (hz z)
      refine ⟨fun w => put (fun z z2 => ?_), fun w => ?_⟩
      · rw [v1 c0 z2] at w
        exact absurd w (nI_pos (by have := n10 0 c0; omega))
      · have hv : ∃ b, b < 10 ∧ v = nI b ∧ inN c b ∧ ((c.2.1 0 < k ∧ b = c.2.1 0) ∨ (¬ c.2.1 0 < k ∧ inT c b)) := by
          by_cases z : c.2.1 0 < k
          · exact ⟨_, n10 0 c0, v1 c0 z, ⟨0, c0, rfl⟩, .inl ⟨z, rfl⟩⟩
          · rcases v2 (fun _ => z) with y | ⟨b, b1, b2, b3⟩
            · rw [y] at w; exact absurd (by decide) w
            · obtain ⟨i, i0, j1, j2⟩ := b2
              exact ⟨b, b1, b3, ⟨i, j1, j2⟩, .inr ⟨z, ⟨i, i0, j1, j2⟩⟩⟩
        obtain ⟨b, b1, b2, b3, b4⟩ := hv
        have bn := (inN10 b b3).2
        have kn := (inN10 k hin).2
        rw [b2, n_cl (n := b) (by omega), far τ i2 b bn, far τ i2 k kn]
        have db := hT.d10 bn
        have dk := hT.d10 kn
        refine ⟨n_inR hk (by decide), n_inR b1 (by decide), fun z => ?_, fun z => ?_⟩
        · have z := n_le (by omega) (by omega) z
          have := stay (by
            rcases b4 with ⟨y1, y2⟩ | ⟨y1, ⟨i, i0, j1, j2⟩⟩
            · right; rw [b2, y2]
            · left
              intro _ y
              have := hL.1.2.2.2.2.1 i i0 j1
              rw [j2, ← y] at this
              omega)
          rw [b2] at this
          exact this
        · have z := n_nle (by omega) (by omega) z
          refine put (fun y y2 => ?_)
          rcases b4 with ⟨-, y3⟩ | ⟨y1, -⟩
          · have := (d0 y).2
            rw [y3] at z
            omega
          · exact y1 y2
  -- peeling
  have H48 : ∀ (N : Nat) (τ : Mem), ctB (fun n => decide (τ.1 222 n ≠ 0)) 10 = N → ChM σ τ → FarM L τ → (∀ n, n < 10 → τ.1 222 n ≠ 0 → n ∈ nds L) → (∀ n, inN c n → τ.1 222 n ≠ 0) → Ws x 0 48 [(0, .ref 209), (1, .int 1)] [] τ := by
    intro N
    induction N using Nat.strongRecOn with
    | ind N ihN =>
      intro τ hz i1 i2 i3 i4
      generalize hS : (fun n => decide (τ.1 222 n ≠ 0)) = S at hz
      have hS' : ∀ n, S n = true ↔ τ.1 222 n ≠ 0 := fun n => by rw [← hS]; exact decide_eq_true_iff
      have deg2 : ∀ n, inN c n → 2 ≤ ctB (dgB g S n) g.1 := fun n hn => by
        obtain ⟨p, q, e, f, h1, h2, h3, h4, h5, h6, h7⟩ := hL.1.two hn
        have sn := (hS' n).mpr (i4 n hn)
        exact ctB_ge2 h1 h2 h3 (dgB_of h4 sn ((hS' e).mpr (i4 e h6))) (dgB_of h5 sn ((hS' f).mpr (i4 f h7)))
      have H154 : ∀ (k : Nat) (s : Mem × Int32), k ≤ 10 → (ChM σ s.1 ∧ FarM L s.1 ∧ (∀ n, n < 10 → s.1.1 222 n ≠ 0 → S n = true) ∧ (∀ n, inN c n → s.1.1 222 n ≠ 0) ∧ (∀ n, n < 10 → s.1.1 221 n = nI (ctB (dgB g S n) g.1)) ∧ (∀ n, n < 10 → k ≤ n → S n = true → s.1.1 222 n ≠ 0) ∧ ((s.2 = 0 ∧ (∀ n, n < 10 → S n = true → s.1.1 222 n ≠ 0) ∧ ∀ n, n < k → S n = true → 2 ≤ ctB (dgB g S n) g.1) ∨ (s.2 = 1 ∧ ∃ n, n < 10 ∧ S n = true ∧ s.1.1 222 n = 0))) → Ws x 0 154 [(0, .ref 209), (1, .int s.2), (2, .int (nI k))] [] s.1 := by
        refine cnt 10 (fun (k : Nat) (s : Mem × Int32) => ChM σ s.1 ∧ FarM L s.1 ∧ (∀ n, n < 10 → s.1.1 222 n ≠ 0 → S n = true) ∧ (∀ n, inN c n → s.1.1 222 n ≠ 0) ∧ (∀ n, n < 10 → s.1.1 221 n = nI (ctB (dgB g S n) g.1)) ∧ (∀ n, n < 10 → k ≤ n → S n = true → s.1.1 222 n ≠ 0) ∧ ((s.2 = 0 ∧ (∀ n, n < 10 → S n = true → s.1.1 222 n ≠ 0) ∧ ∀ n, n < k → S n = true → 2 ≤ ctB (dgB g S n) g.1) ∨ (s.2 = 1 ∧ ∃ n, n < 10 ∧ S n = true ∧ s.1.1 222 n = 0))) (fun k s => Ws x 0 154 [(0, .ref 209), (1, .int s.2), (2, .int (nI k))] [] s.1) ?_ ?_
        · rintro ⟨υ, v⟩ ⟨j1, j2, j3, j4, j5, j6, j7⟩
          refine sg_X5_findsLoop_154 C r _ _ υ ⟨fun _ => ?_, fun q => (lit_lt (by decide) (Nat.le_refl 10) (by decide) q).elim⟩
          rcases j7 with ⟨v0, y1, y2⟩ | ⟨v1, n, n1, n2, n3⟩
          · have v0 : v = 0 := v0
            rw [v0]
            refine sg_X5_findsLoop_48 C r _ υ ⟨fun _ σ202 e202 => ?_, fun q => absurd rfl q⟩
            have e22 : ∀ n, σ202.1 222 n = υ.1 222 n := fun n => by rw [e202, wi_i, if_neg (fun q => absurd q.1 (by decide))]
            refine H209 σ202 (by rw [e202]; exact j1.w22) (fun j hj => by rw [e202, wi_i, if_neg (fun q => absurd q.1 (by decide))]; exact j2 j hj) (fun n hn => ?_) (by rw [e202, wi_i, if_pos ⟨rfl, rfl⟩])
            rw [e22]
            refine ⟨fun q => ?_, fun q => j4 n q⟩
            refine hL.1.peel hg hT (fun n => n < 10 ∧ S n = true) (fun m ⟨m1, m2⟩ => i3 m m1 ((hS' m).mp m2)) (fun m ⟨m1, m2⟩ => ?_) n ⟨hn, j3 n hn q⟩
            obtain ⟨p, q, h1, h2, h3, h4, h5⟩ := ctB_two (y2 m m1 m2)
            obtain ⟨e, e1, -, e3⟩ := dgB_true h4
            obtain ⟨f, f1, -, f3⟩ := dgB_true h5
            exact ⟨p, q, e, f, h1, h2, h3, e1, f1, ⟨(ac_lt hg h2 e1).1, e3⟩, ⟨(ac_lt hg h3 f1).1, f3⟩⟩
          · have v1 : v = 1 := v1
            rw [v1]
            refine ihN (ctB (fun n => decide (υ.1 222 n ≠ 0)) 10) ?_ υ rfl j1 j2 (fun m m1 m2 => i3 m m1 ((hS' m).mp (j3 m m1 m2))) j4
            rw [← hz]
            refine ctB_lt (fun m m1 m2 => j3 m m1 (decide_eq_true_iff.mp m2)) ⟨n, n1, n2, fun w => (decide_eq_true_iff.mp w) n3⟩
        · rintro k ⟨υ, v⟩ hk ⟨j1, j2, j3, j4, j5, j6, j7⟩ ih
          refine sg_X5_findsLoop_154 C r _ _ υ ⟨fun q => (lit_ge (by decide) hk q).elim, fun _ => ⟨n_inR hk (by decide), ?_⟩⟩
          have j5k := j5 k hk
          have j5k : υ.1 221 k = nI (ctB (dgB g S k) g.1) := j5k
          rw [n_cl (n := k) (by omega), j5k]
          have dle := ctB_le (dgB g S k) g.1
          refine ⟨fun q v191 e => ?_, fun q => ⟨n_inR hk (by decide), fun w => ⟨n_inR hk (by decide), fun σ188 e188 v191 e => ?_⟩, fun w v191 e => ?_⟩⟩
          · rw [e, nI_1]
            refine ih (υ, v) ⟨j1, j2, j3, j4, j5, fun n n1 n2 => j6 n n1 (by omega), ?_⟩
            rcases j7 with ⟨v0, y1, y2⟩ | y
            · refine .inl ⟨v0, y1, fun n n1 n2 => ?_⟩
              by_cases d : n = k
              · rw [d] at n2; exact absurd q (j6 k hk (Nat.le_refl k) n2)
              · exact y2 n (by omega) n2
            · exact .inr y
          · have w : ctB (dgB g S k) g.1 ≤ 1 := n_le (b := 1) (by omega) (by decide) w
            rw [e, nI_1]
            have e22 : ∀ n, σ188.1 222 n = if n = k then 0 else υ.1 222 n := fun n => by
              rw [e188, wi_i]
              by_cases d : n = k
              · rw [if_pos ⟨rfl, d⟩, if_pos d]
              · rw [if_neg (fun q => d q.2), if_neg d]
            have sk : S k = true := j3 k hk q
            refine ih (σ188, 1) ⟨by show ChM σ σ188; rw [e188]; exact j1.swi (by decide) (by decide), fun j hj => ?_, fun n n1 n2 => ?_, fun n n1 => ?_, fun n n1 => ?_, fun n n1 n2 n3 => ?_, .inr ⟨rfl, k, hk, sk, ?_⟩⟩
            · show σ188.1 219 j = _
              rw [e188, wi_i, if_neg (fun q => absurd q.1 (by decide))]; exact j2 j hj
            · have n2 : σ188.1 222 n ≠ 0 := n2
              rw [e22] at n2
              by_cases d : n = k
              · rw [d]; exact sk
              · rw [if_neg d] at n2; exact j3 n n1 n2
            · show σ188.1 222 n ≠ 0
              rw [e22]
              by_cases d : n = k
              · rw [d] at n1
                have := deg2 k n1
                omega
              · rw [if_neg d]; exact j4 n n1
            · show σ188.1 221 n = _
              rw [e188, wi_i, if_neg (fun q => absurd q.1 (by decide))]; exact j5 n n1
            · show σ188.1 222 n ≠ 0
              rw [e22, if_neg (by omega)]; exact j6 n n1 (by omega) n3
            · show σ188.1 222 k = 0
              rw [e22, if_pos rfl]
          · have w : 2 ≤ ctB (dgB g S k) g.1 := n_nle (b := 1) (by omega) (by decide) w
            rw [e, nI_1]
            refine ih (υ, v) ⟨j1, j2, j3, j4, j5, fun n n1 n2 => j6 n n1 (by omega), ?_⟩
            rcases j7 with ⟨v0, y1, y2⟩ | y
            · refine .inl ⟨v0, y1, fun n n1 n2 => ?_⟩
              by_cases d : n = k
              · rw [d]; exact w
              · exact y2 n (by omega) n2
            · exact .inr y
      have H77 : ∀ (p : Nat) (υ : Mem), p ≤ g.1 → (ChM σ υ ∧ FarM L υ ∧ (∀ n, υ.1 222 n = τ.1 222 n) ∧ ∀ n, n < 10 → υ.1 221 n = nI (ctB (dgB g S n) p)) → Ws x 0 77 [(0, .ref 209), (1, .int 0), (2, .int (nI p))] [] υ := by
        refine cnt g.1 (fun p υ => ChM σ υ ∧ FarM L υ ∧ (∀ n, υ.1 222 n = τ.1 222 n) ∧ ∀ n, n < 10 → υ.1 221 n = nI (ctB (dgB g S n) p)) (fun p υ => Ws x 0 77 [(0, .ref 209), (1, .int 0), (2, .int (nI p))] [] υ) ?_ ?_
        · rintro υ ⟨j1, j2, j3, j4⟩
          refine sg_X5_findsLoop_77 C r _ _ υ ?_
          show (υ.1 210 7 ≤ nI g.1 → _) ∧ (¬ υ.1 210 7 ≤ nI g.1 → _)
          rw [(hG.ch j1).1]
          refine ⟨fun _ => ?_, fun q => absurd (nI_le (Nat.le_refl g.1) (by omega)) q⟩
          exact H154 0 (υ, 0) (Nat.zero_le _) ⟨j1, j2, fun n n1 n2 => (hS' n).mpr (by rw [← j3]; exact n2), fun n n1 => by show υ.1 222 n ≠ 0; rw [j3]; exact i4 n n1, j4, fun n n1 _ n2 => by show υ.1 222 n ≠ 0; rw [j3]; exact (hS' n).mp n2, .inl ⟨rfl, fun n n1 n2 => by show υ.1 222 n ≠ 0; rw [j3]; exact (hS' n).mp n2, fun n n1 => absurd n1 (Nat.not_lt_zero n)⟩⟩
        · rintro p υ hp ⟨j1, j2, j3, j4⟩ ih
          obtain ⟨g1, g2⟩ := (hG.ch j1).2 p hp
          obtain ⟨w1, w2, w3⟩ := hg.2 p hp
          have dle : ∀ n, ctB (dgB g S n) p ≤ p := fun n => ctB_le _ p
          have dgp : ∀ n, dgB g S n p = true ↔ (n = g.2.1 p ∨ n = g.2.2 p) ∧ S (g.2.1 p) = true ∧ S (g.2.2 p) = true := fun n => by
            constructor
            · intro q
              obtain ⟨e, e1, e2, e3⟩ := dgB_true q
              rcases ac_two e1 (ac_ends hg hp).1 with ⟨z1, z2⟩ | ⟨z1, z2⟩
              · rw [z1, z2]; exact ⟨.inl rfl, e2, e3⟩
              · rw [z1, z2]; exact ⟨.inr rfl, e3, e2⟩
            · rintro ⟨z | z, e2, e3⟩
              · rw [z]; exact dgB_of (ac_ends hg hp).1 e2 e3
              · rw [z]; exact dgB_of (ac_ends hg hp).2 e3 e2
          have none_ : ¬ (S (g.2.1 p) = true ∧ S (g.2.2 p) = true) → ∀ v146 : Int32, v146 = nI p + 1 → Ws x 0 77 [(0, .ref 209), (1, .int 0), (2, .int v146)] [] υ := fun hno v ev => by
            rw [ev, nI_1]
            refine ih υ ⟨j1, j2, j3, fun n n1 => ?_⟩
            show υ.1 221 n = nI (ctB (dgB g S n) p + if dgB g S n p = true then 1 else 0)
            rw [if_neg (fun q => hno ((dgp n).mp q).2)]
            exact j4 n n1
          refine sg_X5_findsLoop_77 C r _ _ υ ?_
          show (υ.1 210 7 ≤ nI p → _) ∧ (¬ υ.1 210 7 ≤ nI p → _)
          rw [(hG.ch j1).1]
          refine ⟨fun q => absurd (n_le (by omega) (by omega) q) (by omega), fun _ => i_X5_of (w := 0) (by omega) ?_⟩
          rw [Nat.add_zero, g1, n_cl (n := g.2.1 p) (by omega), j3]
          refine ⟨n_inR w1 (by decide), fun q => none_ (fun z => (hS' _).mp z.1 q), fun q => i_X5_of (w := 1) (by omega) ?_⟩
          rw [g2, n_cl (n := g.2.2 p) (by omega), j3]
          refine ⟨n_inR w2 (by decide), fun q2 => i_X5_of (w := 0) (by omega) ?_, fun q2 => none_ (fun z => (hS' _).mp z.2 q2)⟩
          have sa := (hS' _).mpr q
          have sb := (hS' _).mpr q2
          rw [Nat.add_zero, g1, n_cl (n := g.2.1 p) (by omega), j4 _ w1, nI_1]
          refine ⟨n_inR w1 (by decide), n_inR w1 (by decide), fun σ130 e130 => i_X5_of (w := 1) (by omega) ?_⟩
          have x1 : σ130.1 210 (8 + 4 * p + 1) = nI (g.2.2 p) := by rw [e130, wi_i, if_neg (fun q => absurd q.1 (by decide))]; exact g2
          have x2 : σ130.1 221 (g.2.2 p) = nI (ctB (dgB g S (g.2.2 p)) p) := by
            rw [e130, wi_i, if_neg (fun q => w3 q.2.symm)]; exact j4 _ w2
          rw [x1, n_cl (n := g.2.2 p) (by omega), x2, nI_1]
          refine ⟨n_inR w2 (by decide), n_inR w2 (by decide), fun σ145 e145 v146 e146 => ?_⟩
          rw [e146, nI_1]
          refine ih σ145 ⟨by rw [e145, e130]; exact (j1.swi (by decide) (by decide)).swi (by decide) (by decide), fun j hj => ?_, fun n => ?_, fun n n1 => ?_⟩
          · rw [e145, e130, wi_i, if_neg (fun q => absurd q.1 (by decide)), wi_i, if_neg (fun q => absurd q.1 (by decide))]; exact j2 j hj
          · rw [e145, e130, wi_i, if_neg (fun q => absurd q.1 (by decide)), wi_i, if_neg (fun q => absurd q.1 (by decide))]; exact j3 n
          · show σ145.1 221 n = nI (ctB (dgB g S n) p + if dgB g S n p = true then 1 else 0)
            rw [e145, wi_i]
            by_cases d2 : n = g.2.2 p
            · rw [if_pos ⟨rfl, d2⟩, if_pos ((dgp n).mpr ⟨.inr d2, sa, sb⟩), d2]
            · rw [if_neg (fun q => d2 q.2), e130, wi_i]
              by_cases d1 : n = g.2.1 p
              · rw [if_pos ⟨rfl, d1⟩, if_pos ((dgp n).mpr ⟨.inl d1, sa, sb⟩), d1]
              · rw [if_neg (fun q => d1 q.2), if_neg (fun q => by
                  rcases ((dgp n).mp q).1 with z | z
                  · exact d1 z
                  · exact d2 z)]
                exact j4 n n1
      have H56 := cnt 10 (fun k υ => ChM σ υ ∧ FarM L υ ∧ (∀ n, υ.1 222 n = τ.1 222 n) ∧ ∀ n, n < k → υ.1 221 n = 0) (fun k υ => Ws x 0 56 [(0, .ref 209), (1, .int 0), (2, .int (nI k))] [] υ)
        (fun υ j => sg_X5_findsLoop_56 C r _ _ υ ⟨fun _ => H77 0 υ (Nat.zero_le _) ⟨j.1, j.2.1, j.2.2.1, fun n n1 => by rw [j.2.2.2 n n1]; rfl⟩, fun q => (lit_lt (by decide) (Nat.le_refl 10) (by decide) q).elim⟩)
        (fun k υ hk j ih => by
          refine sg_X5_findsLoop_56 C r _ _ υ ⟨fun q => (lit_ge (by decide) hk q).elim, fun _ => ⟨n_inR hk (by decide), fun σ68 e68 v69 e69 => ?_⟩⟩
          rw [n_cl (by omega)] at e68
          rw [e69, nI_1]
          refine ih σ68 ⟨by rw [e68]; exact j.1.swi (by decide) (by decide), fun i hi => by rw [e68, wi_i, if_neg (fun q => absurd q.1 (by decide))]; exact j.2.1 i hi, fun n => by rw [e68, wi_i, if_neg (fun q => absurd q.1 (by decide))]; exact j.2.2.1 n, fun n n1 => ?_⟩
          rw [e68, wi_i]
          by_cases d : n = k
          · rw [if_pos ⟨rfl, d⟩]
          · rw [if_neg (fun q => d q.2)]; exact j.2.2.2 n (by omega)) 0 τ (Nat.zero_le _) ⟨i1, i2, fun _ => rfl, fun n n1 => absurd n1 (Nat.not_lt_zero n)⟩
      exact sg_X5_findsLoop_48 C r _ τ ⟨fun q => absurd q (by decide), fun _ => H56⟩
  -- the start
  refine cnt 10 (fun k τ => ChM σ τ ∧ FarM L τ ∧ ∀ n, n < k → (τ.1 222 n ≠ 0 ↔ n ∈ nds L)) (fun k τ => Ws x 0 7 [(0, .ref 209), (1, .int (nI k))] [] τ) ?_ ?_ 0 σ2 (Nat.zero_le _) ⟨hC2, hF2, fun n n1 => absurd n1 (Nat.not_lt_zero n)⟩
  · rintro τ ⟨i1, i2, i3⟩
    refine sg_X5_findsLoop_7 C r _ τ ⟨fun _ => ?_, fun q => (lit_lt (by decide) (Nat.le_refl 10) (by decide) q).elim⟩
    exact H48 _ τ rfl i1 i2 (fun n n1 n2 => (i3 n n1).mp n2) (fun n n1 => (i3 n (inN10 n n1).1).mpr (inN10 n n1).2)
  · rintro k τ hk ⟨i1, i2, i3⟩ ih
    refine sg_X5_findsLoop_7 C r _ τ ⟨fun q => (lit_ge (by decide) hk q).elim, fun _ => ⟨n_inR hk (by decide), ?_⟩⟩
    rw [n_cl (n := k) (by omega), i2 k hk]
    have done : ∀ (w : Int32), (w ≠ 0 ↔ k ∈ nds L) → ∀ σ39 : Mem, σ39 = wi (wi τ 222 k w) 221 k 0 → ∀ v40 : Int32, v40 = nI k + 1 → Ws x 0 7 [(0, .ref 209), (1, .int v40)] [] σ39 := fun w hw σ39 e v ev => by
      rw [ev, nI_1]
      refine ih σ39 ⟨by rw [e]; exact (i1.swi (by decide) (by decide)).swi (by decide) (by decide), fun j hj => by rw [e, wi_i, if_neg (fun q => absurd q.1 (by decide)), wi_i, if_neg (fun q => absurd q.1 (by decide))]; exact i2 j hj, fun n n1 => ?_⟩
      rw [e, wi_i, if_neg (fun q => absurd q.1 (by decide)), wi_i]
      by_cases d : n = k
      · rw [if_pos ⟨rfl, d⟩, d]; exact hw
      · rw [if_neg (fun q => d q.2)]; exact i3 n (by omega)
    refine ⟨fun q => ⟨n_inR hk (by decide), fun σ32 e32 => ⟨n_inR hk (by decide), fun σ39 e39 v ev => done 0 ⟨fun z => absurd rfl z, fun z => absurd z ((fI_lt10 hT k).mp q)⟩ σ39 (by rw [e39, e32]) v ev⟩⟩, fun q => ⟨n_inR hk (by decide), fun σ32 e32 => ⟨n_inR hk (by decide), fun σ39 e39 v ev => done 1 ⟨fun _ => Classical.byContradiction fun z => q ((fI_lt10 hT k).mpr z), fun _ => by decide⟩ σ39 (by rw [e39, e32]) v ev⟩⟩⟩
theorem ct_X5_findsLoop  (σ : Mem) (K : Mem → Prop) (X : String → Mem → Prop) (h : sp_X5_findsLoop  σ K X) : CtV yX5_findsLoop cX5_findsLoop 9 none 4 0 [.ref 209] σ K X :=
  ctV_of (by decide +kernel) (Nat.le_of_ble_eq_true rfl) (fun x C r => vc_X5_findsLoop C r  σ h)
/-! HeatNetworkModel.loop(I)I: level 5, exceptions 0 -/
def sp_X5_loop (p0 : Int32) (σ : Mem) (K : Int32 → Mem → Prop) (X : String → Mem → Prop) : Prop := (∀ σ2 : Mem, σ2 = wi σ 209 0 0 → sp_X5_findsLoop  σ2 (fun σ6 => sp_X5_in p0 0 ((σ6.1 209 22) - 1) σ6 (fun r17 σ17 => (r17 = 0 → sp_X5_raises 1 σ17 (fun r34 σ34 => K r34 σ34) X) ∧ (¬ r17 = 0 → (vp_in p0 10) ∧ (K (σ17.1 223 p0.toNatClampNeg) σ17))) X) X)
set_option maxRecDepth 4000 in
theorem sg_X5_loop_0 {x : Ctx} {K : Int32 → Mem → Prop} {X : String → Mem → Prop} (C : Cx x RX5 cX5_loop 2) (r : RtI x 5 0 (some .int) K X) (p0 : Int32)  (σ : Mem) (h : ∀ σ2 : Mem, σ2 = wi σ 209 0 0 → sp_X5_findsLoop  σ2 (fun σ6 => sp_X5_in p0 0 ((σ6.1 209 22) - 1) σ6 (fun r17 σ17 => (r17 = 0 → sp_X5_raises 1 σ17 (fun r34 σ34 => K r34 σ34) X) ∧ (¬ r17 = 0 → (vp_in p0 10) ∧ (K (σ17.1 223 p0.toNatClampNeg) σ17))) X) X) : Ws x 0 0 [(0, .ref 209), (1, .int p0)] [] σ := by
  refine r_aload_n (j := 0) C 1 dX5_loop_0 rfl rfl ?_
  refine r_iconst C 2 (v := 0) dX5_loop_1 rfl (by decide) ?_
  refine r_putI (k := 0) C cl7 5 dX5_loop_2 rfl kd_209 (by decide) wd_1212 rfl rfl rfl rfl ?_
  refine r_nmS (fun σ2 e2 => ?_)
  have h := h σ2 e2
  refine r_aload_n (j := 0) C 6 dX5_loop_5 rfl rfl ?_
  refine r_cVV (as := []) (S := []) C r.px 9 (ct_X5_findsLoop  _ _ _ h) dX5_loop_6 rfl cl7 kd_209 wd_57 wd_1432 rfl wd_1430 wd_1433 wd_95 yd_X5_findsLoop ⟨Nat.le_of_ble_eq_true rfl, Nat.le_of_ble_eq_true rfl⟩ (Nat.le_of_ble_eq_true rfl) (by decide) (fun σ6 h => ?_)
  refine r_iload_n (j := 1) C 10 dX5_loop_9 rfl rfl ?_
  refine r_iconst C 11 (v := 0) dX5_loop_10 rfl (by decide) ?_
  refine r_aload_n (j := 0) C 12 dX5_loop_11 rfl rfl ?_
  refine r_get (k := 22) C cl7 15 dX5_loop_12 rfl kd_209 (by decide) wd_1234 (.int (σ6.1 209 22)) (fun _ => rfl) ?_
  refine r_iconst C 16 (v := 1) dX5_loop_15 rfl (by decide) ?_
  refine r_isub C 17 dX5_loop_16 rfl ?_
  refine r_cSI (b := 0) (as := [.int p0, .int 0, .int ((σ6.1 209 22) - 1)]) (S := []) C r.px 20 (ct_X5_in _ _ _ _ _ _ h) dX5_loop_17 rfl wd_1321 wd_1320 wd_1322 wd_95 yd_X5_in ⟨Nat.le_of_ble_eq_true rfl, Nat.le_of_ble_eq_true rfl⟩ (Nat.le_of_ble_eq_true rfl) (by decide) (fun r17 σ17 h => ?_)
  refine r_if_eq C 32 23 dX5_loop_20 (by decide) rfl (fun c20 => ?_) (fun c20 => ?_)
  · have h := h.1 c20
    refine r_aload_n (j := 0) C 33 dX5_loop_32 rfl rfl ?_
    refine r_iconst C 34 (v := 1) dX5_loop_33 rfl (by decide) ?_
    refine r_cVI (as := [.int 1]) (S := []) C r.px 37 (ct_X5_raises _ _ _ _ h) dX5_loop_34 rfl cl7 kd_209 wd_40 wd_1325 rfl wd_1323 wd_1326 wd_95 yd_X5_raises ⟨Nat.le_of_ble_eq_true rfl, Nat.le_of_ble_eq_true rfl⟩ (Nat.le_of_ble_eq_true rfl) (by decide) (fun r34 σ34 h => ?_)
    exact r_iret (S := []) C r dX5_loop_37 (by decide) rfl h
  · have h := h.2 c20
    refine r_aload_n (j := 0) C 24 dX5_loop_23 rfl rfl ?_
    refine r_get (k := 20) C cl7 27 dX5_loop_24 rfl kd_209 (by decide) wd_1232 (.ref 223) (fun _ => rfl) ?_
    refine r_iload_n (j := 1) C 28 dX5_loop_27 rfl rfl ?_
    obtain ⟨o28, h⟩ := h
    refine r_iald C 29 dX5_loop_28 rfl kd_223 o28 ?_
    refine r_goto C 37 dX5_loop_29 (by decide) ?_
    exact r_iret (S := []) C r dX5_loop_37 (by decide) rfl h
theorem ct_X5_loop (p0 : Int32) (σ : Mem) (K : Int32 → Mem → Prop) (X : String → Mem → Prop) (h : sp_X5_loop p0 σ K X) : CtI yX5_loop cX5_loop 2 (some .int) 5 0 [.ref 209, .int p0] σ K X := by
  have h := h
  exact ctI_of (by decide +kernel) (Nat.le_of_ble_eq_true rfl) (fun x C r => sg_X5_loop_0 C r p0  σ h)
/-! HeatNetworkModel.pipe(II)I: level 5, exceptions 0 -/
def sp_X5_pipe (p0 : Int32) (p1 : Int32) (σ : Mem) (K : Int32 → Mem → Prop) (X : String → Mem → Prop) : Prop := (∀ σ2 : Mem, σ2 = wi σ 209 0 0 → sp_X5_isPipe p0 σ2 (fun r7 σ7 => (¬ r7 = 0 → sp_X5_in p1 0 4 σ7 (fun r22 σ22 => (¬ r22 = 0 → (4 ≤ p1 → sp_X5_findsLoop  σ22 (fun σ47 => sp_X5_isLoopPipe p0 σ47 (fun r52 σ52 => (r52 = 0 → K 0 σ52) ∧ (¬ r52 = 0 → K 1 σ52)) X) X) ∧ (¬ 4 ≤ p1 → sp_X5_of p0 p1 σ22 (fun r42 σ42 => K r42 σ42) X)) ∧ (r22 = 0 → sp_X5_raises 2 σ22 (fun r30 σ30 => K r30 σ30) X)) X) ∧ (r7 = 0 → sp_X5_raises 1 σ7 (fun r15 σ15 => K r15 σ15) X)) X)
set_option maxRecDepth 4000 in
theorem sg_X5_pipe_0 {x : Ctx} {K : Int32 → Mem → Prop} {X : String → Mem → Prop} (C : Cx x RX5 cX5_pipe 3) (r : RtI x 5 0 (some .int) K X) (p0 : Int32) (p1 : Int32)  (σ : Mem) (h : ∀ σ2 : Mem, σ2 = wi σ 209 0 0 → sp_X5_isPipe p0 σ2 (fun r7 σ7 => (¬ r7 = 0 → sp_X5_in p1 0 4 σ7 (fun r22 σ22 => (¬ r22 = 0 → (4 ≤ p1 → sp_X5_findsLoop  σ22 (fun σ47 => sp_X5_isLoopPipe p0 σ47 (fun r52 σ52 => (r52 = 0 → K 0 σ52) ∧ (¬ r52 = 0 → K 1 σ52)) X) X) ∧ (¬ 4 ≤ p1 → sp_X5_of p0 p1 σ22 (fun r42 σ42 => K r42 σ42) X)) ∧ (r22 = 0 → sp_X5_raises 2 σ22 (fun r30 σ30 => K r30 σ30) X)) X) ∧ (r7 = 0 → sp_X5_raises 1 σ7 (fun r15 σ15 => K r15 σ15) X)) X) : Ws x 0 0 [(0, .ref 209), (1, .int p0), (2, .int p1)] [] σ := by
  refine r_aload_n (j := 0) C 1 dX5_pipe_0 rfl rfl ?_
  refine r_iconst C 2 (v := 0) dX5_pipe_1 rfl (by decide) ?_
  refine r_putI (k := 0) C cl7 5 dX5_pipe_2 rfl kd_209 (by decide) wd_1212 rfl rfl rfl rfl ?_
  refine r_nmS (fun σ2 e2 => ?_)
  have h := h σ2 e2
  refine r_aload_n (j := 0) C 6 dX5_pipe_5 rfl rfl ?_
  refine r_iload_n (j := 1) C 7 dX5_pipe_6 rfl rfl ?_
  refine r_cVI (as := [.int p0]) (S := []) C r.px 10 (ct_X5_isPipe _ _ _ _ h) dX5_pipe_7 rfl cl7 kd_209 wd_50 wd_1384 rfl wd_1382 wd_1385 wd_95 yd_X5_isPipe ⟨Nat.le_of_ble_eq_true rfl, Nat.le_of_ble_eq_true rfl⟩ (Nat.le_of_ble_eq_true rfl) (by decide) (fun r7 σ7 h => ?_)
  refine r_if_ne C 19 13 dX5_pipe_10 (by decide) rfl (fun c10 => ?_) (fun c10 => ?_)
  · have h := h.1 c10
    refine r_iload_n (j := 2) C 20 dX5_pipe_19 rfl rfl ?_
    refine r_iconst C 21 (v := 0) dX5_pipe_20 rfl (by decide) ?_
    refine r_iconst C 22 (v := 4) dX5_pipe_21 rfl (by decide) ?_
    refine r_cSI (b := 0) (as := [.int p1, .int 0, .int 4]) (S := []) C r.px 25 (ct_X5_in _ _ _ _ _ _ h) dX5_pipe_22 rfl wd_1321 wd_1320 wd_1322 wd_95 yd_X5_in ⟨Nat.le_of_ble_eq_true rfl, Nat.le_of_ble_eq_true rfl⟩ (Nat.le_of_ble_eq_true rfl) (by decide) (fun r22 σ22 h => ?_)
    refine r_if_ne C 34 28 dX5_pipe_25 (by decide) rfl (fun c25 => ?_) (fun c25 => ?_)
    · have h := h.1 c25
      refine r_iload_n (j := 2) C 35 dX5_pipe_34 rfl rfl ?_
      refine r_iconst C 36 (v := 4) dX5_pipe_35 rfl (by decide) ?_
      refine r_icmp_ge C 46 39 dX5_pipe_36 (by decide) rfl (fun c36 => ?_) (fun c36 => ?_)
      · have h := h.1 c36
        refine r_aload_n (j := 0) C 47 dX5_pipe_46 rfl rfl ?_
        refine r_cVV (as := []) (S := []) C r.px 50 (ct_X5_findsLoop  _ _ _ h) dX5_pipe_47 rfl cl7 kd_209 wd_57 wd_1432 rfl wd_1430 wd_1433 wd_95 yd_X5_findsLoop ⟨Nat.le_of_ble_eq_true rfl, Nat.le_of_ble_eq_true rfl⟩ (Nat.le_of_ble_eq_true rfl) (by decide) (fun σ47 h => ?_)
        refine r_aload_n (j := 0) C 51 dX5_pipe_50 rfl rfl ?_
        refine r_iload_n (j := 1) C 52 dX5_pipe_51 rfl rfl ?_
        refine r_cVI (as := [.int p0]) (S := []) C r.px 55 (ct_X5_isLoopPipe _ _ _ _ h) dX5_pipe_52 rfl cl7 kd_209 wd_62 wd_1454 rfl wd_1452 wd_1455 wd_95 yd_X5_isLoopPipe ⟨Nat.le_of_ble_eq_true rfl, Nat.le_of_ble_eq_true rfl⟩ (Nat.le_of_ble_eq_true rfl) (by decide) (fun r52 σ52 h => ?_)
        refine r_if_eq C 62 58 dX5_pipe_55 (by decide) rfl (fun c55 => ?_) (fun c55 => ?_)
        · have h := h.1 c55
          refine r_iconst C 63 (v := 0) dX5_pipe_62 rfl (by decide) ?_
          exact r_iret (S := []) C r dX5_pipe_63 (by decide) rfl h
        · have h := h.2 c55
          refine r_iconst C 59 (v := 1) dX5_pipe_58 rfl (by decide) ?_
          refine r_goto C 63 dX5_pipe_59 (by decide) ?_
          exact r_iret (S := []) C r dX5_pipe_63 (by decide) rfl h
      · have h := h.2 c36
        refine r_aload_n (j := 0) C 40 dX5_pipe_39 rfl rfl ?_
        refine r_iload_n (j := 1) C 41 dX5_pipe_40 rfl rfl ?_
        refine r_iload_n (j := 2) C 42 dX5_pipe_41 rfl rfl ?_
        refine r_cVI (as := [.int p0, .int p1]) (S := []) C r.px 45 (ct_X5_of _ _ _ _ _ h) dX5_pipe_42 rfl cl7 kd_209 wd_47 wd_1368 rfl wd_1366 wd_1369 wd_95 yd_X5_of ⟨Nat.le_of_ble_eq_true rfl, Nat.le_of_ble_eq_true rfl⟩ (Nat.le_of_ble_eq_true rfl) (by decide) (fun r42 σ42 h => ?_)
        exact r_iret (S := []) C r dX5_pipe_45 (by decide) rfl h
    · have h := h.2 c25
      refine r_aload_n (j := 0) C 29 dX5_pipe_28 rfl rfl ?_
      refine r_iconst C 30 (v := 2) dX5_pipe_29 rfl (by decide) ?_
      refine r_cVI (as := [.int 2]) (S := []) C r.px 33 (ct_X5_raises _ _ _ _ h) dX5_pipe_30 rfl cl7 kd_209 wd_40 wd_1325 rfl wd_1323 wd_1326 wd_95 yd_X5_raises ⟨Nat.le_of_ble_eq_true rfl, Nat.le_of_ble_eq_true rfl⟩ (Nat.le_of_ble_eq_true rfl) (by decide) (fun r30 σ30 h => ?_)
      exact r_iret (S := []) C r dX5_pipe_33 (by decide) rfl h
  · have h := h.2 c10
    refine r_aload_n (j := 0) C 14 dX5_pipe_13 rfl rfl ?_
    refine r_iconst C 15 (v := 1) dX5_pipe_14 rfl (by decide) ?_
    refine r_cVI (as := [.int 1]) (S := []) C r.px 18 (ct_X5_raises _ _ _ _ h) dX5_pipe_15 rfl cl7 kd_209 wd_40 wd_1325 rfl wd_1323 wd_1326 wd_95 yd_X5_raises ⟨Nat.le_of_ble_eq_true rfl, Nat.le_of_ble_eq_true rfl⟩ (Nat.le_of_ble_eq_true rfl) (by decide) (fun r15 σ15 h => ?_)
    exact r_iret (S := []) C r dX5_pipe_18 (by decide) rfl h
theorem ct_X5_pipe (p0 : Int32) (p1 : Int32) (σ : Mem) (K : Int32 → Mem → Prop) (X : String → Mem → Prop) (h : sp_X5_pipe p0 p1 σ K X) : CtI yX5_pipe cX5_pipe 3 (some .int) 5 0 [.ref 209, .int p0, .int p1] σ K X := by
  have h := h
  exact ctI_of (by decide +kernel) (Nat.le_of_ble_eq_true rfl) (fun x C r => sg_X5_pipe_0 C r p0 p1  σ h)
