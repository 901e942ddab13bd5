/-! HeatNetworkModel.flows()V: level 5, exceptions 0 -/
def sp_X5_flows (σ : Mem) (K : Mem → Prop) (X : String → Mem → Prop) : Prop := ∃ (w : Nat → Int32) (g : Gr) (c : Lp) (dr B : Nat → Nat) (z : Int), FBase w g c dr B σ ∧ (0 < c.1 → XS g (bfs g 0) c dr B (rsW w) z) ∧ ∀ τ : Mem, (∀ a k, a ≠ 228 → τ.1 a k = σ.1 a k) → (∀ a k, a ≠ 227 → ¬ (a = 209 ∧ k = 31) → τ.2.1 a k = σ.2.1 a k) → τ.2.2 = σ.2.2 → (∀ e, e ∈ nds (bfs g 0) → τ.2.1 227 e = lN (B e)) → τ.2.1 209 31 = zL (if c.1 = 0 then 0 else sumD g (bfs g 0) c dr B (rsW w) z) → FlE g (bfs g 0) c dr B z (fun p => τ.1 228 p) → K τ
set_option maxRecDepth 4000 in
theorem sg_X5_flows_0 {x : Ctx} {K : Mem → Prop} {X : String → Mem → Prop} (C : Cx x RX5 cX5_flows 8) (r : RtV x 5 0 none K X)   (σ : Mem) (h : Ws x 0 2 [(0, .ref 209), (1, .int 0)] [] σ) : Ws x 0 0 [(0, .ref 209)] [] σ := by
  refine r_iconst C 1 (v := 0) dX5_flows_0 rfl (by decide) ?_
  refine r_istore_n C 2 [(1, .int 0), (0, .ref 209)] dX5_flows_1 rfl (by decide) rfl ?_
  exact Ws_pick [1, 0] rfl h
set_option maxRecDepth 4000 in
theorem sg_X5_flows_2 {x : Ctx} {K : Mem → Prop} {X : String → Mem → Prop} (C : Cx x RX5 cX5_flows 8) (r : RtV x 5 0 none K X) (i1 : Int32)  (σ : Mem) (h : sp_X5_pipes  σ (fun r4 σ4 => (r4 ≤ i1 → ∀ σ25 : Mem, σ25 = wl σ4 209 31 0 → Ws x 0 31 [(0, .ref 209), (1, .int 10)] [] σ25) ∧ (¬ r4 ≤ i1 → (vp_in i1 10) ∧ (∀ σ16 : Mem, σ16 = wi σ4 228 i1.toNatClampNeg 0 → ∀ v17 : Int32, v17 = i1 + 1 → Ws x 0 2 [(0, .ref 209), (1, .int v17)] [] σ16))) X) : Ws x 0 2 [(0, .ref 209), (1, .int i1)] [] σ := by
  refine r_iload_n (j := 1) C 3 dX5_flows_2 rfl rfl ?_
  refine r_aload_n (j := 0) C 4 dX5_flows_3 rfl rfl ?_
  refine r_cVI (as := []) (S := [.int i1]) C r.px 7 (ct_X5_pipes  _ _ _ h) dX5_flows_4 rfl cl7 kd_209 wd_45 wd_1360 rfl wd_1358 wd_1361 wd_95 yd_X5_pipes ⟨Nat.le_of_ble_eq_true rfl, Nat.le_of_ble_eq_true rfl⟩ (Nat.le_of_ble_eq_true rfl) (by decide) (fun r4 σ4 h => ?_)
  refine r_icmp_ge C 23 10 dX5_flows_7 (by decide) rfl (fun c7 => ?_) (fun c7 => ?_)
  · have h := h.1 c7
    refine r_aload_n (j := 0) C 24 dX5_flows_23 rfl rfl ?_
    refine r_lconst C 25 (v := 0) dX5_flows_24 rfl rfl ?_
    refine r_putL (k := 31) C cl7 28 dX5_flows_25 rfl kd_209 (by decide) wd_1243 rfl rfl ?_
    refine r_nmS (fun σ25 e25 => ?_)
    have h := h σ25 e25
    refine r_bipush C 30 (v := 10) dX5_flows_28 rfl (by decide) ?_
    refine r_istore_n C 31 [(1, .int 10), (0, .ref 209)] dX5_flows_30 rfl (by decide) rfl ?_
    exact Ws_pick [1, 0] rfl h
  · have h := h.2 c7
    refine r_aload_n (j := 0) C 11 dX5_flows_10 rfl rfl ?_
    refine r_get (k := 26) C cl7 14 dX5_flows_11 rfl kd_209 (by decide) wd_1238 (.ref 228) (fun _ => rfl) ?_
    refine r_iload_n (j := 1) C 15 dX5_flows_14 rfl rfl ?_
    refine r_iconst C 16 (v := 0) dX5_flows_15 rfl (by decide) ?_
    obtain ⟨o16, h⟩ := h
    refine r_iast C 17 dX5_flows_16 rfl kd_228 o16 ?_
    refine r_nmS (fun σ16 e16 => ?_)
    have h := h σ16 e16
    obtain ⟨v17, e17⟩ : ∃ y : Int32, y = i1 + 1 := ⟨_, rfl⟩
    have h := h v17 e17
    refine r_iinc (j := 1) C 20 [(1, .int v17), (0, .ref 209)] dX5_flows_17 rfl rfl (by rw [e17]; rfl) (by decide) rfl ?_
    refine r_goto C 2 dX5_flows_20 (by decide) ?_
    exact Ws_pick [1, 0] rfl h
set_option maxRecDepth 4000 in
theorem sg_X5_flows_31 {x : Ctx} {K : Mem → Prop} {X : String → Mem → Prop} (C : Cx x RX5 cX5_flows 8) (r : RtV x 5 0 none K X) (i1 : Int32)  (σ : Mem) (h : (i1 < 0 → Ws x 0 136 [(0, .ref 209), (1, .int 0)] [] σ) ∧ (¬ i1 < 0 → Ws x 0 37 [(0, .ref 209), (1, .int i1), (2, .int 0)] [] σ)) : Ws x 0 31 [(0, .ref 209), (1, .int i1)] [] σ := by
  refine r_iload_n (j := 1) C 32 dX5_flows_31 rfl rfl ?_
  refine r_if_lt C 134 35 dX5_flows_32 (by decide) rfl (fun c32 => ?_) (fun c32 => ?_)
  · have h := h.1 c32
    refine r_iconst C 135 (v := 0) dX5_flows_134 rfl (by decide) ?_
    refine r_istore_n C 136 [(1, .int 0), (0, .ref 209)] dX5_flows_135 rfl (by decide) rfl ?_
    exact Ws_pick [1, 0] rfl h
  · have h := h.2 c32
    refine r_iconst C 36 (v := 0) dX5_flows_35 rfl (by decide) ?_
    refine r_istore_n C 37 [(2, .int 0), (0, .ref 209), (1, .int i1)] dX5_flows_36 rfl (by decide) rfl ?_
    exact Ws_pick [1, 2, 0] rfl h
set_option maxRecDepth 4000 in
theorem sg_X5_flows_37 {x : Ctx} {K : Mem → Prop} {X : String → Mem → Prop} (C : Cx x RX5 cX5_flows 8) (r : RtV x 5 0 none K X) (i1 : Int32) (i2 : Int32)  (σ : Mem) (h : (10 ≤ i2 → ∀ v128 : Int32, v128 = i1 + (-1) → Ws x 0 31 [(0, .ref 209), (1, .int v128)] [] σ) ∧ (¬ 10 ≤ i2 → (vp_in i2 10) ∧ (((σ.1 219 i2.toNatClampNeg) = i1 → sp_X5_out i2 σ (fun r63 σ63 => (vp_in i2 10) ∧ (∀ σ66 : Mem, σ66 = wl σ63 227 i2.toNatClampNeg r63 → ((σ66.1 209 22) = 0 → ∀ v122 : Int32, v122 = i2 + 1 → Ws x 0 37 [(0, .ref 209), (1, .int i1), (2, .int v122)] [] σ66) ∧ (¬ (σ66.1 209 22) = 0 → ((σ66.1 223 0) = i2 → Ws x 0 89 [(0, .ref 209), (1, .int i1), (2, .int i2), (3, .int 1)] [] σ66) ∧ (¬ (σ66.1 223 0) = i2 → ∀ v122 : Int32, v122 = i2 + 1 → Ws x 0 37 [(0, .ref 209), (1, .int i1), (2, .int v122)] [] σ66)))) X) ∧ (¬ (σ.1 219 i2.toNatClampNeg) = i1 → ∀ v122 : Int32, v122 = i2 + 1 → Ws x 0 37 [(0, .ref 209), (1, .int i1), (2, .int v122)] [] σ)))) : Ws x 0 37 [(0, .ref 209), (1, .int i1), (2, .int i2)] [] σ := by
  refine r_iload_n (j := 2) C 38 dX5_flows_37 rfl rfl ?_
  refine r_bipush C 40 (v := 10) dX5_flows_38 rfl (by decide) ?_
  refine r_icmp_ge C 128 43 dX5_flows_40 (by decide) rfl (fun c40 => ?_) (fun c40 => ?_)
  · have h := h.1 c40
    obtain ⟨v128, e128⟩ : ∃ y : Int32, y = i1 + (-1) := ⟨_, rfl⟩
    have h := h v128 e128
    refine r_iinc (j := 1) C 131 [(1, .int v128), (0, .ref 209), (2, .int i2)] dX5_flows_128 rfl rfl (by rw [e128]; rfl) (by decide) rfl ?_
    refine r_goto C 31 dX5_flows_131 (by decide) ?_
    exact Ws_pick [1, 0] rfl h
  · have h := h.2 c40
    refine r_aload_n (j := 0) C 44 dX5_flows_43 rfl rfl ?_
    refine r_get (k := 16) C cl7 47 dX5_flows_44 rfl kd_209 (by decide) wd_1228 (.ref 219) (fun _ => rfl) ?_
    refine r_iload_n (j := 2) C 48 dX5_flows_47 rfl rfl ?_
    obtain ⟨o48, h⟩ := h
    refine r_iald C 49 dX5_flows_48 rfl kd_219 o48 ?_
    refine r_iload_n (j := 1) C 50 dX5_flows_49 rfl rfl ?_
    refine r_icmp_eq C 56 53 dX5_flows_50 (by decide) rfl (fun c50 => ?_) (fun c50 => ?_)
    · have h := h.1 c50
      refine r_aload_n (j := 0) C 57 dX5_flows_56 rfl rfl ?_
      refine r_get (k := 25) C cl7 60 dX5_flows_57 rfl kd_209 (by decide) wd_1237 (.ref 227) (fun _ => rfl) ?_
      refine r_iload_n (j := 2) C 61 dX5_flows_60 rfl rfl ?_
      refine r_aload_n (j := 0) C 62 dX5_flows_61 rfl rfl ?_
      refine r_iload_n (j := 2) C 63 dX5_flows_62 rfl rfl ?_
      refine r_cVL (as := [.int i2]) (S := [.int i2, .ref 227]) C r.px 66 (ct_X5_out _ _ _ _ h) dX5_flows_63 rfl cl7 kd_209 wd_61 wd_1450 rfl wd_1448 wd_1451 wd_95 yd_X5_out ⟨Nat.le_of_ble_eq_true rfl, Nat.le_of_ble_eq_true rfl⟩ (Nat.le_of_ble_eq_true rfl) (by decide) (fun r63 σ63 h => ?_)
      obtain ⟨o66, h⟩ := h
      refine r_last C 67 dX5_flows_66 rfl kd_227 o66 ?_
      refine r_nmS (fun σ66 e66 => ?_)
      have h := h σ66 e66
      refine r_aload_n (j := 0) C 68 dX5_flows_67 rfl rfl ?_
      refine r_get (k := 22) C cl7 71 dX5_flows_68 rfl kd_209 (by decide) wd_1234 (.int (σ66.1 209 22)) (fun _ => rfl) ?_
      refine r_if_eq C 122 74 dX5_flows_71 (by decide) rfl (fun c71 => ?_) (fun c71 => ?_)
      · have h := h.1 c71
        obtain ⟨v122, e122⟩ : ∃ y : Int32, y = i2 + 1 := ⟨_, rfl⟩
        have h := h v122 e122
        refine r_iinc (j := 2) C 125 [(2, .int v122), (0, .ref 209), (1, .int i1)] dX5_flows_122 rfl rfl (by rw [e122]; rfl) (by decide) rfl ?_
        refine r_goto C 37 dX5_flows_125 (by decide) ?_
        exact Ws_pick [1, 2, 0] rfl h
      · have h := h.2 c71
        refine r_aload_n (j := 0) C 75 dX5_flows_74 rfl rfl ?_
        refine r_get (k := 20) C cl7 78 dX5_flows_75 rfl kd_209 (by decide) wd_1232 (.ref 223) (fun _ => rfl) ?_
        refine r_iconst C 79 (v := 0) dX5_flows_78 rfl (by decide) ?_
        refine r_iald C 80 dX5_flows_79 rfl kd_223 (n_inR (n := 0) (by decide) (by decide)) ?_
        refine r_iload_n (j := 2) C 81 dX5_flows_80 rfl rfl ?_
        refine r_icmp_eq C 87 84 dX5_flows_81 (by decide) rfl (fun c81 => ?_) (fun c81 => ?_)
        · have h := h.1 c81
          refine r_iconst C 88 (v := 1) dX5_flows_87 rfl (by decide) ?_
          refine r_istore_n C 89 [(3, .int 1), (0, .ref 209), (1, .int i1), (2, .int i2)] dX5_flows_88 rfl (by decide) rfl ?_
          exact Ws_pick [1, 2, 3, 0] rfl h
        · have h := h.2 c81
          refine r_goto C 122 dX5_flows_84 (by decide) ?_
          obtain ⟨v122, e122⟩ : ∃ y : Int32, y = i2 + 1 := ⟨_, rfl⟩
          have h := h v122 e122
          refine r_iinc (j := 2) C 125 [(2, .int v122), (0, .ref 209), (1, .int i1)] dX5_flows_122 rfl rfl (by rw [e122]; rfl) (by decide) rfl ?_
          refine r_goto C 37 dX5_flows_125 (by decide) ?_
          exact Ws_pick [1, 2, 0] rfl h
    · have h := h.2 c50
      refine r_goto C 122 dX5_flows_53 (by decide) ?_
      obtain ⟨v122, e122⟩ : ∃ y : Int32, y = i2 + 1 := ⟨_, rfl⟩
      have h := h v122 e122
      refine r_iinc (j := 2) C 125 [(2, .int v122), (0, .ref 209), (1, .int i1)] dX5_flows_122 rfl rfl (by rw [e122]; rfl) (by decide) rfl ?_
      refine r_goto C 37 dX5_flows_125 (by decide) ?_
      exact Ws_pick [1, 2, 0] rfl h
set_option maxRecDepth 4000 in
theorem sg_X5_flows_89 {x : Ctx} {K : Mem → Prop} {X : String → Mem → Prop} (C : Cx x RX5 cX5_flows 8) (r : RtV x 5 0 none K X) (i1 : Int32) (i2 : Int32) (i3 : Int32)  (σ : Mem) (h : ((σ.1 209 22) ≤ i3 → ∀ v122 : Int32, v122 = i2 + 1 → Ws x 0 37 [(0, .ref 209), (1, .int i1), (2, .int v122)] [] σ) ∧ (¬ (σ.1 209 22) ≤ i3 → (vp_in i2 10) ∧ ((vp_in i3 10) ∧ (sp_X5_out (σ.1 223 i3.toNatClampNeg) σ (fun r111 σ111 => (vp_in i2 10) ∧ (∀ σ115 : Mem, σ115 = wl σ111 227 i2.toNatClampNeg ((σ.2.1 227 i2.toNatClampNeg) + r111) → ∀ v116 : Int32, v116 = i3 + 1 → Ws x 0 89 [(0, .ref 209), (1, .int i1), (2, .int i2), (3, .int v116)] [] σ115)) X)))) : Ws x 0 89 [(0, .ref 209), (1, .int i1), (2, .int i2), (3, .int i3)] [] σ := by
  refine r_iload_n (j := 3) C 90 dX5_flows_89 rfl rfl ?_
  refine r_aload_n (j := 0) C 91 dX5_flows_90 rfl rfl ?_
  refine r_get (k := 22) C cl7 94 dX5_flows_91 rfl kd_209 (by decide) wd_1234 (.int (σ.1 209 22)) (fun _ => rfl) ?_
  refine r_icmp_ge C 122 97 dX5_flows_94 (by decide) rfl (fun c94 => ?_) (fun c94 => ?_)
  · have h := h.1 c94
    obtain ⟨v122, e122⟩ : ∃ y : Int32, y = i2 + 1 := ⟨_, rfl⟩
    have h := h v122 e122
    refine r_iinc (j := 2) C 125 [(2, .int v122), (0, .ref 209), (1, .int i1), (3, .int i3)] dX5_flows_122 rfl rfl (by rw [e122]; rfl) (by decide) rfl ?_
    refine r_goto C 37 dX5_flows_125 (by decide) ?_
    exact Ws_pick [1, 2, 0] rfl h
  · have h := h.2 c94
    refine r_aload_n (j := 0) C 98 dX5_flows_97 rfl rfl ?_
    refine r_get (k := 25) C cl7 101 dX5_flows_98 rfl kd_209 (by decide) wd_1237 (.ref 227) (fun _ => rfl) ?_
    refine r_iload_n (j := 2) C 102 dX5_flows_101 rfl rfl ?_
    refine r_dup2 C 103 dX5_flows_102 rfl rfl rfl ?_
    obtain ⟨o103, h⟩ := h
    refine r_lald C 104 dX5_flows_103 rfl kd_227 o103 ?_
    refine r_aload_n (j := 0) C 105 dX5_flows_104 rfl rfl ?_
    refine r_aload_n (j := 0) C 106 dX5_flows_105 rfl rfl ?_
    refine r_get (k := 20) C cl7 109 dX5_flows_106 rfl kd_209 (by decide) wd_1232 (.ref 223) (fun _ => rfl) ?_
    refine r_iload_n (j := 3) C 110 dX5_flows_109 rfl rfl ?_
    obtain ⟨o110, h⟩ := h
    refine r_iald C 111 dX5_flows_110 rfl kd_223 o110 ?_
    refine r_cVL (as := [.int (σ.1 223 i3.toNatClampNeg)]) (S := [.long (σ.2.1 227 i2.toNatClampNeg), .int i2, .ref 227]) C r.px 114 (ct_X5_out _ _ _ _ h) dX5_flows_111 rfl cl7 kd_209 wd_61 wd_1450 rfl wd_1448 wd_1451 wd_95 yd_X5_out ⟨Nat.le_of_ble_eq_true rfl, Nat.le_of_ble_eq_true rfl⟩ (Nat.le_of_ble_eq_true rfl) (by decide) (fun r111 σ111 h => ?_)
    refine r_ladd C 115 dX5_flows_114 rfl ?_
    obtain ⟨o115, h⟩ := h
    refine r_last C 116 dX5_flows_115 rfl kd_227 o115 ?_
    refine r_nmS (fun σ115 e115 => ?_)
    have h := h σ115 e115
    obtain ⟨v116, e116⟩ : ∃ y : Int32, y = i3 + 1 := ⟨_, rfl⟩
    have h := h v116 e116
    refine r_iinc (j := 3) C 119 [(3, .int v116), (0, .ref 209), (1, .int i1), (2, .int i2)] dX5_flows_116 rfl rfl (by rw [e116]; rfl) (by decide) rfl ?_
    refine r_goto C 89 dX5_flows_119 (by decide) ?_
    exact Ws_pick [1, 2, 3, 0] rfl h
set_option maxRecDepth 4000 in
theorem sg_X5_flows_136 {x : Ctx} {K : Mem → Prop} {X : String → Mem → Prop} (C : Cx x RX5 cX5_flows 8) (r : RtV x 5 0 none K X) (i1 : Int32)  (σ : Mem) (h : sp_X5_pipes  σ (fun r138 σ138 => (r138 ≤ i1 → (¬ (σ138.1 209 22) = 0 → Ws x 0 240 [(0, .ref 209), (1, .long 0), (3, .long 10000)] [] σ138) ∧ ((σ138.1 209 22) = 0 → K σ138)) ∧ (¬ r138 ≤ i1 → sp_X5_of i1 0 σ138 (fun r147 σ147 => sp_X5_of i1 1 σ147 (fun r154 σ154 => (vp_in r147 10) ∧ (((σ154.1 219 r147.toNatClampNeg) < 0 → ∀ v220 : Int32, v220 = i1 + 1 → Ws x 0 136 [(0, .ref 209), (1, .int v220)] [] σ154) ∧ (¬ (σ154.1 219 r147.toNatClampNeg) < 0 → sp_X5_isLoopPipe i1 σ154 (fun r169 σ169 => (r169 = 0 → (vp_in r147 10) ∧ ((vp_in r154 10) ∧ (((σ169.1 219 r154.toNatClampNeg) ≤ (σ169.1 219 r147.toNatClampNeg) → (vp_in r147 10) ∧ (sp_X5_carries i1 r154 (σ169.2.1 227 r147.toNatClampNeg) σ169 (fun σ217 => ∀ v220 : Int32, v220 = i1 + 1 → Ws x 0 136 [(0, .ref 209), (1, .int v220)] [] σ217) X)) ∧ (¬ (σ169.1 219 r154.toNatClampNeg) ≤ (σ169.1 219 r147.toNatClampNeg) → (vp_in r154 10) ∧ (sp_X5_carries i1 r147 (σ169.2.1 227 r154.toNatClampNeg) σ169 (fun σ202 => ∀ v220 : Int32, v220 = i1 + 1 → Ws x 0 136 [(0, .ref 209), (1, .int v220)] [] σ202) X))))) ∧ (¬ r169 = 0 → ∀ v220 : Int32, v220 = i1 + 1 → Ws x 0 136 [(0, .ref 209), (1, .int v220)] [] σ169)) X))) X) X)) X) : Ws x 0 136 [(0, .ref 209), (1, .int i1)] [] σ := by
  refine r_iload_n (j := 1) C 137 dX5_flows_136 rfl rfl ?_
  refine r_aload_n (j := 0) C 138 dX5_flows_137 rfl rfl ?_
  refine r_cVI (as := []) (S := [.int i1]) C r.px 141 (ct_X5_pipes  _ _ _ h) dX5_flows_138 rfl cl7 kd_209 wd_45 wd_1360 rfl wd_1358 wd_1361 wd_95 yd_X5_pipes ⟨Nat.le_of_ble_eq_true rfl, Nat.le_of_ble_eq_true rfl⟩ (Nat.le_of_ble_eq_true rfl) (by decide) (fun r138 σ138 h => ?_)
  refine r_icmp_ge C 226 144 dX5_flows_141 (by decide) rfl (fun c141 => ?_) (fun c141 => ?_)
  · have h := h.1 c141
    refine r_aload_n (j := 0) C 227 dX5_flows_226 rfl rfl ?_
    refine r_get (k := 22) C cl7 230 dX5_flows_227 rfl kd_209 (by decide) wd_1234 (.int (σ138.1 209 22)) (fun _ => rfl) ?_
    refine r_if_ne C 234 233 dX5_flows_230 (by decide) rfl (fun c230 => ?_) (fun c230 => ?_)
    · have h := h.1 c230
      refine r_lconst C 235 (v := 0) dX5_flows_234 rfl rfl ?_
      refine r_lstore_n C 236 [(1, .long 0), (0, .ref 209)] dX5_flows_235 rfl (by decide) rfl ?_
      refine r_ldc2 C 239 (v := 10000) dX5_flows_236 rfl wd_1460 ?_
      refine r_lstore_n C 240 [(3, .long 10000), (1, .long 0), (0, .ref 209)] dX5_flows_239 rfl (by decide) rfl ?_
      exact Ws_pick [2, 1, 0] rfl h
    · have h := h.2 c230
      exact r_vret (S := []) C r dX5_flows_233 (by decide) h
  · have h := h.2 c141
    refine r_aload_n (j := 0) C 145 dX5_flows_144 rfl rfl ?_
    refine r_iload_n (j := 1) C 146 dX5_flows_145 rfl rfl ?_
    refine r_iconst C 147 (v := 0) dX5_flows_146 rfl (by decide) ?_
    refine r_cVI (as := [.int i1, .int 0]) (S := []) C r.px 150 (ct_X5_of _ _ _ _ _ h) dX5_flows_147 rfl cl7 kd_209 wd_47 wd_1368 rfl wd_1366 wd_1369 wd_95 yd_X5_of ⟨Nat.le_of_ble_eq_true rfl, Nat.le_of_ble_eq_true rfl⟩ (Nat.le_of_ble_eq_true rfl) (by decide) (fun r147 σ147 h => ?_)
    refine r_istore_n C 151 [(2, .int r147), (0, .ref 209), (1, .int i1)] dX5_flows_150 rfl (by decide) rfl ?_
    refine r_aload_n (j := 1) C 152 dX5_flows_151 rfl rfl ?_
    refine r_iload_n (j := 2) C 153 dX5_flows_152 rfl rfl ?_
    refine r_iconst C 154 (v := 1) dX5_flows_153 rfl (by decide) ?_
    refine r_cVI (as := [.int i1, .int 1]) (S := []) C r.px 157 (ct_X5_of _ _ _ _ _ h) dX5_flows_154 rfl cl7 kd_209 wd_47 wd_1368 rfl wd_1366 wd_1369 wd_95 yd_X5_of ⟨Nat.le_of_ble_eq_true rfl, Nat.le_of_ble_eq_true rfl⟩ (Nat.le_of_ble_eq_true rfl) (by decide) (fun r154 σ154 h => ?_)
    refine r_istore_n C 158 [(3, .int r154), (2, .int r147), (0, .ref 209), (1, .int i1)] dX5_flows_157 rfl (by decide) rfl ?_
    refine r_aload_n (j := 2) C 159 dX5_flows_158 rfl rfl ?_
    refine r_get (k := 16) C cl7 162 dX5_flows_159 rfl kd_209 (by decide) wd_1228 (.ref 219) (fun _ => rfl) ?_
    refine r_iload_n (j := 1) C 163 dX5_flows_162 rfl rfl ?_
    obtain ⟨o163, h⟩ := h
    refine r_iald C 164 dX5_flows_163 rfl kd_219 o163 ?_
    refine r_if_lt C 220 167 dX5_flows_164 (by decide) rfl (fun c164 => ?_) (fun c164 => ?_)
    · have h := h.1 c164
      obtain ⟨v220, e220⟩ : ∃ y : Int32, y = i1 + 1 := ⟨_, rfl⟩
      have h := h v220 e220
      refine r_iinc (j := 3) C 223 [(1, .int v220), (3, .int r154), (2, .int r147), (0, .ref 209)] dX5_flows_220 rfl rfl (by rw [e220]; rfl) (by decide) rfl ?_
      refine r_goto C 136 dX5_flows_223 (by decide) ?_
      exact Ws_pick [3, 0] rfl h
    · have h := h.2 c164
      refine r_aload_n (j := 2) C 168 dX5_flows_167 rfl rfl ?_
      refine r_iload_n (j := 3) C 169 dX5_flows_168 rfl rfl ?_
      refine r_cVI (as := [.int i1]) (S := []) C r.px 172 (ct_X5_isLoopPipe _ _ _ _ h) dX5_flows_169 rfl cl7 kd_209 wd_62 wd_1454 rfl wd_1452 wd_1455 wd_95 yd_X5_isLoopPipe ⟨Nat.le_of_ble_eq_true rfl, Nat.le_of_ble_eq_true rfl⟩ (Nat.le_of_ble_eq_true rfl) (by decide) (fun r169 σ169 h => ?_)
      refine r_if_eq C 178 175 dX5_flows_172 (by decide) rfl (fun c172 => ?_) (fun c172 => ?_)
      · have h := h.1 c172
        refine r_aload_n (j := 2) C 179 dX5_flows_178 rfl rfl ?_
        refine r_get (k := 16) C cl7 182 dX5_flows_179 rfl kd_209 (by decide) wd_1228 (.ref 219) (fun _ => rfl) ?_
        refine r_iload_n (j := 1) C 183 dX5_flows_182 rfl rfl ?_
        obtain ⟨o183, h⟩ := h
        refine r_iald C 184 dX5_flows_183 rfl kd_219 o183 ?_
        refine r_aload_n (j := 2) C 185 dX5_flows_184 rfl rfl ?_
        refine r_get (k := 16) C cl7 188 dX5_flows_185 rfl kd_209 (by decide) wd_1228 (.ref 219) (fun _ => rfl) ?_
        refine r_iload_n (j := 0) C 189 dX5_flows_188 rfl rfl ?_
        obtain ⟨o189, h⟩ := h
        refine r_iald C 190 dX5_flows_189 rfl kd_219 o189 ?_
        refine r_icmp_ge C 208 193 dX5_flows_190 (by decide) rfl (fun c190 => ?_) (fun c190 => ?_)
        · have h := h.1 c190
          refine r_aload_n (j := 2) C 209 dX5_flows_208 rfl rfl ?_
          refine r_iload_n (j := 3) C 210 dX5_flows_209 rfl rfl ?_
          refine r_iload_n (j := 0) C 211 dX5_flows_210 rfl rfl ?_
          refine r_aload_n (j := 2) C 212 dX5_flows_211 rfl rfl ?_
          refine r_get (k := 25) C cl7 215 dX5_flows_212 rfl kd_209 (by decide) wd_1237 (.ref 227) (fun _ => rfl) ?_
          refine r_iload_n (j := 1) C 216 dX5_flows_215 rfl rfl ?_
          obtain ⟨o216, h⟩ := h
          refine r_lald C 217 dX5_flows_216 rfl kd_227 o216 ?_
          refine r_cVV (as := [.int i1, .int r154, .long (σ169.2.1 227 r147.toNatClampNeg)]) (S := []) C r.px 220 (ct_X5_carries _ _ _ _ _ _ h) dX5_flows_217 rfl cl7 kd_209 wd_63 wd_1458 rfl wd_1456 wd_1459 wd_95 yd_X5_carries ⟨Nat.le_of_ble_eq_true rfl, Nat.le_of_ble_eq_true rfl⟩ (Nat.le_of_ble_eq_true rfl) (by decide) (fun σ217 h => ?_)
          obtain ⟨v220, e220⟩ : ∃ y : Int32, y = i1 + 1 := ⟨_, rfl⟩
          have h := h v220 e220
          refine r_iinc (j := 3) C 223 [(1, .int v220), (3, .int r154), (2, .int r147), (0, .ref 209)] dX5_flows_220 rfl rfl (by rw [e220]; rfl) (by decide) rfl ?_
          refine r_goto C 136 dX5_flows_223 (by decide) ?_
          exact Ws_pick [3, 0] rfl h
        · have h := h.2 c190
          refine r_aload_n (j := 2) C 194 dX5_flows_193 rfl rfl ?_
          refine r_iload_n (j := 3) C 195 dX5_flows_194 rfl rfl ?_
          refine r_iload_n (j := 1) C 196 dX5_flows_195 rfl rfl ?_
          refine r_aload_n (j := 2) C 197 dX5_flows_196 rfl rfl ?_
          refine r_get (k := 25) C cl7 200 dX5_flows_197 rfl kd_209 (by decide) wd_1237 (.ref 227) (fun _ => rfl) ?_
          refine r_iload_n (j := 0) C 201 dX5_flows_200 rfl rfl ?_
          obtain ⟨o201, h⟩ := h
          refine r_lald C 202 dX5_flows_201 rfl kd_227 o201 ?_
          refine r_cVV (as := [.int i1, .int r147, .long (σ169.2.1 227 r154.toNatClampNeg)]) (S := []) C r.px 205 (ct_X5_carries _ _ _ _ _ _ h) dX5_flows_202 rfl cl7 kd_209 wd_63 wd_1458 rfl wd_1456 wd_1459 wd_95 yd_X5_carries ⟨Nat.le_of_ble_eq_true rfl, Nat.le_of_ble_eq_true rfl⟩ (Nat.le_of_ble_eq_true rfl) (by decide) (fun σ202 h => ?_)
          refine r_goto C 220 dX5_flows_205 (by decide) ?_
          obtain ⟨v220, e220⟩ : ∃ y : Int32, y = i1 + 1 := ⟨_, rfl⟩
          have h := h v220 e220
          refine r_iinc (j := 3) C 223 [(1, .int v220), (3, .int r154), (2, .int r147), (0, .ref 209)] dX5_flows_220 rfl rfl (by rw [e220]; rfl) (by decide) rfl ?_
          refine r_goto C 136 dX5_flows_223 (by decide) ?_
          exact Ws_pick [3, 0] rfl h
      · have h := h.2 c172
        refine r_goto C 220 dX5_flows_175 (by decide) ?_
        obtain ⟨v220, e220⟩ : ∃ y : Int32, y = i1 + 1 := ⟨_, rfl⟩
        have h := h v220 e220
        refine r_iinc (j := 3) C 223 [(1, .int v220), (3, .int r154), (2, .int r147), (0, .ref 209)] dX5_flows_220 rfl rfl (by rw [e220]; rfl) (by decide) rfl ?_
        refine r_goto C 136 dX5_flows_223 (by decide) ?_
        exact Ws_pick [3, 0] rfl h
set_option maxRecDepth 4000 in
theorem sg_X5_flows_240 {x : Ctx} {K : Mem → Prop} {X : String → Mem → Prop} (C : Cx x RX5 cX5_flows 8) (r : RtV x 5 0 none K X) (l1 : Int64) (l3 : Int64)  (σ : Mem) (h : (l3 ≤ l1 → sp_X5_around l1 σ (fun r283 σ283 => ∀ σ286 : Mem, σ286 = wl σ283 209 31 r283 → Ws x 0 295 [(0, .ref 209), (5, .long l1), (7, .int 0)] [] σ286) X) ∧ (¬ l3 ≤ l1 → (¬ 2 = (0 : Int64)) ∧ (∀ v253 : Int64, v253 = ((l1 + l3) / 2) → sp_X5_around v253 σ (fun r258 σ258 => (r258 < 0 → ∀ v276 : Int64, v276 = (v253 + 1) → Ws x 0 240 [(0, .ref 209), (1, .long v276), (3, .long l3)] [] σ258) ∧ (¬ r258 < 0 → Ws x 0 240 [(0, .ref 209), (1, .long l1), (3, .long v253)] [] σ258)) X))) : Ws x 0 240 [(0, .ref 209), (1, .long l1), (3, .long l3)] [] σ := by
  refine r_lload_n (j := 1) C 241 dX5_flows_240 rfl rfl ?_
  refine r_lload_n (j := 2) C 242 dX5_flows_241 rfl rfl ?_
  refine r_lcmp_ge C 243 280 246 dX5_flows_242 rfl dX5_flows_243 (by decide) rfl (fun c242 => ?_) (fun c242 => ?_)
  · have h := h.1 c242
    refine r_aload_n (j := 0) C 281 dX5_flows_280 rfl rfl ?_
    refine r_aload_n (j := 0) C 282 dX5_flows_281 rfl rfl ?_
    refine r_lload_n (j := 1) C 283 dX5_flows_282 rfl rfl ?_
    refine r_cVL (as := [.long l1]) (S := [.ref 209]) C r.px 286 (ct_X5_around _ _ _ _ h) dX5_flows_283 rfl cl7 kd_209 wd_64 wd_1464 rfl wd_1462 wd_1465 wd_95 yd_X5_around ⟨Nat.le_of_ble_eq_true rfl, Nat.le_of_ble_eq_true rfl⟩ (Nat.le_of_ble_eq_true rfl) (by decide) (fun r283 σ283 h => ?_)
    refine r_putL (k := 31) C cl7 289 dX5_flows_286 rfl kd_209 (by decide) wd_1243 rfl rfl ?_
    refine r_nmS (fun σ286 e286 => ?_)
    have h := h σ286 e286
    refine r_lload_n (j := 1) C 290 dX5_flows_289 rfl rfl ?_
    refine r_lstore C 292 [(5, .long l1), (0, .ref 209), (1, .long l1), (3, .long l3)] dX5_flows_290 rfl (by decide) rfl ?_
    refine r_iconst C 293 (v := 0) dX5_flows_292 rfl (by decide) ?_
    refine r_istore C 295 [(7, .int 0), (5, .long l1), (0, .ref 209), (1, .long l1), (3, .long l3)] dX5_flows_293 rfl (by decide) rfl ?_
    exact Ws_pick [2, 1, 0] rfl h
  · have h := h.2 c242
    refine r_lload_n (j := 1) C 247 dX5_flows_246 rfl rfl ?_
    refine r_lload_n (j := 2) C 248 dX5_flows_247 rfl rfl ?_
    refine r_ladd C 249 dX5_flows_248 rfl ?_
    refine r_ldc2 C 252 (v := 2) dX5_flows_249 rfl wd_1461 ?_
    obtain ⟨o252, h⟩ := h
    refine r_ldiv C 253 dX5_flows_252 rfl o252 ?_
    refine r_nmL (fun v253 e253 => ?_)
    have h := h v253 e253
    refine r_lstore C 255 [(5, .long v253), (0, .ref 209), (1, .long l1), (3, .long l3)] dX5_flows_253 rfl (by decide) rfl ?_
    refine r_aload_n (j := 1) C 256 dX5_flows_255 rfl rfl ?_
    refine r_lload (j := 0) C 258 dX5_flows_256 rfl rfl ?_
    refine r_cVL (as := [.long v253]) (S := []) C r.px 261 (ct_X5_around _ _ _ _ h) dX5_flows_258 rfl cl7 kd_209 wd_64 wd_1464 rfl wd_1462 wd_1465 wd_95 yd_X5_around ⟨Nat.le_of_ble_eq_true rfl, Nat.le_of_ble_eq_true rfl⟩ (Nat.le_of_ble_eq_true rfl) (by decide) (fun r258 σ258 h => ?_)
    refine r_lconst C 262 (v := 0) dX5_flows_261 rfl rfl ?_
    refine r_lcmp_lt C 263 272 266 dX5_flows_262 rfl dX5_flows_263 (by decide) rfl (fun c262 => ?_) (fun c262 => ?_)
    · have h := h.1 c262
      refine r_lload (j := 0) C 274 dX5_flows_272 rfl rfl ?_
      refine r_lconst C 275 (v := 1) dX5_flows_274 rfl rfl ?_
      refine r_ladd C 276 dX5_flows_275 rfl ?_
      refine r_nmL (fun v276 e276 => ?_)
      have h := h v276 e276
      refine r_lstore_n C 277 [(1, .long v276), (5, .long v253), (0, .ref 209), (3, .long l3)] dX5_flows_276 rfl (by decide) rfl ?_
      refine r_goto C 240 dX5_flows_277 (by decide) ?_
      exact Ws_pick [2, 0, 3] rfl h
    · have h := h.2 c262
      refine r_lload (j := 0) C 268 dX5_flows_266 rfl rfl ?_
      refine r_lstore_n C 269 [(3, .long v253), (5, .long v253), (0, .ref 209), (1, .long l1)] dX5_flows_268 rfl (by decide) rfl ?_
      refine r_goto C 277 dX5_flows_269 (by decide) ?_
      refine r_goto C 240 dX5_flows_277 (by decide) ?_
      exact Ws_pick [2, 3, 0] rfl h
set_option maxRecDepth 4000 in
theorem sg_X5_flows_295 {x : Ctx} {K : Mem → Prop} {X : String → Mem → Prop} (C : Cx x RX5 cX5_flows 8) (r : RtV x 5 0 none K X) (l5 : Int64) (i7 : Int32)  (σ : Mem) (h : ((σ.1 209 22) ≤ i7 → K σ) ∧ (¬ (σ.1 209 22) ≤ i7 → (i7 ≤ 0 → (vp_in i7 10) ∧ ((vp_in i7 10) ∧ (sp_X5_carries (σ.1 224 i7.toNatClampNeg) (σ.1 223 i7.toNatClampNeg) l5 σ (fun σ342 => ∀ v345 : Int32, v345 = i7 + 1 → Ws x 0 295 [(0, .ref 209), (5, .long l5), (7, .int v345)] [] σ342) X))) ∧ (¬ i7 ≤ 0 → (vp_in i7 10) ∧ (sp_X5_out (σ.1 223 i7.toNatClampNeg) σ (fun r319 σ319 => ∀ v323 : Int64, v323 = (l5 - r319) → (vp_in i7 10) ∧ ((vp_in i7 10) ∧ (sp_X5_carries (σ319.1 224 i7.toNatClampNeg) (σ319.1 223 i7.toNatClampNeg) v323 σ319 (fun σ342 => ∀ v345 : Int32, v345 = i7 + 1 → Ws x 0 295 [(0, .ref 209), (5, .long v323), (7, .int v345)] [] σ342) X))) X)))) : Ws x 0 295 [(0, .ref 209), (5, .long l5), (7, .int i7)] [] σ := by
  refine r_iload (j := 2) C 297 dX5_flows_295 rfl rfl ?_
  refine r_aload_n (j := 0) C 298 dX5_flows_297 rfl rfl ?_
  refine r_get (k := 22) C cl7 301 dX5_flows_298 rfl kd_209 (by decide) wd_1234 (.int (σ.1 209 22)) (fun _ => rfl) ?_
  refine r_icmp_ge C 351 304 dX5_flows_301 (by decide) rfl (fun c301 => ?_) (fun c301 => ?_)
  · have h := h.1 c301
    exact r_vret (S := []) C r dX5_flows_351 (by decide) h
  · have h := h.2 c301
    refine r_iload (j := 2) C 306 dX5_flows_304 rfl rfl ?_
    refine r_if_le C 325 309 dX5_flows_306 (by decide) rfl (fun c306 => ?_) (fun c306 => ?_)
    · have h := h.1 c306
      refine r_aload_n (j := 0) C 326 dX5_flows_325 rfl rfl ?_
      refine r_aload_n (j := 0) C 327 dX5_flows_326 rfl rfl ?_
      refine r_get (k := 21) C cl7 330 dX5_flows_327 rfl kd_209 (by decide) wd_1233 (.ref 224) (fun _ => rfl) ?_
      refine r_iload (j := 2) C 332 dX5_flows_330 rfl rfl ?_
      obtain ⟨o332, h⟩ := h
      refine r_iald C 333 dX5_flows_332 rfl kd_224 o332 ?_
      refine r_aload_n (j := 0) C 334 dX5_flows_333 rfl rfl ?_
      refine r_get (k := 20) C cl7 337 dX5_flows_334 rfl kd_209 (by decide) wd_1232 (.ref 223) (fun _ => rfl) ?_
      refine r_iload (j := 2) C 339 dX5_flows_337 rfl rfl ?_
      obtain ⟨o339, h⟩ := h
      refine r_iald C 340 dX5_flows_339 rfl kd_223 o339 ?_
      refine r_lload (j := 1) C 342 dX5_flows_340 rfl rfl ?_
      refine r_cVV (as := [.int (σ.1 224 i7.toNatClampNeg), .int (σ.1 223 i7.toNatClampNeg), .long l5]) (S := []) C r.px 345 (ct_X5_carries _ _ _ _ _ _ h) dX5_flows_342 rfl cl7 kd_209 wd_63 wd_1458 rfl wd_1456 wd_1459 wd_95 yd_X5_carries ⟨Nat.le_of_ble_eq_true rfl, Nat.le_of_ble_eq_true rfl⟩ (Nat.le_of_ble_eq_true rfl) (by decide) (fun σ342 h => ?_)
      obtain ⟨v345, e345⟩ : ∃ y : Int32, y = i7 + 1 := ⟨_, rfl⟩
      have h := h v345 e345
      refine r_iinc (j := 2) C 348 [(7, .int v345), (0, .ref 209), (5, .long l5)] dX5_flows_345 rfl rfl (by rw [e345]; rfl) (by decide) rfl ?_
      refine r_goto C 295 dX5_flows_348 (by decide) ?_
      exact Ws_pick [1, 2, 0] rfl h
    · have h := h.2 c306
      refine r_lload (j := 1) C 311 dX5_flows_309 rfl rfl ?_
      refine r_aload_n (j := 0) C 312 dX5_flows_311 rfl rfl ?_
      refine r_aload_n (j := 0) C 313 dX5_flows_312 rfl rfl ?_
      refine r_get (k := 20) C cl7 316 dX5_flows_313 rfl kd_209 (by decide) wd_1232 (.ref 223) (fun _ => rfl) ?_
      refine r_iload (j := 2) C 318 dX5_flows_316 rfl rfl ?_
      obtain ⟨o318, h⟩ := h
      refine r_iald C 319 dX5_flows_318 rfl kd_223 o318 ?_
      refine r_cVL (as := [.int (σ.1 223 i7.toNatClampNeg)]) (S := [.long l5]) C r.px 322 (ct_X5_out _ _ _ _ h) dX5_flows_319 rfl cl7 kd_209 wd_61 wd_1450 rfl wd_1448 wd_1451 wd_95 yd_X5_out ⟨Nat.le_of_ble_eq_true rfl, Nat.le_of_ble_eq_true rfl⟩ (Nat.le_of_ble_eq_true rfl) (by decide) (fun r319 σ319 h => ?_)
      refine r_lsub C 323 dX5_flows_322 rfl ?_
      refine r_nmL (fun v323 e323 => ?_)
      have h := h v323 e323
      refine r_lstore C 325 [(5, .long v323), (0, .ref 209), (7, .int i7)] dX5_flows_323 rfl (by decide) rfl ?_
      refine r_aload_n (j := 1) C 326 dX5_flows_325 rfl rfl ?_
      refine r_aload_n (j := 1) C 327 dX5_flows_326 rfl rfl ?_
      refine r_get (k := 21) C cl7 330 dX5_flows_327 rfl kd_209 (by decide) wd_1233 (.ref 224) (fun _ => rfl) ?_
      refine r_iload (j := 2) C 332 dX5_flows_330 rfl rfl ?_
      obtain ⟨o332, h⟩ := h
      refine r_iald C 333 dX5_flows_332 rfl kd_224 o332 ?_
      refine r_aload_n (j := 1) C 334 dX5_flows_333 rfl rfl ?_
      refine r_get (k := 20) C cl7 337 dX5_flows_334 rfl kd_209 (by decide) wd_1232 (.ref 223) (fun _ => rfl) ?_
      refine r_iload (j := 2) C 339 dX5_flows_337 rfl rfl ?_
      obtain ⟨o339, h⟩ := h
      refine r_iald C 340 dX5_flows_339 rfl kd_223 o339 ?_
      refine r_lload (j := 0) C 342 dX5_flows_340 rfl rfl ?_
      refine r_cVV (as := [.int (σ319.1 224 i7.toNatClampNeg), .int (σ319.1 223 i7.toNatClampNeg), .long v323]) (S := []) C r.px 345 (ct_X5_carries _ _ _ _ _ _ h) dX5_flows_342 rfl cl7 kd_209 wd_63 wd_1458 rfl wd_1456 wd_1459 wd_95 yd_X5_carries ⟨Nat.le_of_ble_eq_true rfl, Nat.le_of_ble_eq_true rfl⟩ (Nat.le_of_ble_eq_true rfl) (by decide) (fun σ342 h => ?_)
      obtain ⟨v345, e345⟩ : ∃ y : Int32, y = i7 + 1 := ⟨_, rfl⟩
      have h := h v345 e345
      refine r_iinc (j := 2) C 348 [(7, .int v345), (5, .long v323), (0, .ref 209)] dX5_flows_345 rfl rfl (by rw [e345]; rfl) (by decide) rfl ?_
      refine r_goto C 295 dX5_flows_348 (by decide) ?_
      exact Ws_pick [2, 1, 0] rfl h
/-- of the reference only flows, what is behind and the imbalance have changed -/
def ChF (σ τ : Mem) : Prop := (∀ a k, a ≠ 228 → τ.1 a k = σ.1 a k) ∧ (∀ a k, a ≠ 227 → ¬ (a = 209 ∧ k = 31) → τ.2.1 a k = σ.2.1 a k) ∧ τ.2.2 = σ.2.2
theorem ChF.w228 {σ τ : Mem} (h : ChF σ τ) {k : Nat} {v : Int32} : ChF σ (wi τ 228 k v) := ⟨fun a j q => by rw [wi_i, if_neg (fun w => q w.1)]; exact h.1 a j q, h.2.1, h.2.2⟩
theorem ChF.w227 {σ τ : Mem} (h : ChF σ τ) {k : Nat} {v : Int64} : ChF σ (wl τ 227 k v) := ⟨h.1, fun a j q q2 => by rw [wl_l, if_neg (fun w => q w.1)]; exact h.2.1 a j q q2, h.2.2⟩
theorem ChF.w31 {σ τ : Mem} (h : ChF σ τ) {v : Int64} : ChF σ (wl τ 209 31 v) := ⟨h.1, fun a j q q2 => by rw [wl_l, if_neg q2]; exact h.2.1 a j q q2, h.2.2⟩
theorem FBase.ch {w : Nat → Int32} {g : Gr} {c : Lp} {dr B : Nat → Nat} {σ τ : Mem} (h : FBase w g c dr B σ) (hc : ChF σ τ) : FBase w g c dr B τ := by
  obtain ⟨h1, h2, h3, h4, h5, h6, h7, h8⟩ := h
  exact ⟨h1, fun k hk => by rw [hc.1 _ _ (by decide)]; exact h2 k hk, h3, fun j hj => by rw [hc.1 _ _ (by decide)]; exact h4 j hj, ⟨by rw [hc.1 _ _ (by decide)]; exact h5.1, fun i hi => by rw [hc.1 _ _ (by decide), hc.1 _ _ (by decide)]; exact h5.2 i hi⟩, fun n hn => by rw [hc.1 _ _ (by decide)]; exact h6 n hn, h7, h8⟩
theorem vc_X5_flows {x : Ctx} {K : Mem → Prop} {X : String → Mem → Prop} (C : Cx x RX5 cX5_flows 8) (r : RtV x 5 0 none K X) (σ : Mem) (h : sp_X5_flows σ K X) : Ws x 0 0 [(0, .ref 209)] [] σ := by
  obtain ⟨w, g, c, dr, B, z, hb, hX, hK⟩ := h
  have hw := hb.1
  have hL := hb.2.2.1
  have hE := hb.2.2.2.2.2.2.1
  have hBl := hb.2.2.2.2.2.2.2
  have hg := hw.2.1
  have hP := hg.1
  have hT := bfs_tre hg (by decide : 0 < 10)
  have hle := hL.le hT
  have hsk : ∀ k, k < c.1 → skF g (bfs g 0) c dr B k ≤ 9990 := fun k hk => skF_le hE hBl hL hk
  have n10 : ∀ i, i < c.1 → c.2.1 i < 10 := fun i hi => hT.lt (hL.2.2.2.1 i hi)
  have hR : ∀ k, k < c.1 → 0 ≤ rsW w (c.2.2 k) ∧ rsW w (c.2.2 k) ≤ 891 := fun k hk => by
    have := rsW_bd hw (hL.2.1 k hk).1
    omega
  have hout : ∀ (τ : Mem), ChF σ τ → ∀ n, n ∈ nds (bfs g 0) → ∀ (K' : Int64 → Mem → Prop), (∀ e, e ∈ nds (bfs g 0) → di (bfs g 0) n < di (bfs g 0) e → τ.2.1 227 e = lN (B e)) → K' (lN (outF g (bfs g 0) c dr B n)) τ → sp_X5_out (nI n) τ K' X := fun τ hc n hn K' h1 h2 => (hb.ch hc).out hn h1 h2
  -- the loop's flows are written
  have H295 : ∀ (τ : Mem), ChF σ τ → 0 < c.1 → (∀ e, e ∈ nds (bfs g 0) → τ.2.1 227 e = lN (B e)) → τ.2.1 209 31 = zL (if c.1 = 0 then 0 else sumD g (bfs g 0) c dr B (rsW w) z) → (∀ n, n ∈ nds (bfs g 0) → n ≠ 0 → ¬ inT c n → τ.1 228 (fp (bfs g 0) n) = zI (sgn g (fp (bfs g 0) n) (fe (bfs g 0) n) (B n))) → (∀ p, p < g.1 → g.2.1 p ∉ nds (bfs g 0) → τ.1 228 p = 0) → Ws x 0 295 [(0, .ref 209), (5, .long (zL z)), (7, .int 0)] [] τ := by
    intro τ0 hc0 cpos k1 k2 k3 k4
    have key := cnt c.1 (fun k τ => ChF σ τ ∧ (∀ e, e ∈ nds (bfs g 0) → τ.2.1 227 e = lN (B e)) ∧ τ.2.1 209 31 = zL (if c.1 = 0 then 0 else sumD g (bfs g 0) c dr B (rsW w) z) ∧ (∀ n, n ∈ nds (bfs g 0) → n ≠ 0 → ¬ inT c n → τ.1 228 (fp (bfs g 0) n) = zI (sgn g (fp (bfs g 0) n) (fe (bfs g 0) n) (B n))) ∧ (∀ p, p < g.1 → g.2.1 p ∉ nds (bfs g 0) → τ.1 228 p = 0) ∧ ∀ j, j < k → τ.1 228 (c.2.2 j) = zI (sgn g (c.2.2 j) (c.2.1 j) (z - skF g (bfs g 0) c dr B j))) (fun k τ => Ws x 0 295 [(0, .ref 209), (5, .long (zL (z - if k = 0 then 0 else skF g (bfs g 0) c dr B (k - 1)))), (7, .int (nI k))] [] τ)
      (fun τ ⟨j1, j2, j3, j4, j5, j6⟩ => by
        refine sg_X5_flows_295 C r _ _ τ ?_
        rw [(hb.ch j1).2.2.2.2.1.1]
        exact ⟨fun _ => hK τ j1.1 j1.2.1 j1.2.2 j2 j3 ⟨j4, j6, j5⟩, fun q => absurd (nI_le (Nat.le_refl c.1) (by omega)) q⟩)
      (fun k τ hk ⟨j1, j2, j3, j4, j5, j6⟩ ih => by
        have hl := (hb.ch j1).2.2.2.2.1
        refine sg_X5_flows_295 C r _ _ τ ?_
        obtain ⟨p1, p2⟩ := hL.2.1 k hk
        rw [hl.1, n_cl (n := k) (by omega), (hl.2 k hk).2, (hl.2 k hk).1]
        refine ⟨fun q => absurd (n_le (by omega) (by omega) q) (by omega), fun _ => ?_⟩
        have hG := GM_of hw (hb.ch j1).2.1
        have goOn : ∀ f : Int64, f = zL (z - skF g (bfs g 0) c dr B k) → sp_X5_carries (nI (c.2.2 k)) (nI (c.2.1 k)) f τ (fun σ342 => ∀ v345 : Int32, v345 = nI k + 1 → Ws x 0 295 [(0, .ref 209), (5, .long f), (7, .int v345)] [] σ342) X := fun f ef => by
          rw [ef]
          refine i_X5_carries hg hG p1 (n10 k hk) (fun v345 e345 => ?_)
          rw [e345, nI_1]
          have u : ∀ p, (wi τ 228 (c.2.2 k) (zI (sgn g (c.2.2 k) (c.2.1 k) (z - skF g (bfs g 0) c dr B k)))).1 228 p = if p = c.2.2 k then zI (sgn g (c.2.2 k) (c.2.1 k) (z - skF g (bfs g 0) c dr B k)) else τ.1 228 p := fun p => by
            rw [wi_i]
            by_cases d : p = c.2.2 k
            · rw [if_pos ⟨rfl, d⟩, if_pos d]
            · rw [if_neg (fun q => d q.2), if_neg d]
          have ih := ih (wi τ 228 (c.2.2 k) (zI (sgn g (c.2.2 k) (c.2.1 k) (z - skF g (bfs g 0) c dr B k)))) ⟨j1.w228, j2, j3, fun n hn h0 hnt => ?_, fun p hp hc => ?_, fun j hj => ?_⟩
          · rw [if_neg (by omega : ¬ k + 1 = 0), Nat.add_sub_cancel] at ih
            exact ih
          · rw [u, if_neg (fun e => hL.2.2.2.2.2.2 n hn h0 hnt ⟨k, hk, e.symm⟩)]; exact j4 n hn h0 hnt
          · rw [u, if_neg (fun e => hc (by rw [e]; exact (ac_conn hT hg p1 p2 (hL.2.2.2.1 k hk)).1))]; exact j5 p hp hc
          · rw [u]
            by_cases d : j = k
            · rw [d, if_pos rfl]
            · rw [if_neg (fun e => d (hL.pinj (by omega) hk e))]; exact j6 j (by omega)
        refine ⟨fun q => ?_, fun q => ?_⟩
        · have k0 : k = 0 := by have := n_le (b := 0) (by omega) (by decide) q; omega
          refine ⟨n_inR (by omega) (by decide), n_inR (by omega) (by decide), goOn _ ?_⟩
          rw [if_pos k0, k0, skF_0]
        · have k0 : k ≠ 0 := fun e => by rw [e] at q; exact q (by decide)
          refine ⟨n_inR (by omega) (by decide), hout τ j1 _ (hL.2.2.2.1 k hk) _ (fun e he _ => j2 e he) (fun v36 e36 => ⟨n_inR (by omega) (by decide), n_inR (by omega) (by decide), ?_⟩)⟩
          rw [(hl.2 k hk).2, (hl.2 k hk).1]
          refine goOn v36 ?_
          rw [e36, if_neg k0, lN_z, zL_sub]
          obtain ⟨j, rfl⟩ : ∃ j, k = j + 1 := ⟨k - 1, by omega⟩
          rw [skF_s, Nat.add_sub_cancel]
          congr 1
          omega) 0 τ0 (Nat.zero_le _) ⟨hc0, k1, k2, k3, k4, fun j hj => absurd hj (Nat.not_lt_zero j)⟩
    rw [if_pos rfl] at key
    have e0 : z - ((0 : Nat) : Int) = z := by omega
    rw [e0] at key
    exact key
  -- the search for x
  have H240 : ∀ (N lo hi : Nat) (τ : Mem), hi - lo ≤ N → lo ≤ hi → hi ≤ 10000 → (lo : Int) ≤ z → z ≤ hi → ChF σ τ → 0 < c.1 → (∀ e, e ∈ nds (bfs g 0) → τ.2.1 227 e = lN (B e)) → (∀ n, n ∈ nds (bfs g 0) → n ≠ 0 → ¬ inT c n → τ.1 228 (fp (bfs g 0) n) = zI (sgn g (fp (bfs g 0) n) (fe (bfs g 0) n) (B n))) → (∀ p, p < g.1 → g.2.1 p ∉ nds (bfs g 0) → τ.1 228 p = 0) → Ws x 0 240 [(0, .ref 209), (1, .long (lN lo)), (3, .long (lN hi))] [] τ := by
    intro N
    induction N with
    | zero =>
      intro lo hi τ h1 h2 h3 h4 h5 hc cpos k1 k3 k4
      have e : z = lo := by omega
      refine sg_X5_flows_240 C r _ _ τ ⟨fun _ => ?_, fun q => absurd (pk_lLE (by omega) (by omega) |>.mpr (by omega)) q⟩
      refine ⟨w, g, c, dr, B, z, hb.ch hc, k1, by rw [e, lN_z], by omega, by omega, fun σ286 e286 => ?_⟩
      have := H295 σ286 (by rw [e286]; exact hc.w31) cpos (fun e he => by rw [e286, wl_l, if_neg (fun q => absurd q.1 (by decide))]; exact k1 e he) (by rw [e286, wl_l, if_pos ⟨rfl, rfl⟩, if_neg (by omega)]) (fun n hn h0 hnt => by rw [e286]; exact k3 n hn h0 hnt) (fun p hp hcp => by rw [e286]; exact k4 p hp hcp)
      rw [e, ← lN_z] at this
      exact this
    | succ N ih =>
      intro lo hi τ h1 h2 h3 h4 h5 hc cpos k1 k3 k4
      by_cases heq : lo = hi
      · exact ih lo hi τ (by omega) h2 h3 h4 h5 hc cpos k1 k3 k4
      obtain ⟨x0, x1, x2, x3⟩ := hX cpos
      refine sg_X5_flows_240 C r _ _ τ ⟨fun q => absurd ((pk_lLE (by omega) (by omega)).mp q) (by omega), fun _ => ⟨by decide, fun v253 e253 => ?_⟩⟩
      have e253 : v253 = lN ((lo + hi) / 2) := by
        rw [e253, lN_add]
        exact pk_lDiv (by omega) (by decide) (by decide)
      have hbd := sumD_bd (R := rsW w) hR hsk hle (x := (((lo + hi) / 2 : Nat) : Int)) (by omega) (by omega)
      rw [e253]
      refine ⟨w, g, c, dr, B, (((lo + hi) / 2 : Nat) : Int), hb.ch hc, k1, lN_z _, by omega, by omega, ?_⟩
      have z0 : (0 : Int64) = zL 0 := rfl
      show (zL (sumD g (bfs g 0) c dr B (rsW w) (((lo + hi) / 2 : Nat) : Int)) < 0 → _) ∧ (¬ zL (sumD g (bfs g 0) c dr B (rsW w) (((lo + hi) / 2 : Nat) : Int)) < 0 → _)
      rw [z0, zL_lt (by omega) (by omega) (by omega) (by omega)]
      refine ⟨fun d v e => ?_, fun d => ?_⟩
      · rw [e, lN_1]
        refine ih _ hi τ (by omega) (by omega) h3 ?_ h5 hc cpos k1 k3 k4
        apply Classical.byContradiction
        intro q
        have := sumD_mono (g := g) (L := bfs g 0) (dr := dr) (B := B) (fun k hk => (hR k hk).1) (x := z) (y := (((lo + hi) / 2 : Nat) : Int)) (by omega)
        omega
      · refine ih lo _ τ (by omega) (by omega) (by omega) h4 ?_ hc cpos k1 k3 k4
        apply Classical.byContradiction
        intro q
        have := x3 (((lo + hi) / 2 : Nat) : Int) (by omega) (by omega)
        omega
  -- the tree's flows are written
  have H136 : ∀ (τ : Mem), ChF σ τ → (∀ e, e ∈ nds (bfs g 0) → τ.2.1 227 e = lN (B e)) → τ.2.1 209 31 = 0 → (∀ p, p < g.1 → τ.1 228 p = 0) → Ws x 0 136 [(0, .ref 209), (1, .int 0)] [] τ := by
    intro τ0 hc0 k1 k2 k3
    refine cnt g.1 (fun k τ => ChF σ τ ∧ (∀ e, e ∈ nds (bfs g 0) → τ.2.1 227 e = lN (B e)) ∧ τ.2.1 209 31 = 0 ∧ (∀ n, n ∈ nds (bfs g 0) → n ≠ 0 → ¬ inT c n → fp (bfs g 0) n < k → τ.1 228 (fp (bfs g 0) n) = zI (sgn g (fp (bfs g 0) n) (fe (bfs g 0) n) (B n))) ∧ (∀ p, p < g.1 → g.2.1 p ∉ nds (bfs g 0) → τ.1 228 p = 0)) (fun k τ => Ws x 0 136 [(0, .ref 209), (1, .int (nI k))] [] τ) ?_ ?_ 0 τ0 (Nat.zero_le _) ⟨hc0, k1, k2, fun n _ _ _ q => absurd q (Nat.not_lt_zero _), fun p hp _ => k3 p hp⟩
    · rintro τ ⟨j1, j2, j3, j4, j5⟩
      have j4' : ∀ n, n ∈ nds (bfs g 0) → n ≠ 0 → ¬ inT c n → τ.1 228 (fp (bfs g 0) n) = zI (sgn g (fp (bfs g 0) n) (fe (bfs g 0) n) (B n)) := fun n hn h0 hnt => j4 n hn h0 hnt (hT.up hn h0).2.2.1
      refine sg_X5_flows_136 C r _ τ ?_
      show (τ.1 210 7 ≤ nI g.1 → _) ∧ (¬ τ.1 210 7 ≤ nI g.1 → _)
      rw [(GM_of hw (hb.ch j1).2.1).1, (hb.ch j1).2.2.2.2.1.1]
      refine ⟨fun _ => ⟨fun q => ?_, fun q => ?_⟩, fun q => absurd (nI_le (Nat.le_refl g.1) (by omega)) q⟩
      · have cpos : 0 < c.1 := by
          apply Nat.pos_of_ne_zero
          intro e
          rw [e] at q
          exact q rfl
        obtain ⟨x0, x1, -, -⟩ := hX cpos
        exact H240 10000 0 10000 τ (by omega) (by omega) (Nat.le_refl _) (by omega) (by omega) j1 cpos j2 j4' j5
      · have c0 : c.1 = 0 := nI_eq (b := 0) (by omega) (by decide) |>.mp q
        exact hK τ j1.1 j1.2.1 j1.2.2 j2 (by rw [j3, if_pos c0]; rfl) ⟨j4', fun k hk => by omega, j5⟩
    · rintro p τ hp ⟨j1, j2, j3, j4, j5⟩ ih
      obtain ⟨w1, w2, w3⟩ := hg.2 p hp
      have hG := GM_of hw (hb.ch j1).2.1
      have hF := (hb.ch j1).2.2.2.1
      have hl := (hb.ch j1).2.2.2.2.1
      obtain ⟨g1, g2⟩ := hG.2 p hp
      refine sg_X5_flows_136 C r _ τ ?_
      show (τ.1 210 7 ≤ nI p → _) ∧ (¬ τ.1 210 7 ≤ nI p → _)
      rw [hG.1]
      refine ⟨fun q => absurd (n_le (by omega) (by omega) q) (by omega), fun _ => i_X5_of (w := 0) (by omega) (i_X5_of (w := 1) (by omega) ?_)⟩
      rw [Nat.add_zero, g1, g2, n_cl (n := g.2.1 p) (by omega), n_cl (n := g.2.2 p) (by omega)]
      have skip : (¬ ∃ n, n ∈ nds (bfs g 0) ∧ n ≠ 0 ∧ ¬ inT c n ∧ fp (bfs g 0) n = p) → ∀ v220 : Int32, v220 = nI p + 1 → Ws x 0 136 [(0, .ref 209), (1, .int v220)] [] τ := fun hno v e => by
        rw [e, nI_1]
        refine ih τ ⟨j1, j2, j3, fun n hn h0 hnt hlt => j4 n hn h0 hnt ?_, j5⟩
        have : fp (bfs g 0) n ≠ p := fun q => hno ⟨n, hn, h0, hnt, q⟩
        omega
      refine ⟨n_inR w1 (by decide), fun q => skip ?_, fun q => ?_⟩
      · rintro ⟨n, n1, n2, n3, n4⟩
        obtain ⟨u1, -, u3, u4⟩ := hT.up n1 n2
        rw [n4] at u4
        have hno := hF _ w1
        rw [hno] at q
        exact (fI_lt10 hT _).mp q (ac_conn hT hg hp u4 u1).1
      · have hcp : g.2.1 p ∈ nds (bfs g 0) := Classical.byContradiction fun w => q (by rw [hF _ w1]; exact (fI_lt10 hT _).mpr w)
        have hcp2 := (ac_conn hT hg hp (ac_ends hg hp).1 hcp).2
        refine i_X5_isLoopPipe hg hT hL hl (by omega) ⟨fun q2 => ?_, fun q2 => skip ?_⟩
        · have hq : ¬ inQ c p := fun w => by rw [if_pos (qB_iff.mpr w)] at q2; exact absurd q2 (by decide)
          obtain ⟨n, n1, n2, n3, n4⟩ := hL.2.2.2.2.2.1 p hp hcp hq
          obtain ⟨u1, u2, u3, u4⟩ := hT.up n1 n2
          rw [n3] at u4
          rw [hF.at hT hcp, hF.at hT hcp2, j2 _ hcp, j2 _ hcp2]
          have d1 := hT.d10 hcp
          have d2 := hT.d10 hcp2
          have put : ∀ (f v : Nat), f < 10 → sgn g p f (v : Int) = sgn g p (fe (bfs g 0) n) (B n : Int) → sp_X5_carries (nI p) (nI f) (lN v) τ (fun σ217 => ∀ v220 : Int32, v220 = nI p + 1 → Ws x 0 136 [(0, .ref 209), (1, .int v220)] [] σ217) X := fun f v hf hs => by
            rw [lN_z]
            refine i_X5_carries hg hG hp hf (fun v220 e220 => ?_)
            rw [e220, nI_1, hs]
            refine ih _ ⟨j1.w228, j2, j3, fun m hm h0 hnt hlt => ?_, fun q hq hcq => ?_⟩
            · rw [wi_i]
              by_cases d : fp (bfs g 0) m = p
              · have : m = n := hT.inj hm n1 h0 n2 (by rw [d, n3])
                rw [if_pos ⟨rfl, d⟩, d, this]
              · rw [if_neg (fun w => d w.2)]; exact j4 m hm h0 hnt (by omega)
            · rw [wi_i, if_neg (fun w => hcq (by rw [w.2]; exact hcp))]; exact j5 q hq hcq
          rcases ac_two u4 (ac_ends hg hp).1 with ⟨z1, z2⟩ | ⟨z1, z2⟩
          · -- one is the feeder
            rw [z1, z2]
            rw [z1] at d1
            rw [z2] at d2
            refine ⟨n_inR (by rw [← z1]; exact w1) (by decide), n_inR (by rw [← z2]; exact w2) (by decide), fun d => absurd (n_le (by omega) (by omega) d) (by omega), fun d => ⟨n_inR (by rw [← z2]; exact w2) (by decide), put _ _ (by rw [← z1]; exact w1) rfl⟩⟩
          · rw [z1, z2]
            rw [z2] at d1
            rw [z1] at d2
            refine ⟨n_inR (by rw [← z2]; exact w1) (by decide), n_inR (by rw [← z1]; exact w2) (by decide), fun d => ⟨n_inR (by rw [← z2]; exact w1) (by decide), put _ _ (by rw [← z1]; exact w2) rfl⟩, fun d => absurd (nI_le (by omega) (by omega)) d⟩
        · rintro ⟨n, n1, n2, n3, n4⟩
          have hq : inQ c p := by
            apply Classical.byContradiction
            intro w
            exact q2 (by rw [if_neg (fun z => w (qB_iff.mp z))])
          exact hL.2.2.2.2.2.2 n n1 n2 n3 (by rw [n4]; exact hq)
  -- what is behind the nodes, the farthest first
  have H31 : ∀ (d : Nat) (τ : Mem), d ≤ 11 → ChF σ τ → τ.2.1 209 31 = 0 → (∀ p, p < g.1 → τ.1 228 p = 0) → (∀ e, e ∈ nds (bfs g 0) → d ≤ di (bfs g 0) e → τ.2.1 227 e = lN (B e)) → Ws x 0 31 [(0, .ref 209), (1, .int (nI d - 1))] [] τ := by
    intro d
    induction d with
    | zero =>
      intro τ _ j1 j2 j3 j4
      refine sg_X5_flows_31 C r _ τ ⟨fun _ => H136 τ j1 (fun e he => j4 e he (Nat.zero_le _)) j2 j3, fun q => absurd (by decide) q⟩
    | succ d ihd =>
      intro τ0 hd j1 j2 j3 j4
      rw [nI_pred]
      refine sg_X5_flows_31 C r _ τ0 ⟨fun q => absurd q (nI_pos (by omega)), fun _ => ?_⟩
      refine cnt 10 (fun k τ => ChF σ τ ∧ τ.2.1 209 31 = 0 ∧ (∀ p, p < g.1 → τ.1 228 p = 0) ∧ (∀ e, e ∈ nds (bfs g 0) → d + 1 ≤ di (bfs g 0) e → τ.2.1 227 e = lN (B e)) ∧ (∀ e, e < k → e ∈ nds (bfs g 0) → di (bfs g 0) e = d → τ.2.1 227 e = lN (B e))) (fun k τ => Ws x 0 37 [(0, .ref 209), (1, .int (nI d)), (2, .int (nI k))] [] τ) ?_ ?_ 0 τ0 (Nat.zero_le _) ⟨j1, j2, j3, j4, fun e he => absurd he (Nat.not_lt_zero e)⟩
      · rintro τ ⟨i1, i2, i3, i4, i5⟩
        refine sg_X5_flows_37 C r _ _ τ ⟨fun _ v128 e128 => ?_, fun q => (lit_lt (by decide) (Nat.le_refl 10) (by decide) q).elim⟩
        have := ihd τ (by omega) i1 i2 i3 (fun e he hde => by
          by_cases q : di (bfs g 0) e = d
          · exact i5 e (hT.lt he) he q
          · exact i4 e he (by omega))
        have em : nI d - 1 = nI d + (-1) := by
          rw [nI_z, show (1 : Int32) = zI 1 from rfl, zI_neg, zI_sub, zI_add]
          rfl
        rw [e128, ← em]
        exact this
      · rintro k τ hk ⟨i1, i2, i3, i4, i5⟩ ih
        refine sg_X5_flows_37 C r _ _ τ ⟨fun q => (lit_ge (by decide) hk q).elim, fun _ => ⟨n_inR hk (by decide), ?_⟩⟩
        have hF := (hb.ch i1).2.2.2.1
        have hl := (hb.ch i1).2.2.2.2.1
        rw [n_cl (n := k) (by omega), hF.eq hT hk (by omega)]
        refine ⟨fun ⟨q1, q2⟩ => hout τ i1 k q1 _ (fun e he hlt => i4 e he (by omega)) ⟨n_inR hk (by decide), fun σ66 e66 => ?_⟩, fun q v122 e122 => ?_⟩
        · have c66 : ChF σ σ66 := by rw [e66]; exact i1.w227
          have hl6 := (hb.ch c66).2.2.2.2.1
          have i26 : σ66.2.1 209 31 = 0 := by rw [e66, wl_l, if_neg (fun q => absurd q.1 (by decide))]; exact i2
          have i36 : ∀ p, p < g.1 → σ66.1 228 p = 0 := fun p hp => by rw [e66]; exact i3 p hp
          have u : ∀ e, σ66.2.1 227 e = if e = k then lN (outF g (bfs g 0) c dr B k) else τ.2.1 227 e := fun e => by
            rw [e66, wl_l]
            by_cases z : e = k
            · rw [if_pos ⟨rfl, z⟩, if_pos z]
            · rw [if_neg (fun q => z q.2), if_neg z]
          have i46 : ∀ e, e ∈ nds (bfs g 0) → d + 1 ≤ di (bfs g 0) e → σ66.2.1 227 e = lN (B e) := fun e he hde => by
            rw [u, if_neg (fun z => by rw [z] at hde; omega)]; exact i4 e he hde
          have fin : ∀ τ' : Mem, ChF σ τ' → τ'.2.1 209 31 = 0 → (∀ p, p < g.1 → τ'.1 228 p = 0) → (∀ e, e ≠ k → τ'.2.1 227 e = τ.2.1 227 e) → τ'.2.1 227 k = lN (B k) → ∀ v122 : Int32, v122 = nI k + 1 → Ws x 0 37 [(0, .ref 209), (1, .int (nI d)), (2, .int v122)] [] τ' := fun τ' l1 l2 l3 l4 l5 v ev => by
            rw [ev, nI_1]
            refine ih τ' ⟨l1, l2, l3, fun e he hde => ?_, fun e hlt he hde => ?_⟩
            · rw [l4 e (fun z => by rw [z] at hde; omega)]; exact i4 e he hde
            · by_cases z : e = k
              · rw [z]; exact l5
              · rw [l4 e z]; exact i5 e (by omega) he hde
          have eBk := hE k q1
          rw [hl6.1]
          refine ⟨fun q => fin σ66 c66 i26 i36 (fun e he => by rw [u, if_neg he]) (by
            have c0 : c.1 = 0 := nI_eq (b := 0) (by omega) (by decide) |>.mp q
            rw [u, if_pos rfl, eBk, if_neg (by omega)]; rfl), fun q => ?_⟩
          have cpos : 0 < c.1 := by
            apply Nat.pos_of_ne_zero
            intro e
            rw [e] at q
            exact q rfl
          rw [(hl6.2 0 cpos).1, nI_e10 (n10 0 cpos) hk]
          refine ⟨fun q3 => ?_, fun q3 => fin σ66 c66 i26 i36 (fun e he => by rw [u, if_neg he]) (by rw [u, if_pos rfl, eBk, if_neg (fun w => q3 w.2)]; rfl)⟩
          rw [if_pos ⟨cpos, q3⟩] at eBk
          have key := cnt c.1 (fun m υ => 1 ≤ m ∧ ChF σ υ ∧ υ.2.1 209 31 = 0 ∧ (∀ p, p < g.1 → υ.1 228 p = 0) ∧ (∀ e, e ≠ k → υ.2.1 227 e = τ.2.1 227 e) ∧ υ.2.1 227 k = lN (outF g (bfs g 0) c dr B k + smN (fun i => if i = 0 then 0 else outF g (bfs g 0) c dr B (c.2.1 i)) m)) (fun m υ => Ws x 0 89 [(0, .ref 209), (1, .int (nI d)), (2, .int (nI k)), (3, .int (nI m))] [] υ)
            (fun υ ⟨l0, l1, l2, l3, l4, l5⟩ => by
              refine sg_X5_flows_89 C r _ _ _ υ ?_
              rw [(hb.ch l1).2.2.2.2.1.1]
              exact ⟨fun _ => fin υ l1 l2 l3 l4 (by rw [l5, eBk]), fun q => absurd (nI_le (Nat.le_refl c.1) (by omega)) q⟩)
            (fun m υ hm ⟨l0, l1, l2, l3, l4, l5⟩ ihm => by
              have hlm := (hb.ch l1).2.2.2.2.1
              refine sg_X5_flows_89 C r _ _ _ υ ?_
              rw [hlm.1, n_cl (n := m) (by omega), (hlm.2 m hm).1, n_cl (n := k) (by omega), l5]
              refine ⟨fun q => absurd (n_le (by omega) (by omega) q) (by omega), fun _ => ⟨n_inR hk (by decide), n_inR (by omega) (by decide), hout υ l1 _ (hL.2.2.2.1 m hm) _ (fun e he hlt => ?_) ⟨n_inR hk (by decide), fun σ115 e115 v116 e116 => ?_⟩⟩⟩
              · have hlt2 := hL.2.2.2.2.1 m (by omega) hm
                rw [q3] at hlt2
                rw [l4 e (fun z => by rw [z] at hlt; omega)]
                exact i4 e he (by omega)
              · rw [e116, nI_1]
                refine ihm σ115 ⟨by omega, by rw [e115]; exact l1.w227, by rw [e115, wl_l, if_neg (fun q => absurd q.1 (by decide))]; exact l2, fun p hp => by rw [e115]; exact l3 p hp, fun e he => by rw [e115, wl_l, if_neg (fun q => he q.2)]; exact l4 e he, ?_⟩
                rw [e115, wl_l, if_pos ⟨rfl, rfl⟩, lN_add]
                have es : smN (fun i => if i = 0 then 0 else outF g (bfs g 0) c dr B (c.2.1 i)) (m + 1) = smN (fun i => if i = 0 then 0 else outF g (bfs g 0) c dr B (c.2.1 i)) m + if m = 0 then 0 else outF g (bfs g 0) c dr B (c.2.1 m) := rfl
                rw [es, if_neg (by omega : ¬ m = 0), Nat.add_assoc]) 1 σ66 (by omega) ⟨Nat.le_refl 1, c66, i26, i36, fun e he => by rw [u, if_neg he], by rw [u, if_pos rfl]; rfl⟩
          exact key
        · rw [e122, nI_1]
          refine ih τ ⟨i1, i2, i3, i4, fun e hlt he hde => ?_⟩
          by_cases z : e = k
          · exact absurd ⟨by rw [← z]; exact he, by rw [← z]; exact hde⟩ q
          · exact i5 e (by omega) he hde
  refine sg_X5_flows_0 C r σ ?_
  refine cnt g.1 (fun k τ => ChF σ τ ∧ ∀ p, p < k → τ.1 228 p = 0) (fun k τ => Ws x 0 2 [(0, .ref 209), (1, .int (nI k))] [] τ) ?_ ?_ 0 σ (Nat.zero_le _) ⟨⟨fun _ _ _ => rfl, fun _ _ _ _ => rfl, rfl⟩, fun p hp => absurd hp (Nat.not_lt_zero p)⟩
  · rintro τ ⟨i1, i2⟩
    refine sg_X5_flows_2 C r _ τ ?_
    show (τ.1 210 7 ≤ nI g.1 → _) ∧ (¬ τ.1 210 7 ≤ nI g.1 → _)
    rw [(GM_of hw (hb.ch i1).2.1).1]
    refine ⟨fun _ σ25 e25 => ?_, fun q => absurd (nI_le (Nat.le_refl g.1) (by omega)) q⟩
    have := H31 11 σ25 (Nat.le_refl _) (by rw [e25]; exact i1.w31) (by rw [e25, wl_l, if_pos ⟨rfl, rfl⟩]) (fun p hp => by rw [e25]; exact i2 p hp) (fun e he hde => by have := hT.d10 he; omega)
    exact this
  · rintro k τ hk ⟨i1, i2⟩ ih
    refine sg_X5_flows_2 C r _ τ ?_
    show (τ.1 210 7 ≤ nI k → _) ∧ (¬ τ.1 210 7 ≤ nI k → _)
    rw [(GM_of hw (hb.ch i1).2.1).1]
    refine ⟨fun q => absurd (n_le (by omega) (by omega) q) (by omega), fun _ => ⟨n_inR (by omega) (by decide), fun σ16 e16 v17 e17 => ?_⟩⟩
    rw [n_cl (by omega)] at e16
    rw [e17, nI_1]
    refine ih σ16 ⟨by rw [e16]; exact i1.w228, fun p hp => ?_⟩
    rw [e16, wi_i]
    by_cases d : p = k
    · rw [if_pos ⟨rfl, d⟩]
    · rw [if_neg (fun q => d q.2)]; exact i2 p (by omega)
theorem ct_X5_flows  (σ : Mem) (K : Mem → Prop) (X : String → Mem → Prop) (h : sp_X5_flows  σ K X) : CtV yX5_flows cX5_flows 8 none 5 0 [.ref 209] σ K X :=
  ctV_of (by decide +kernel) (Nat.le_of_ble_eq_true rfl) (fun x C r => vc_X5_flows C r  σ h)
