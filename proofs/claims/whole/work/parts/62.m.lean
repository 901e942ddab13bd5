/-! HeatNetworkModel.headOf(I)J: level 3, exceptions 0 -/
def sp_X5_headOf (p0 : Int32) (σ : Mem) (K : Int64 → Mem → Prop) (X : String → Mem → Prop) : Prop := ∃ (w : Nat → Int32) (g : Gr) (c : Lp) (R : Nat) (dr B T S : Nat → Nat) (z : Int) (f : Nat → Int32) (n : Nat), WFw w g ∧ (∀ k, k < 108 → σ.1 210 k = w k) ∧ LPo g (bfs g 0) c ∧ LkB w g c dr B T S z f ∧ ReF w g c R dr B T S z f σ ∧ p0 = nI n ∧ n ∈ nds (bfs g 0) ∧ K (zL (hdN w (bfs g 0) c B (lf g (bfs g 0) c dr B z) n)) σ
set_option maxRecDepth 4000 in
theorem sg_X5_headOf_0 {x : Ctx} {K : Int64 → Mem → Prop} {X : String → Mem → Prop} (C : Cx x RX5 cX5_headOf 9) (r : RtL x 3 0 (some .long) K X) (p0 : Int32)  (σ : Mem) (h : Ws x 0 5 [(0, .ref 209), (2, .long 0), (4, .int p0)] [] σ) : Ws x 0 0 [(0, .ref 209), (1, .int p0)] [] σ := by
  refine r_lconst C 1 (v := 0) dX5_headOf_0 rfl rfl ?_
  refine r_lstore_n C 2 [(2, .long 0), (0, .ref 209), (1, .int p0)] dX5_headOf_1 rfl (by decide) rfl ?_
  refine r_iload_n (j := 2) C 3 dX5_headOf_2 rfl rfl ?_
  refine r_istore C 5 [(4, .int p0), (2, .long 0), (0, .ref 209), (1, .int p0)] dX5_headOf_3 rfl (by decide) rfl ?_
  exact Ws_pick [2, 1, 0] rfl h
set_option maxRecDepth 4000 in
theorem sg_X5_headOf_5 {x : Ctx} {K : Int64 → Mem → Prop} {X : String → Mem → Prop} (C : Cx x RX5 cX5_headOf 9) (r : RtL x 3 0 (some .long) K X) (l2 : Int64) (i4 : Int32)  (σ : Mem) (h : (i4 = 0 → K l2 σ) ∧ (¬ i4 = 0 → Ws x 0 13 [(0, .ref 209), (2, .long l2), (4, .int i4), (5, .int 0)] [] σ)) : Ws x 0 5 [(0, .ref 209), (2, .long l2), (4, .int i4)] [] σ := by
  refine r_iload (j := 2) C 7 dX5_headOf_5 rfl rfl ?_
  refine r_if_eq C 278 10 dX5_headOf_7 (by decide) rfl (fun c7 => ?_) (fun c7 => ?_)
  · have h := h.1 c7
    refine r_lload_n (j := 1) C 279 dX5_headOf_278 rfl rfl ?_
    exact r_lret (S := []) C r dX5_headOf_279 (by decide) h
  · have h := h.2 c7
    refine r_iconst C 11 (v := 0) dX5_headOf_10 rfl (by decide) ?_
    refine r_istore C 13 [(5, .int 0), (0, .ref 209), (2, .long l2), (4, .int i4)] dX5_headOf_11 rfl (by decide) rfl ?_
    exact Ws_pick [1, 2, 3, 0] rfl h
set_option maxRecDepth 4000 in
theorem sg_X5_headOf_13 {x : Ctx} {K : Int64 → Mem → Prop} {X : String → Mem → Prop} (C : Cx x RX5 cX5_headOf 9) (r : RtL x 3 0 (some .long) K X) (l2 : Int64) (i4 : Int32) (i5 : Int32)  (σ : Mem) (h : ((σ.1 209 22) ≤ i5 → (i5 ≤ 0 → Ws x 0 153 [(0, .ref 209), (2, .long l2), (4, .int i4), (6, .int (-1)), (7, .int 0)] [] σ) ∧ (¬ i5 ≤ 0 → ((σ.1 209 22) ≤ i5 → Ws x 0 153 [(0, .ref 209), (2, .long l2), (4, .int i4), (6, .int (-1)), (7, .int 0)] [] σ) ∧ (¬ (σ.1 209 22) ≤ i5 → Ws x 0 57 [(0, .ref 209), (2, .long l2), (5, .int i5), (6, .int 0)] [] σ))) ∧ (¬ (σ.1 209 22) ≤ i5 → (vp_in i5 10) ∧ (((σ.1 223 i5.toNatClampNeg) = i4 → (i5 ≤ 0 → Ws x 0 153 [(0, .ref 209), (2, .long l2), (4, .int i4), (6, .int (-1)), (7, .int 0)] [] σ) ∧ (¬ i5 ≤ 0 → ((σ.1 209 22) ≤ i5 → Ws x 0 153 [(0, .ref 209), (2, .long l2), (4, .int i4), (6, .int (-1)), (7, .int 0)] [] σ) ∧ (¬ (σ.1 209 22) ≤ i5 → Ws x 0 57 [(0, .ref 209), (2, .long l2), (5, .int i5), (6, .int 0)] [] σ))) ∧ (¬ (σ.1 223 i5.toNatClampNeg) = i4 → ∀ v34 : Int32, v34 = i5 + 1 → Ws x 0 13 [(0, .ref 209), (2, .long l2), (4, .int i4), (5, .int v34)] [] σ)))) : Ws x 0 13 [(0, .ref 209), (2, .long l2), (4, .int i4), (5, .int i5)] [] σ := by
  refine r_iload (j := 3) C 15 dX5_headOf_13 rfl rfl ?_
  refine r_aload_n (j := 0) C 16 dX5_headOf_15 rfl rfl ?_
  refine r_get (k := 22) C cl7 19 dX5_headOf_16 rfl kd_209 (by decide) wd_1234 (.int (σ.1 209 22)) (fun _ => rfl) ?_
  refine r_icmp_ge C 40 22 dX5_headOf_19 (by decide) rfl (fun c19 => ?_) (fun c19 => ?_)
  · have h := h.1 c19
    refine r_iload (j := 3) C 42 dX5_headOf_40 rfl rfl ?_
    refine r_if_le C 147 45 dX5_headOf_42 (by decide) rfl (fun c42 => ?_) (fun c42 => ?_)
    · have h := h.1 c42
      refine r_iconst C 148 (v := (-1)) dX5_headOf_147 rfl (by decide) ?_
      refine r_istore C 150 [(6, .int (-1)), (0, .ref 209), (2, .long l2), (4, .int i4), (5, .int i5)] dX5_headOf_148 rfl (by decide) rfl ?_
      refine r_iconst C 151 (v := 0) dX5_headOf_150 rfl (by decide) ?_
      refine r_istore C 153 [(7, .int 0), (6, .int (-1)), (0, .ref 209), (2, .long l2), (4, .int i4), (5, .int i5)] dX5_headOf_151 rfl (by decide) rfl ?_
      exact Ws_pick [2, 3, 4, 1, 0] rfl h
    · have h := h.2 c42
      refine r_iload (j := 3) C 47 dX5_headOf_45 rfl rfl ?_
      refine r_aload_n (j := 0) C 48 dX5_headOf_47 rfl rfl ?_
      refine r_get (k := 22) C cl7 51 dX5_headOf_48 rfl kd_209 (by decide) wd_1234 (.int (σ.1 209 22)) (fun _ => rfl) ?_
      refine r_icmp_ge C 147 54 dX5_headOf_51 (by decide) rfl (fun c51 => ?_) (fun c51 => ?_)
      · have h := h.1 c51
        refine r_iconst C 148 (v := (-1)) dX5_headOf_147 rfl (by decide) ?_
        refine r_istore C 150 [(6, .int (-1)), (0, .ref 209), (2, .long l2), (4, .int i4), (5, .int i5)] dX5_headOf_148 rfl (by decide) rfl ?_
        refine r_iconst C 151 (v := 0) dX5_headOf_150 rfl (by decide) ?_
        refine r_istore C 153 [(7, .int 0), (6, .int (-1)), (0, .ref 209), (2, .long l2), (4, .int i4), (5, .int i5)] dX5_headOf_151 rfl (by decide) rfl ?_
        exact Ws_pick [2, 3, 4, 1, 0] rfl h
      · have h := h.2 c51
        refine r_iconst C 55 (v := 0) dX5_headOf_54 rfl (by decide) ?_
        refine r_istore C 57 [(6, .int 0), (0, .ref 209), (2, .long l2), (4, .int i4), (5, .int i5)] dX5_headOf_55 rfl (by decide) rfl ?_
        exact Ws_pick [1, 2, 4, 0] rfl h
  · have h := h.2 c19
    refine r_aload_n (j := 0) C 23 dX5_headOf_22 rfl rfl ?_
    refine r_get (k := 20) C cl7 26 dX5_headOf_23 rfl kd_209 (by decide) wd_1232 (.ref 223) (fun _ => rfl) ?_
    refine r_iload (j := 3) C 28 dX5_headOf_26 rfl rfl ?_
    obtain ⟨o28, h⟩ := h
    refine r_iald C 29 dX5_headOf_28 rfl kd_223 o28 ?_
    refine r_iload (j := 2) C 31 dX5_headOf_29 rfl rfl ?_
    refine r_icmp_eq C 40 34 dX5_headOf_31 (by decide) rfl (fun c31 => ?_) (fun c31 => ?_)
    · have h := h.1 c31
      refine r_iload (j := 3) C 42 dX5_headOf_40 rfl rfl ?_
      refine r_if_le C 147 45 dX5_headOf_42 (by decide) rfl (fun c42 => ?_) (fun c42 => ?_)
      · have h := h.1 c42
        refine r_iconst C 148 (v := (-1)) dX5_headOf_147 rfl (by decide) ?_
        refine r_istore C 150 [(6, .int (-1)), (0, .ref 209), (2, .long l2), (4, .int i4), (5, .int i5)] dX5_headOf_148 rfl (by decide) rfl ?_
        refine r_iconst C 151 (v := 0) dX5_headOf_150 rfl (by decide) ?_
        refine r_istore C 153 [(7, .int 0), (6, .int (-1)), (0, .ref 209), (2, .long l2), (4, .int i4), (5, .int i5)] dX5_headOf_151 rfl (by decide) rfl ?_
        exact Ws_pick [2, 3, 4, 1, 0] rfl h
      · have h := h.2 c42
        refine r_iload (j := 3) C 47 dX5_headOf_45 rfl rfl ?_
        refine r_aload_n (j := 0) C 48 dX5_headOf_47 rfl rfl ?_
        refine r_get (k := 22) C cl7 51 dX5_headOf_48 rfl kd_209 (by decide) wd_1234 (.int (σ.1 209 22)) (fun _ => rfl) ?_
        refine r_icmp_ge C 147 54 dX5_headOf_51 (by decide) rfl (fun c51 => ?_) (fun c51 => ?_)
        · have h := h.1 c51
          refine r_iconst C 148 (v := (-1)) dX5_headOf_147 rfl (by decide) ?_
          refine r_istore C 150 [(6, .int (-1)), (0, .ref 209), (2, .long l2), (4, .int i4), (5, .int i5)] dX5_headOf_148 rfl (by decide) rfl ?_
          refine r_iconst C 151 (v := 0) dX5_headOf_150 rfl (by decide) ?_
          refine r_istore C 153 [(7, .int 0), (6, .int (-1)), (0, .ref 209), (2, .long l2), (4, .int i4), (5, .int i5)] dX5_headOf_151 rfl (by decide) rfl ?_
          exact Ws_pick [2, 3, 4, 1, 0] rfl h
        · have h := h.2 c51
          refine r_iconst C 55 (v := 0) dX5_headOf_54 rfl (by decide) ?_
          refine r_istore C 57 [(6, .int 0), (0, .ref 209), (2, .long l2), (4, .int i4), (5, .int i5)] dX5_headOf_55 rfl (by decide) rfl ?_
          exact Ws_pick [1, 2, 4, 0] rfl h
    · have h := h.2 c31
      obtain ⟨v34, e34⟩ : ∃ y : Int32, y = i5 + 1 := ⟨_, rfl⟩
      have h := h v34 e34
      refine r_iinc (j := 3) C 37 [(5, .int v34), (0, .ref 209), (2, .long l2), (4, .int i4)] dX5_headOf_34 rfl rfl (by rw [e34]; rfl) (by decide) rfl ?_
      refine r_goto C 13 dX5_headOf_37 (by decide) ?_
      exact Ws_pick [1, 2, 3, 0] rfl h
set_option maxRecDepth 4000 in
theorem sg_X5_headOf_57 {x : Ctx} {K : Int64 → Mem → Prop} {X : String → Mem → Prop} (C : Cx x RX5 cX5_headOf 9) (r : RtL x 3 0 (some .long) K X) (l2 : Int64) (i5 : Int32) (i6 : Int32)  (σ : Mem) (h : (i5 ≤ i6 → ∀ v142 : Int32, v142 = (σ.1 223 0) → Ws x 0 5 [(0, .ref 209), (2, .long l2), (4, .int v142)] [] σ) ∧ (¬ i5 ≤ i6 → (vp_in i6 10) ∧ ((vp_in i6 10) ∧ (sp_X5_of (σ.1 224 i6.toNatClampNeg) 0 σ (fun r82 σ82 => (vp_in i6 10) ∧ ((¬ r82 = (σ82.1 223 i6.toNatClampNeg) → (vp_in i6 10) ∧ ((vp_in (σ82.1 224 i6.toNatClampNeg) 10) ∧ (sp_X5_drop (σ.1 224 i6.toNatClampNeg) ((-(σ82.1 228 ((σ82.1 224 i6.toNatClampNeg)).toNatClampNeg))).toInt64 σ82 (fun r125 σ125 => ∀ v129 : Int64, v129 = (l2 + r125) → ∀ v130 : Int32, v130 = i6 + 1 → Ws x 0 57 [(0, .ref 209), (2, .long v129), (5, .int i5), (6, .int v130)] [] σ125) X))) ∧ (r82 = (σ82.1 223 i6.toNatClampNeg) → (vp_in i6 10) ∧ ((vp_in (σ82.1 224 i6.toNatClampNeg) 10) ∧ (sp_X5_drop (σ.1 224 i6.toNatClampNeg) ((σ82.1 228 ((σ82.1 224 i6.toNatClampNeg)).toNatClampNeg)).toInt64 σ82 (fun r125 σ125 => ∀ v129 : Int64, v129 = (l2 + r125) → ∀ v130 : Int32, v130 = i6 + 1 → Ws x 0 57 [(0, .ref 209), (2, .long v129), (5, .int i5), (6, .int v130)] [] σ125) X))))) X)))) : Ws x 0 57 [(0, .ref 209), (2, .long l2), (5, .int i5), (6, .int i6)] [] σ := by
  refine r_iload (j := 3) C 59 dX5_headOf_57 rfl rfl ?_
  refine r_iload (j := 2) C 61 dX5_headOf_59 rfl rfl ?_
  refine r_icmp_ge C 136 64 dX5_headOf_61 (by decide) rfl (fun c61 => ?_) (fun c61 => ?_)
  · have h := h.1 c61
    refine r_aload_n (j := 0) C 137 dX5_headOf_136 rfl rfl ?_
    refine r_get (k := 20) C cl7 140 dX5_headOf_137 rfl kd_209 (by decide) wd_1232 (.ref 223) (fun _ => rfl) ?_
    refine r_iconst C 141 (v := 0) dX5_headOf_140 rfl (by decide) ?_
    refine r_iald C 142 dX5_headOf_141 rfl kd_223 (n_inR (n := 0) (by decide) (by decide)) ?_
    refine r_nmI (fun v142 e142 => ?_)
    have h := h v142 e142
    refine r_istore C 144 [(4, .int v142), (0, .ref 209), (2, .long l2), (5, .int i5), (6, .int i6)] dX5_headOf_142 rfl (by decide) rfl ?_
    refine r_goto C 5 dX5_headOf_144 (by decide) ?_
    exact Ws_pick [1, 2, 0] rfl h
  · have h := h.2 c61
    refine r_lload_n (j := 1) C 65 dX5_headOf_64 rfl rfl ?_
    refine r_aload_n (j := 0) C 66 dX5_headOf_65 rfl rfl ?_
    refine r_aload_n (j := 0) C 67 dX5_headOf_66 rfl rfl ?_
    refine r_get (k := 21) C cl7 70 dX5_headOf_67 rfl kd_209 (by decide) wd_1233 (.ref 224) (fun _ => rfl) ?_
    refine r_iload (j := 3) C 72 dX5_headOf_70 rfl rfl ?_
    obtain ⟨o72, h⟩ := h
    refine r_iald C 73 dX5_headOf_72 rfl kd_224 o72 ?_
    refine r_aload_n (j := 0) C 74 dX5_headOf_73 rfl rfl ?_
    refine r_aload_n (j := 0) C 75 dX5_headOf_74 rfl rfl ?_
    refine r_get (k := 21) C cl7 78 dX5_headOf_75 rfl kd_209 (by decide) wd_1233 (.ref 224) (fun _ => rfl) ?_
    refine r_iload (j := 3) C 80 dX5_headOf_78 rfl rfl ?_
    obtain ⟨o80, h⟩ := h
    refine r_iald C 81 dX5_headOf_80 rfl kd_224 o80 ?_
    refine r_iconst C 82 (v := 0) dX5_headOf_81 rfl (by decide) ?_
    refine r_cVI (as := [.int (σ.1 224 i6.toNatClampNeg), .int 0]) (S := [.int (σ.1 224 i6.toNatClampNeg), .ref 209, .long l2]) C r.px 85 (ct_X5_of _ _ _ _ _ h) dX5_headOf_82 rfl cl7 kd_209 wd_47 wd_1368 rfl wd_1366 wd_1369 wd_95 yd_X5_of ⟨Nat.le_of_ble_eq_true rfl, Nat.le_of_ble_eq_true rfl⟩ (Nat.le_of_ble_eq_true rfl) (by decide) (fun r82 σ82 h => ?_)
    refine r_aload_n (j := 0) C 86 dX5_headOf_85 rfl rfl ?_
    refine r_get (k := 20) C cl7 89 dX5_headOf_86 rfl kd_209 (by decide) wd_1232 (.ref 223) (fun _ => rfl) ?_
    refine r_iload (j := 3) C 91 dX5_headOf_89 rfl rfl ?_
    obtain ⟨o91, h⟩ := h
    refine r_iald C 92 dX5_headOf_91 rfl kd_223 o91 ?_
    refine r_icmp_ne C 111 95 dX5_headOf_92 (by decide) rfl (fun c92 => ?_) (fun c92 => ?_)
    · have h := h.1 c92
      refine r_aload_n (j := 0) C 112 dX5_headOf_111 rfl rfl ?_
      refine r_get (k := 26) C cl7 115 dX5_headOf_112 rfl kd_209 (by decide) wd_1238 (.ref 228) (fun _ => rfl) ?_
      refine r_aload_n (j := 0) C 116 dX5_headOf_115 rfl rfl ?_
      refine r_get (k := 21) C cl7 119 dX5_headOf_116 rfl kd_209 (by decide) wd_1233 (.ref 224) (fun _ => rfl) ?_
      refine r_iload (j := 3) C 121 dX5_headOf_119 rfl rfl ?_
      obtain ⟨o121, h⟩ := h
      refine r_iald C 122 dX5_headOf_121 rfl kd_224 o121 ?_
      obtain ⟨o122, h⟩ := h
      refine r_iald C 123 dX5_headOf_122 rfl kd_228 o122 ?_
      refine r_ineg C 124 dX5_headOf_123 rfl ?_
      refine r_i2l C 125 dX5_headOf_124 rfl ?_
      refine r_cVL (as := [.int (σ.1 224 i6.toNatClampNeg), .long ((-(σ82.1 228 ((σ82.1 224 i6.toNatClampNeg)).toNatClampNeg))).toInt64]) (S := [.long l2]) C r.px 128 (ct_X5_drop _ _ _ _ _ h) dX5_headOf_125 rfl cl7 kd_209 wd_65 wd_1468 rfl wd_1466 wd_1469 wd_95 yd_X5_drop ⟨Nat.le_of_ble_eq_true rfl, Nat.le_of_ble_eq_true rfl⟩ (Nat.le_of_ble_eq_true rfl) (by decide) (fun r125 σ125 h => ?_)
      refine r_ladd C 129 dX5_headOf_128 rfl ?_
      refine r_nmL (fun v129 e129 => ?_)
      have h := h v129 e129
      refine r_lstore_n C 130 [(2, .long v129), (0, .ref 209), (5, .int i5), (6, .int i6)] dX5_headOf_129 rfl (by decide) rfl ?_
      obtain ⟨v130, e130⟩ : ∃ y : Int32, y = i6 + 1 := ⟨_, rfl⟩
      have h := h v130 e130
      refine r_iinc (j := 3) C 133 [(6, .int v130), (2, .long v129), (0, .ref 209), (5, .int i5)] dX5_headOf_130 rfl rfl (by rw [e130]; rfl) (by decide) rfl ?_
      refine r_goto C 57 dX5_headOf_133 (by decide) ?_
      exact Ws_pick [2, 1, 3, 0] rfl h
    · have h := h.2 c92
      refine r_aload_n (j := 0) C 96 dX5_headOf_95 rfl rfl ?_
      refine r_get (k := 26) C cl7 99 dX5_headOf_96 rfl kd_209 (by decide) wd_1238 (.ref 228) (fun _ => rfl) ?_
      refine r_aload_n (j := 0) C 100 dX5_headOf_99 rfl rfl ?_
      refine r_get (k := 21) C cl7 103 dX5_headOf_100 rfl kd_209 (by decide) wd_1233 (.ref 224) (fun _ => rfl) ?_
      refine r_iload (j := 3) C 105 dX5_headOf_103 rfl rfl ?_
      obtain ⟨o105, h⟩ := h
      refine r_iald C 106 dX5_headOf_105 rfl kd_224 o105 ?_
      obtain ⟨o106, h⟩ := h
      refine r_iald C 107 dX5_headOf_106 rfl kd_228 o106 ?_
      refine r_i2l C 108 dX5_headOf_107 rfl ?_
      refine r_goto C 125 dX5_headOf_108 (by decide) ?_
      refine r_cVL (as := [.int (σ.1 224 i6.toNatClampNeg), .long ((σ82.1 228 ((σ82.1 224 i6.toNatClampNeg)).toNatClampNeg)).toInt64]) (S := [.long l2]) C r.px 128 (ct_X5_drop _ _ _ _ _ h) dX5_headOf_125 rfl cl7 kd_209 wd_65 wd_1468 rfl wd_1466 wd_1469 wd_95 yd_X5_drop ⟨Nat.le_of_ble_eq_true rfl, Nat.le_of_ble_eq_true rfl⟩ (Nat.le_of_ble_eq_true rfl) (by decide) (fun r125 σ125 h => ?_)
      refine r_ladd C 129 dX5_headOf_128 rfl ?_
      refine r_nmL (fun v129 e129 => ?_)
      have h := h v129 e129
      refine r_lstore_n C 130 [(2, .long v129), (0, .ref 209), (5, .int i5), (6, .int i6)] dX5_headOf_129 rfl (by decide) rfl ?_
      obtain ⟨v130, e130⟩ : ∃ y : Int32, y = i6 + 1 := ⟨_, rfl⟩
      have h := h v130 e130
      refine r_iinc (j := 3) C 133 [(6, .int v130), (2, .long v129), (0, .ref 209), (5, .int i5)] dX5_headOf_130 rfl rfl (by rw [e130]; rfl) (by decide) rfl ?_
      refine r_goto C 57 dX5_headOf_133 (by decide) ?_
      exact Ws_pick [2, 1, 3, 0] rfl h
set_option maxRecDepth 4000 in
theorem sg_X5_headOf_153 {x : Ctx} {K : Int64 → Mem → Prop} {X : String → Mem → Prop} (C : Cx x RX5 cX5_headOf 9) (r : RtL x 3 0 (some .long) K X) (l2 : Int64) (i4 : Int32) (i6 : Int32) (i7 : Int32)  (σ : Mem) (h : sp_X5_pipes  σ (fun r156 σ156 => (r156 ≤ i7 → Ws x 0 5 [(0, .ref 209), (2, .long l2), (4, .int i6)] [] σ156) ∧ (¬ r156 ≤ i7 → sp_X5_across i7 i4 σ156 (fun r167 σ167 => (r167 < 0 → ∀ v265 : Int32, v265 = i7 + 1 → Ws x 0 153 [(0, .ref 209), (2, .long l2), (4, .int i4), (6, .int i6), (7, .int v265)] [] σ167) ∧ (¬ r167 < 0 → sp_X5_isLoopPipe i7 σ167 (fun r180 σ180 => (¬ r180 = 0 → ∀ v265 : Int32, v265 = i7 + 1 → Ws x 0 153 [(0, .ref 209), (2, .long l2), (4, .int i4), (6, .int i6), (7, .int v265)] [] σ180) ∧ (r180 = 0 → (vp_in r167 10) ∧ ((vp_in i4 10) ∧ (((σ180.1 219 r167.toNatClampNeg) < (σ180.1 219 i4.toNatClampNeg) → (vp_in i7 10) ∧ ((¬ (σ180.1 228 i7.toNatClampNeg) = 0 → sp_X5_of i7 0 σ180 (fun r232 σ232 => (¬ r232 = r167 → (vp_in i7 10) ∧ (sp_X5_drop i7 ((-(σ232.1 228 i7.toNatClampNeg))).toInt64 σ232 (fun r260 σ260 => ∀ v264 : Int64, v264 = (l2 + r260) → ∀ v265 : Int32, v265 = i7 + 1 → Ws x 0 153 [(0, .ref 209), (2, .long v264), (4, .int i4), (6, .int r167), (7, .int v265)] [] σ260) X)) ∧ (r232 = r167 → (vp_in i7 10) ∧ (sp_X5_drop i7 ((σ232.1 228 i7.toNatClampNeg)).toInt64 σ232 (fun r260 σ260 => ∀ v264 : Int64, v264 = (l2 + r260) → ∀ v265 : Int32, v265 = i7 + 1 → Ws x 0 153 [(0, .ref 209), (2, .long v264), (4, .int i4), (6, .int r167), (7, .int v265)] [] σ260) X))) X) ∧ ((σ180.1 228 i7.toNatClampNeg) = 0 → sp_X5_drop i7 0 σ180 (fun r260 σ260 => ∀ v264 : Int64, v264 = (l2 + r260) → ∀ v265 : Int32, v265 = i7 + 1 → Ws x 0 153 [(0, .ref 209), (2, .long v264), (4, .int i4), (6, .int r167), (7, .int v265)] [] σ260) X))) ∧ (¬ (σ180.1 219 r167.toNatClampNeg) < (σ180.1 219 i4.toNatClampNeg) → ∀ v265 : Int32, v265 = i7 + 1 → Ws x 0 153 [(0, .ref 209), (2, .long l2), (4, .int i4), (6, .int i6), (7, .int v265)] [] σ180))))) X)) X)) X) : Ws x 0 153 [(0, .ref 209), (2, .long l2), (4, .int i4), (6, .int i6), (7, .int i7)] [] σ := by
  refine r_iload (j := 4) C 155 dX5_headOf_153 rfl rfl ?_
  refine r_aload_n (j := 0) C 156 dX5_headOf_155 rfl rfl ?_
  refine r_cVI (as := []) (S := [.int i7]) C r.px 159 (ct_X5_pipes  _ _ _ h) dX5_headOf_156 rfl cl7 kd_209 wd_45 wd_1360 rfl wd_1358 wd_1361 wd_95 yd_X5_pipes ⟨Nat.le_of_ble_eq_true rfl, Nat.le_of_ble_eq_true rfl⟩ (Nat.le_of_ble_eq_true rfl) (by decide) (fun r156 σ156 h => ?_)
  refine r_icmp_ge C 271 162 dX5_headOf_159 (by decide) rfl (fun c159 => ?_) (fun c159 => ?_)
  · have h := h.1 c159
    refine r_iload (j := 3) C 273 dX5_headOf_271 rfl rfl ?_
    refine r_istore C 275 [(4, .int i6), (0, .ref 209), (2, .long l2), (6, .int i6), (7, .int i7)] dX5_headOf_273 rfl (by decide) rfl ?_
    refine r_goto C 5 dX5_headOf_275 (by decide) ?_
    exact Ws_pick [1, 2, 0] rfl h
  · have h := h.2 c159
    refine r_aload_n (j := 0) C 163 dX5_headOf_162 rfl rfl ?_
    refine r_iload (j := 4) C 165 dX5_headOf_163 rfl rfl ?_
    refine r_iload (j := 2) C 167 dX5_headOf_165 rfl rfl ?_
    refine r_cVI (as := [.int i7, .int i4]) (S := []) C r.px 170 (ct_X5_across _ _ _ _ _ h) dX5_headOf_167 rfl cl7 kd_209 wd_46 wd_1364 rfl wd_1362 wd_1365 wd_95 yd_X5_across ⟨Nat.le_of_ble_eq_true rfl, Nat.le_of_ble_eq_true rfl⟩ (Nat.le_of_ble_eq_true rfl) (by decide) (fun r167 σ167 h => ?_)
    refine r_istore C 172 [(8, .int r167), (0, .ref 209), (2, .long l2), (4, .int i4), (6, .int i6), (7, .int i7)] dX5_headOf_170 rfl (by decide) rfl ?_
    refine r_iload (j := 0) C 174 dX5_headOf_172 rfl rfl ?_
    refine r_if_lt C 265 177 dX5_headOf_174 (by decide) rfl (fun c174 => ?_) (fun c174 => ?_)
    · have h := h.1 c174
      obtain ⟨v265, e265⟩ : ∃ y : Int32, y = i7 + 1 := ⟨_, rfl⟩
      have h := h v265 e265
      refine r_iinc (j := 5) C 268 [(7, .int v265), (8, .int r167), (0, .ref 209), (2, .long l2), (4, .int i4), (6, .int i6)] dX5_headOf_265 rfl rfl (by rw [e265]; rfl) (by decide) rfl ?_
      refine r_goto C 153 dX5_headOf_268 (by decide) ?_
      exact Ws_pick [2, 3, 4, 5, 0] rfl h
    · have h := h.2 c174
      refine r_aload_n (j := 1) C 178 dX5_headOf_177 rfl rfl ?_
      refine r_iload (j := 5) C 180 dX5_headOf_178 rfl rfl ?_
      refine r_cVI (as := [.int i7]) (S := []) C r.px 183 (ct_X5_isLoopPipe _ _ _ _ h) dX5_headOf_180 rfl cl7 kd_209 wd_62 wd_1454 rfl wd_1452 wd_1455 wd_95 yd_X5_isLoopPipe ⟨Nat.le_of_ble_eq_true rfl, Nat.le_of_ble_eq_true rfl⟩ (Nat.le_of_ble_eq_true rfl) (by decide) (fun r180 σ180 h => ?_)
      refine r_if_ne C 265 186 dX5_headOf_183 (by decide) rfl (fun c183 => ?_) (fun c183 => ?_)
      · have h := h.1 c183
        obtain ⟨v265, e265⟩ : ∃ y : Int32, y = i7 + 1 := ⟨_, rfl⟩
        have h := h v265 e265
        refine r_iinc (j := 5) C 268 [(7, .int v265), (8, .int r167), (0, .ref 209), (2, .long l2), (4, .int i4), (6, .int i6)] dX5_headOf_265 rfl rfl (by rw [e265]; rfl) (by decide) rfl ?_
        refine r_goto C 153 dX5_headOf_268 (by decide) ?_
        exact Ws_pick [2, 3, 4, 5, 0] rfl h
      · have h := h.2 c183
        refine r_aload_n (j := 1) C 187 dX5_headOf_186 rfl rfl ?_
        refine r_get (k := 16) C cl7 190 dX5_headOf_187 rfl kd_209 (by decide) wd_1228 (.ref 219) (fun _ => rfl) ?_
        refine r_iload (j := 0) C 192 dX5_headOf_190 rfl rfl ?_
        obtain ⟨o192, h⟩ := h
        refine r_iald C 193 dX5_headOf_192 rfl kd_219 o192 ?_
        refine r_aload_n (j := 1) C 194 dX5_headOf_193 rfl rfl ?_
        refine r_get (k := 16) C cl7 197 dX5_headOf_194 rfl kd_209 (by decide) wd_1228 (.ref 219) (fun _ => rfl) ?_
        refine r_iload (j := 3) C 199 dX5_headOf_197 rfl rfl ?_
        obtain ⟨o199, h⟩ := h
        refine r_iald C 200 dX5_headOf_199 rfl kd_219 o199 ?_
        refine r_icmp_lt C 206 203 dX5_headOf_200 (by decide) rfl (fun c200 => ?_) (fun c200 => ?_)
        · have h := h.1 c200
          refine r_iload (j := 0) C 208 dX5_headOf_206 rfl rfl ?_
          refine r_istore C 210 [(6, .int r167), (8, .int r167), (0, .ref 209), (2, .long l2), (4, .int i4), (7, .int i7)] dX5_headOf_208 rfl (by decide) rfl ?_
          refine r_lload_n (j := 3) C 211 dX5_headOf_210 rfl rfl ?_
          refine r_aload_n (j := 2) C 212 dX5_headOf_211 rfl rfl ?_
          refine r_iload (j := 5) C 214 dX5_headOf_212 rfl rfl ?_
          refine r_aload_n (j := 2) C 215 dX5_headOf_214 rfl rfl ?_
          refine r_get (k := 26) C cl7 218 dX5_headOf_215 rfl kd_209 (by decide) wd_1238 (.ref 228) (fun _ => rfl) ?_
          refine r_iload (j := 5) C 220 dX5_headOf_218 rfl rfl ?_
          obtain ⟨o220, h⟩ := h
          refine r_iald C 221 dX5_headOf_220 rfl kd_228 o220 ?_
          refine r_if_ne C 228 224 dX5_headOf_221 (by decide) rfl (fun c221 => ?_) (fun c221 => ?_)
          · have h := h.1 c221
            refine r_aload_n (j := 2) C 229 dX5_headOf_228 rfl rfl ?_
            refine r_iload (j := 5) C 231 dX5_headOf_229 rfl rfl ?_
            refine r_iconst C 232 (v := 0) dX5_headOf_231 rfl (by decide) ?_
            refine r_cVI (as := [.int i7, .int 0]) (S := [.int i7, .ref 209, .long l2]) C r.px 235 (ct_X5_of _ _ _ _ _ h) dX5_headOf_232 rfl cl7 kd_209 wd_47 wd_1368 rfl wd_1366 wd_1369 wd_95 yd_X5_of ⟨Nat.le_of_ble_eq_true rfl, Nat.le_of_ble_eq_true rfl⟩ (Nat.le_of_ble_eq_true rfl) (by decide) (fun r232 σ232 h => ?_)
            refine r_iload (j := 1) C 237 dX5_headOf_235 rfl rfl ?_
            refine r_icmp_ne C 251 240 dX5_headOf_237 (by decide) rfl (fun c237 => ?_) (fun c237 => ?_)
            · have h := h.1 c237
              refine r_aload_n (j := 2) C 252 dX5_headOf_251 rfl rfl ?_
              refine r_get (k := 26) C cl7 255 dX5_headOf_252 rfl kd_209 (by decide) wd_1238 (.ref 228) (fun _ => rfl) ?_
              refine r_iload (j := 5) C 257 dX5_headOf_255 rfl rfl ?_
              obtain ⟨o257, h⟩ := h
              refine r_iald C 258 dX5_headOf_257 rfl kd_228 o257 ?_
              refine r_ineg C 259 dX5_headOf_258 rfl ?_
              refine r_i2l C 260 dX5_headOf_259 rfl ?_
              refine r_cVL (as := [.int i7, .long ((-(σ232.1 228 i7.toNatClampNeg))).toInt64]) (S := [.long l2]) C r.px 263 (ct_X5_drop _ _ _ _ _ h) dX5_headOf_260 rfl cl7 kd_209 wd_65 wd_1468 rfl wd_1466 wd_1469 wd_95 yd_X5_drop ⟨Nat.le_of_ble_eq_true rfl, Nat.le_of_ble_eq_true rfl⟩ (Nat.le_of_ble_eq_true rfl) (by decide) (fun r260 σ260 h => ?_)
              refine r_ladd C 264 dX5_headOf_263 rfl ?_
              refine r_nmL (fun v264 e264 => ?_)
              have h := h v264 e264
              refine r_lstore_n C 265 [(2, .long v264), (6, .int r167), (8, .int r167), (0, .ref 209), (4, .int i4), (7, .int i7)] dX5_headOf_264 rfl (by decide) rfl ?_
              obtain ⟨v265, e265⟩ : ∃ y : Int32, y = i7 + 1 := ⟨_, rfl⟩
              have h := h v265 e265
              refine r_iinc (j := 5) C 268 [(7, .int v265), (2, .long v264), (6, .int r167), (8, .int r167), (0, .ref 209), (4, .int i4)] dX5_headOf_265 rfl rfl (by rw [e265]; rfl) (by decide) rfl ?_
              refine r_goto C 153 dX5_headOf_268 (by decide) ?_
              exact Ws_pick [4, 1, 5, 2, 0] rfl h
            · have h := h.2 c237
              refine r_aload_n (j := 2) C 241 dX5_headOf_240 rfl rfl ?_
              refine r_get (k := 26) C cl7 244 dX5_headOf_241 rfl kd_209 (by decide) wd_1238 (.ref 228) (fun _ => rfl) ?_
              refine r_iload (j := 5) C 246 dX5_headOf_244 rfl rfl ?_
              obtain ⟨o246, h⟩ := h
              refine r_iald C 247 dX5_headOf_246 rfl kd_228 o246 ?_
              refine r_i2l C 248 dX5_headOf_247 rfl ?_
              refine r_goto C 260 dX5_headOf_248 (by decide) ?_
              refine r_cVL (as := [.int i7, .long ((σ232.1 228 i7.toNatClampNeg)).toInt64]) (S := [.long l2]) C r.px 263 (ct_X5_drop _ _ _ _ _ h) dX5_headOf_260 rfl cl7 kd_209 wd_65 wd_1468 rfl wd_1466 wd_1469 wd_95 yd_X5_drop ⟨Nat.le_of_ble_eq_true rfl, Nat.le_of_ble_eq_true rfl⟩ (Nat.le_of_ble_eq_true rfl) (by decide) (fun r260 σ260 h => ?_)
              refine r_ladd C 264 dX5_headOf_263 rfl ?_
              refine r_nmL (fun v264 e264 => ?_)
              have h := h v264 e264
              refine r_lstore_n C 265 [(2, .long v264), (6, .int r167), (8, .int r167), (0, .ref 209), (4, .int i4), (7, .int i7)] dX5_headOf_264 rfl (by decide) rfl ?_
              obtain ⟨v265, e265⟩ : ∃ y : Int32, y = i7 + 1 := ⟨_, rfl⟩
              have h := h v265 e265
              refine r_iinc (j := 5) C 268 [(7, .int v265), (2, .long v264), (6, .int r167), (8, .int r167), (0, .ref 209), (4, .int i4)] dX5_headOf_265 rfl rfl (by rw [e265]; rfl) (by decide) rfl ?_
              refine r_goto C 153 dX5_headOf_268 (by decide) ?_
              exact Ws_pick [4, 1, 5, 2, 0] rfl h
          · have h := h.2 c221
            refine r_lconst C 225 (v := 0) dX5_headOf_224 rfl rfl ?_
            refine r_goto C 260 dX5_headOf_225 (by decide) ?_
            refine r_cVL (as := [.int i7, .long 0]) (S := [.long l2]) C r.px 263 (ct_X5_drop _ _ _ _ _ h) dX5_headOf_260 rfl cl7 kd_209 wd_65 wd_1468 rfl wd_1466 wd_1469 wd_95 yd_X5_drop ⟨Nat.le_of_ble_eq_true rfl, Nat.le_of_ble_eq_true rfl⟩ (Nat.le_of_ble_eq_true rfl) (by decide) (fun r260 σ260 h => ?_)
            refine r_ladd C 264 dX5_headOf_263 rfl ?_
            refine r_nmL (fun v264 e264 => ?_)
            have h := h v264 e264
            refine r_lstore_n C 265 [(2, .long v264), (6, .int r167), (8, .int r167), (0, .ref 209), (4, .int i4), (7, .int i7)] dX5_headOf_264 rfl (by decide) rfl ?_
            obtain ⟨v265, e265⟩ : ∃ y : Int32, y = i7 + 1 := ⟨_, rfl⟩
            have h := h v265 e265
            refine r_iinc (j := 5) C 268 [(7, .int v265), (2, .long v264), (6, .int r167), (8, .int r167), (0, .ref 209), (4, .int i4)] dX5_headOf_265 rfl rfl (by rw [e265]; rfl) (by decide) rfl ?_
            refine r_goto C 153 dX5_headOf_268 (by decide) ?_
            exact Ws_pick [4, 1, 5, 2, 0] rfl h
        · have h := h.2 c200
          refine r_goto C 265 dX5_headOf_203 (by decide) ?_
          obtain ⟨v265, e265⟩ : ∃ y : Int32, y = i7 + 1 := ⟨_, rfl⟩
          have h := h v265 e265
          refine r_iinc (j := 5) C 268 [(7, .int v265), (8, .int r167), (0, .ref 209), (2, .long l2), (4, .int i4), (6, .int i6)] dX5_headOf_265 rfl rfl (by rw [e265]; rfl) (by decide) rfl ?_
          refine r_goto C 153 dX5_headOf_268 (by decide) ?_
          exact Ws_pick [2, 3, 4, 5, 0] rfl h
theorem vc_X5_headOf {x : Ctx} {K : Int64 → Mem → Prop} {X : String → Mem → Prop} (C : Cx x RX5 cX5_headOf 9) (r : RtL x 3 0 (some .long) K X) (p0 : Int32) (σ : Mem) (h : sp_X5_headOf p0 σ K X) : Ws x 0 0 [(0, .ref 209), (1, .int p0)] [] σ := by
  obtain ⟨w, g, c, R, dr, B, T, S, z, f, n, hw, hr, hLo, hB, hF, rfl, hn, hK⟩ := h
  have hg := hw.2.1
  have hP := hg.1
  have hL := hLo.1
  obtain ⟨hFar, hlo, -, -, -, hf, -, -⟩ := hF
  obtain ⟨⟨hE, hBl, hX, hfe⟩, -, -⟩ := hB
  have hT := bfs_tre hg (by decide : 0 < 10)
  have hG := GM_of hw hr
  have hskL : ∀ k, k < c.1 → skF g (bfs g 0) c dr B k ≤ 9990 := fun k hk => skF_le hE hBl hL hk
  generalize bfs g 0 = L at hT hL hK hfe hX hE hBl hFar hn hskL
  have hle := hL.le hT
  refine sg_X5_headOf_0 C r _ σ ?_
  have key : ∀ (d m : Nat) (acc : Int), m ∈ nds L → di L m ≤ d → acc + hdN w L c B (lf g L c dr B z) m = hdN w L c B (lf g L c dr B z) n → Ws x 0 5 [(0, .ref 209), (2, .long (zL acc)), (4, .int (nI m))] [] σ := by
    intro d
    induction d with
    | zero =>
      intro m acc hm hd e
      have m0 := hT.up0 hm (by omega)
      rw [m0, hdN_0, Int.add_zero] at e
      rw [m0, e]
      exact sg_X5_headOf_5 C r _ _ σ ⟨fun _ => hK, fun q => absurd rfl q⟩
    | succ d ih =>
      intro m acc hm hd e
      have m10 := hT.lt hm
      refine sg_X5_headOf_5 C r _ _ σ ⟨fun q => ?_, fun q => ?_⟩
      · have m0 : m = 0 := nI_eqP m10 (by decide) q
        rw [m0, hdN_0, Int.add_zero] at e
        rw [e]; exact hK
      have m0 : m ≠ 0 := fun z => q (by rw [z]; rfl)
      obtain ⟨u1, u2, u3, u4⟩ := hT.up hm m0
      have H153 : ¬ inT c m → Ws x 0 153 [(0, .ref 209), (2, .long (zL acc)), (4, .int (nI m)), (6, .int (-1)), (7, .int 0)] [] σ := by
        intro ht
        have u4' : ac g (fp L m) m = some (fe L m) := ac_sym u4
        have hq := hL.2.2.2.2.2.2 m hm m0 ht
        have hfm := hfe.1 m hm m0 ht
        have H := cnt g.1 (fun k (s : Int64 × Int32) => (fp L m < k → s = (zL (acc + drop (rsW w (fp L m)) (B m)), nI (fe L m))) ∧ (¬ fp L m < k → s = (zL acc, -1))) (fun k s => Ws x 0 153 [(0, .ref 209), (2, .long s.1), (4, .int (nI m)), (6, .int s.2), (7, .int (nI k))] [] σ)
          (fun s ⟨j1, _⟩ => by
            refine sg_X5_headOf_153 C r _ _ _ _ σ ?_
            show (σ.1 210 7 ≤ nI g.1 → _) ∧ (¬ σ.1 210 7 ≤ nI g.1 → _)
            rw [hr 7 (by decide), hw.1]
            refine ⟨fun _ => ?_, fun q => absurd (nI_le (Nat.le_refl g.1) (by omega)) q⟩
            rw [j1 u3]
            refine ih (fe L m) _ u1 (by omega) ?_
            have := hdN_t (w := w) (B := B) (f := lf g L c dr B z) hT hL hm m0 ht
            omega)
          (fun k s hk ⟨j1, j2⟩ ih2 => by
            refine sg_X5_headOf_153 C r _ _ _ _ σ ?_
            show (σ.1 210 7 ≤ nI k → _) ∧ (¬ σ.1 210 7 ≤ nI k → sp_X5_across (nI k) (nI m) σ _ X)
            rw [hr 7 (by decide), hw.1]
            have skip : k ≠ fp L m → ∀ v265 : Int32, v265 = nI k + 1 → Ws x 0 153 [(0, .ref 209), (2, .long s.1), (4, .int (nI m)), (6, .int s.2), (7, .int v265)] [] σ := fun hne v e => by
              rw [e, nI_1]
              exact ih2 s ⟨fun q => j1 (by omega), fun q => j2 (by omega)⟩
            refine ⟨fun q => absurd hk (by have := n_le (by omega) (by omega) q; omega), fun _ => i_X5_across (by omega) ?_⟩
            rw [acr_ac hg hG hk m10]
            cases hac : ac g k m with
            | none => exact ⟨fun _ => skip (fun q => by rw [q, u4'] at hac; cases hac), fun q => absurd (by decide) q⟩
            | some e =>
              have e10 := (ac_lt hg hk hac).1
              rw [show fI (some e) = nI e from rfl]
              refine ⟨fun q => absurd q (nI_pos (n := e) (by omega)), fun _ => i_X5_isLoopPipe hg hT hL hlo (by omega) ?_⟩
              by_cases hqB : qB c k = true
              · rw [if_pos hqB]
                exact ⟨fun _ => skip (fun q => hq (by rw [← q]; exact qB_iff.mp hqB)), fun q => absurd q (by decide)⟩
              · rw [if_neg hqB]
                refine ⟨fun q => absurd rfl q, fun _ => ⟨n_inR e10 (by decide), n_inR m10 (by decide), ?_⟩⟩
                rw [n_cl (show e < 2147483648 by omega), n_cl (show m < 2147483648 by omega), hFar e e10, hFar m m10]
                rcases hL.off hg hT hk hac hm (fun q => hqB (qB_iff.mpr q)) with ⟨o1, o2, o3, o4, o5⟩ | ⟨o1, o2, o3, o4⟩
                · obtain ⟨v1, v2, v3, v4⟩ := hT.up o2 o1
                  rw [o3] at v2
                  rw [dOf_in hT o2, dOf_in hT hm]
                  show (nI (di L e) < nI (di L m) → _) ∧ (¬ nI (di L e) < nI (di L m) → _)
                  have := hT.d10 o2
                  refine ⟨fun q => absurd ((nI_ltI (by omega) (by omega)).mp q) (by omega), fun _ => skip (fun q => ?_)⟩
                  rw [q, u4'] at hac
                  cases hac
                  omega
                · rw [← o2, dOf_in hT u1, dOf_in hT hm]
                  show (nI (di L (fe L m)) < nI (di L m) → _) ∧ (¬ nI (di L (fe L m)) < nI (di L m) → _)
                  have dm := hT.d10 hm
                  subst o3
                  have st : ∀ v : Int64, v = s.1 + zL (drop (rsW w (fp L m)) (B m)) → ∀ v265 : Int32, v265 = nI (fp L m) + 1 → Ws x 0 153 [(0, .ref 209), (2, .long v), (4, .int (nI m)), (6, .int (nI (fe L m))), (7, .int v265)] [] σ := fun v e1 v2 e2 => by
                    rw [e2, nI_1, e1, j2 (Nat.lt_irrefl _)]
                    refine ih2 (_, nI (fe L m)) ⟨fun _ => ?_, fun q => absurd (Nat.lt_succ_self _) q⟩
                    rw [zL_add]
                  have Bm := hBl m hm
                  refine ⟨fun _ => ⟨n_inR (by omega) (by decide), fun q0 => i_X5_of (w := 0) (by omega) ?_, fun q0 => ?_⟩, fun q => absurd ((nI_ltI (by omega) (by omega)).mpr (by omega)) q⟩
                  · rw [n_cl (show fp L m < 2147483648 by omega)] at q0 ⊢
                    rw [hf _ hk, hfm, Nat.add_zero, hr _ (by omega), (hw.2.2.2.2.1 _ hk).1]
                    refine ⟨fun q2 => ⟨n_inR (by omega) (by decide), ?_⟩, fun q2 => ⟨n_inR (by omega) (by decide), ?_⟩⟩
                    · have hs : sgn g (fp L m) (fe L m) (B m) = -(B m : Int) := if_neg (fun z => q2 (by rw [z]))
                      rw [hs, zI_neg, Int.neg_neg, zI_L (by omega) (by omega)]
                      exact i_X5_drop hw hr hk (by omega) (by omega) st
                    · have hs : sgn g (fp L m) (fe L m) (B m) = (B m : Int) := if_pos (nI_eqP (hg.2 _ hk).1 (hT.lt u1) q2)
                      rw [hs, zI_L (by omega) (by omega)]
                      exact i_X5_drop hw hr hk (by omega) (by omega) st
                  · rw [n_cl (show fp L m < 2147483648 by omega), hf _ hk, hfm] at q0
                    have hs : B m = 0 := by
                      unfold sgn at q0
                      split at q0
                      · have := (zI_eq (b := 0) (by omega) (by omega) (by decide) (by decide)).mp q0; omega
                      · have := (zI_eq (b := 0) (by omega) (by omega) (by decide) (by decide)).mp q0; omega
                    rw [hs] at st
                    exact i_X5_drop (z := 0) hw hr hk (by omega) (by omega) st) 0 (zL acc, -1) (Nat.zero_le _) ⟨fun q => absurd q (Nat.not_lt_zero _), fun _ => rfl⟩
        exact H
      have H57 : ∀ k, 0 < k → k < c.1 → c.2.1 k = m → Ws x 0 57 [(0, .ref 209), (2, .long (zL acc)), (5, .int (nI k)), (6, .int 0)] [] σ := by
        intro k0 hk0 hk1 ek
        have H := cnt k0 (fun j (s : Int64) => s = zL (acc + smZ (fun j => drop (rsW w (c.2.2 j)) (lf g L c dr B z j)) j)) (fun j s => Ws x 0 57 [(0, .ref 209), (2, .long s), (5, .int (nI k0)), (6, .int (nI j))] [] σ)
          (fun s j1 => by
            refine sg_X5_headOf_57 C r _ _ _ σ ⟨fun _ v142 e142 => ?_, fun q => absurd (nI_le (Nat.le_refl k0) (by omega)) q⟩
            rw [e142, (hlo.2 0 (by omega)).1, j1]
            have hd0 := hL.2.2.2.2.1 k0 hk0 hk1
            rw [ek] at hd0
            refine ih (c.2.1 0) _ (hL.2.2.2.1 0 (by omega)) (by omega) ?_
            have := hdN_l (w := w) (B := B) (f := lf g L c dr B z) hT hL hk1
            rw [ek] at this
            omega)
          (fun j s hj j1 ih2 => by
            obtain ⟨p1, p2⟩ := hL.2.1 j (by omega)
            obtain ⟨l1, l2⟩ := hlo.2 j (by omega)
            have hsk := hskL j (by omega)
            obtain ⟨x0, x1, -, -⟩ := hX (by omega)
            have hfl := hfe.2.1 j (by omega)
            have ij := n_inR (n := j) (N := 10) (by omega) (by decide)
            have st : ∀ v : Int64, v = s + zL (drop (rsW w (c.2.2 j)) (z - skF g L c dr B j)) → ∀ v2 : Int32, v2 = nI j + 1 → Ws x 0 57 [(0, .ref 209), (2, .long v), (5, .int (nI k0)), (6, .int v2)] [] σ := fun v e1 v2 e2 => by
              rw [e2, nI_1]
              refine ih2 v ?_
              rw [e1, j1, zL_add, Int.add_assoc]
              rfl
            refine sg_X5_headOf_57 C r _ _ _ σ ⟨fun q => absurd hj (by have := n_le (by omega) (by omega) q; omega), fun _ => ⟨ij, ij, ?_⟩⟩
            rw [n_cl (show j < 2147483648 by omega), l2]
            refine i_X5_of (w := 0) (by omega) ⟨ij, ?_⟩
            rw [l1, l2, n_cl (show c.2.2 j < 2147483648 by omega), hf _ p1, hfl, Nat.add_zero, hr _ (by omega), (hw.2.2.2.2.1 _ p1).1]
            have ip := n_inR (n := c.2.2 j) (N := 10) (by omega) (by decide)
            refine ⟨fun q2 => ⟨ij, ip, ?_⟩, fun q2 => ⟨ij, ip, ?_⟩⟩
            · have hs : sgn g (c.2.2 j) (c.2.1 j) (z - skF g L c dr B j) = -(z - skF g L c dr B j) := if_neg (fun z => q2 (by rw [z]))
              rw [hs, zI_neg, Int.neg_neg, zI_L (by omega) (by omega)]
              exact i_X5_drop hw hr p1 (by omega) (by omega) st
            · have hs : sgn g (c.2.2 j) (c.2.1 j) (z - skF g L c dr B j) = z - skF g L c dr B j := if_pos (nI_eqP (hg.2 _ p1).1 (hT.lt (hL.2.2.2.1 j (by omega))) q2)
              rw [hs, zI_L (by omega) (by omega)]
              exact i_X5_drop hw hr p1 (by omega) (by omega) st) 0 (zL acc) (Nat.zero_le _) (by show _ = zL (acc + 0); rw [Int.add_zero])
        exact H
      have H := cnt c.1 (fun k (_ : Unit) => ∀ j, j < k → c.2.1 j ≠ m) (fun k _ => Ws x 0 13 [(0, .ref 209), (2, .long (zL acc)), (4, .int (nI m)), (5, .int (nI k))] [] σ)
        (fun _ hno => by
          have h153 := H153 (fun ⟨i, _, i1, i2⟩ => hno i i1 i2)
          refine sg_X5_headOf_13 C r _ _ _ σ ?_
          rw [hlo.1]
          exact ⟨fun _ => ⟨fun _ => h153, fun _ => ⟨fun _ => h153, fun q => absurd (nI_le (Nat.le_refl c.1) (by omega)) q⟩⟩, fun q => absurd (nI_le (Nat.le_refl c.1) (by omega)) q⟩)
        (fun k _ hk hno ih2 => by
          refine sg_X5_headOf_13 C r _ _ _ σ ?_
          rw [hlo.1, n_cl (show k < 2147483648 by omega), (hlo.2 k hk).1]
          have k10 := hT.lt (hL.2.2.2.1 k hk)
          refine ⟨fun q => absurd hk (by have := n_le (by omega) (by omega) q; omega), fun _ => ⟨n_inR (by omega) (by decide), fun q => ?_, fun q v e => ?_⟩⟩
          · have em := nI_eqP k10 m10 q
            refine ⟨fun q0 => ?_, fun q0 => ⟨fun q1 => absurd hk (by have := n_le (by omega) (by omega) q1; omega), fun _ => H57 k ?_ hk em⟩⟩
            · have k0 : k = 0 := by have := n_le (b := 0) (by omega) (by decide) q0; omega
              exact H153 (fun ⟨i, i0, i1, i2⟩ => by have := hL.1 i k i1 hk (by rw [i2, em]); omega)
            · apply Nat.pos_of_ne_zero
              intro z
              rw [z] at q0
              exact q0 (by decide)
          · rw [e, nI_1]
            refine ih2 () (fun j hj => ?_)
            by_cases z : j = k
            · rw [z]; exact fun y => q (by rw [y])
            · exact hno j (by omega)) 0 () (Nat.zero_le _) (fun j q => absurd q (Nat.not_lt_zero j))
      exact H
  exact key (di L n) n 0 hn (Nat.le_refl _) (Int.zero_add _)
theorem ct_X5_headOf (p0 : Int32) (σ : Mem) (K : Int64 → Mem → Prop) (X : String → Mem → Prop) (h : sp_X5_headOf p0 σ K X) : CtL yX5_headOf cX5_headOf 9 (some .long) 3 0 [.ref 209, .int p0] σ K X :=
  ctL_of (by decide +kernel) (Nat.le_of_ble_eq_true rfl) (fun x C r => vc_X5_headOf C r p0 σ h)
/-! HeatNetworkModel.head(I)J: level 7, exceptions 0 -/
def sp_X5_head (p0 : Int32) (σ : Mem) (K : Int64 → Mem → Prop) (X : String → Mem → Prop) : Prop := (∀ σ2 : Mem, σ2 = wi σ 209 0 0 → sp_X5_isJoined p0 σ2 (fun r7 σ7 => (¬ r7 = 0 → sp_X5_looks  σ7 (fun σ21 => sp_X5_headOf p0 σ21 (fun r26 σ26 => K r26 σ26) X) X) ∧ (r7 = 0 → sp_X5_raises 1 σ7 (fun r15 σ15 => K (r15).toInt64 σ15) X)) X)
set_option maxRecDepth 4000 in
theorem sg_X5_head_0 {x : Ctx} {K : Int64 → Mem → Prop} {X : String → Mem → Prop} (C : Cx x RX5 cX5_head 2) (r : RtL x 7 0 (some .long) K X) (p0 : Int32)  (σ : Mem) (h : ∀ σ2 : Mem, σ2 = wi σ 209 0 0 → sp_X5_isJoined p0 σ2 (fun r7 σ7 => (¬ r7 = 0 → sp_X5_looks  σ7 (fun σ21 => sp_X5_headOf p0 σ21 (fun r26 σ26 => K r26 σ26) X) X) ∧ (r7 = 0 → sp_X5_raises 1 σ7 (fun r15 σ15 => K (r15).toInt64 σ15) X)) X) : Ws x 0 0 [(0, .ref 209), (1, .int p0)] [] σ := by
  refine r_aload_n (j := 0) C 1 dX5_head_0 rfl rfl ?_
  refine r_iconst C 2 (v := 0) dX5_head_1 rfl (by decide) ?_
  refine r_putI (k := 0) C cl7 5 dX5_head_2 rfl kd_209 (by decide) wd_1212 rfl rfl rfl rfl ?_
  refine r_nmS (fun σ2 e2 => ?_)
  have h := h σ2 e2
  refine r_aload_n (j := 0) C 6 dX5_head_5 rfl rfl ?_
  refine r_iload_n (j := 1) C 7 dX5_head_6 rfl rfl ?_
  refine r_cVI (as := [.int p0]) (S := []) C r.px 10 (ct_X5_isJoined _ _ _ _ h) dX5_head_7 rfl cl7 kd_209 wd_88 wd_1621 rfl wd_1619 wd_1622 wd_95 yd_X5_isJoined ⟨Nat.le_of_ble_eq_true rfl, Nat.le_of_ble_eq_true rfl⟩ (Nat.le_of_ble_eq_true rfl) (by decide) (fun r7 σ7 h => ?_)
  refine r_if_ne C 20 13 dX5_head_10 (by decide) rfl (fun c10 => ?_) (fun c10 => ?_)
  · have h := h.1 c10
    refine r_aload_n (j := 0) C 21 dX5_head_20 rfl rfl ?_
    refine r_cVV (as := []) (S := []) C r.px 24 (ct_X5_looks  _ _ _ h) dX5_head_21 rfl cl7 kd_209 wd_56 wd_1428 rfl wd_1426 wd_1429 wd_95 yd_X5_looks ⟨Nat.le_of_ble_eq_true rfl, Nat.le_of_ble_eq_true rfl⟩ (Nat.le_of_ble_eq_true rfl) (by decide) (fun σ21 h => ?_)
    refine r_aload_n (j := 0) C 25 dX5_head_24 rfl rfl ?_
    refine r_iload_n (j := 1) C 26 dX5_head_25 rfl rfl ?_
    refine r_cVL (as := [.int p0]) (S := []) C r.px 29 (ct_X5_headOf _ _ _ _ h) dX5_head_26 rfl cl7 kd_209 wd_73 wd_1507 rfl wd_1505 wd_1508 wd_95 yd_X5_headOf ⟨Nat.le_of_ble_eq_true rfl, Nat.le_of_ble_eq_true rfl⟩ (Nat.le_of_ble_eq_true rfl) (by decide) (fun r26 σ26 h => ?_)
    exact r_lret (S := []) C r dX5_head_29 (by decide) h
  · have h := h.2 c10
    refine r_aload_n (j := 0) C 14 dX5_head_13 rfl rfl ?_
    refine r_iconst C 15 (v := 1) dX5_head_14 rfl (by decide) ?_
    refine r_cVI (as := [.int 1]) (S := []) C r.px 18 (ct_X5_raises _ _ _ _ h) dX5_head_15 rfl cl7 kd_209 wd_40 wd_1325 rfl wd_1323 wd_1326 wd_95 yd_X5_raises ⟨Nat.le_of_ble_eq_true rfl, Nat.le_of_ble_eq_true rfl⟩ (Nat.le_of_ble_eq_true rfl) (by decide) (fun r15 σ15 h => ?_)
    refine r_i2l C 19 dX5_head_18 rfl ?_
    exact r_lret (S := []) C r dX5_head_19 (by decide) h
theorem ct_X5_head (p0 : Int32) (σ : Mem) (K : Int64 → Mem → Prop) (X : String → Mem → Prop) (h : sp_X5_head p0 σ K X) : CtL yX5_head cX5_head 2 (some .long) 7 0 [.ref 209, .int p0] σ K X := by
  have h := h
  exact ctL_of (by decide +kernel) (Nat.le_of_ble_eq_true rfl) (fun x C r => sg_X5_head_0 C r p0  σ h)
