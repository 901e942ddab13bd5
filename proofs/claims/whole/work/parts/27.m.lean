/-! HeatNetworkModel.pipeBy(IIII)I: level 4, exceptions 0 -/
def sp_X5_pipeBy (p0 p1 p2 p3 : Int32) (σ : Mem) (K : Int32 → Mem → Prop) (X : String → Mem → Prop) : Prop := ∃ g : Gr, WG g ∧ GM σ g ∧ ∀ τ : Mem, ((prN g p0 p1 p2 p3 ≠ 0 ∧ prN g p0 p1 p2 p3 ≠ 5 ∧ τ = σ) ∨ (g.1 < 10 ∧ prN g p0 p1 p2 p3 = 5 ∧ ChQ g.1 σ τ ∧ τ.1 210 7 = nI g.1) ∨ (g.1 < 10 ∧ prN g p0 p1 p2 p3 = 0 ∧ ChQ g.1 σ τ ∧ τ.1 210 7 = nI (g.1 + 1) ∧ τ.1 210 (8 + 4 * g.1) = p0 ∧ τ.1 210 (8 + 4 * g.1 + 1) = p1 ∧ τ.1 210 (8 + 4 * g.1 + 2) = p2 ∧ τ.1 210 (8 + 4 * g.1 + 3) = p3)) → K (nI (prN g p0 p1 p2 p3)) τ
set_option maxRecDepth 4000 in
theorem sg_X5_pipeBy_0 {x : Ctx} {K : Int32 → Mem → Prop} {X : String → Mem → Prop} (C : Cx x RX5 cX5_pipeBy 9) (r : RtI x 4 0 (some .int) K X) (p0 : Int32) (p1 : Int32) (p2 : Int32) (p3 : Int32)  (σ : Mem) (h : sp_X5_isNode p0 σ (fun r1 σ1 => (r1 = 0 → K 1 σ1) ∧ (¬ r1 = 0 → sp_X5_isNode p1 σ1 (fun r8 σ8 => (¬ r8 = 0 → sp_X5_in p2 1 99 σ8 (fun r20 σ20 => (r20 = 0 → K 2 σ20) ∧ (¬ r20 = 0 → sp_X5_in p3 1 9 σ20 (fun r31 σ31 => (¬ r31 = 0 → (¬ p0 = p1 → Ws x 0 49 [(0, .ref 209), (1, .int p0), (2, .int p1), (3, .int p2), (4, .int p3), (5, .int 0)] [] σ31) ∧ (p0 = p1 → K 3 σ31)) ∧ (r31 = 0 → K 2 σ31)) X)) X) ∧ (r8 = 0 → K 1 σ8)) X)) X) : Ws x 0 0 [(0, .ref 209), (1, .int p0), (2, .int p1), (3, .int p2), (4, .int p3)] [] σ := by
  refine r_iload_n (j := 1) C 1 dX5_pipeBy_0 rfl rfl ?_
  refine r_cSI (b := 0) (as := [.int p0]) (S := []) C r.px 4 (ct_X5_isNode _ _ _ _ h) dX5_pipeBy_1 rfl wd_1356 wd_1355 wd_1357 wd_95 yd_X5_isNode ⟨Nat.le_of_ble_eq_true rfl, Nat.le_of_ble_eq_true rfl⟩ (Nat.le_of_ble_eq_true rfl) (by decide) (fun r1 σ1 h => ?_)
  refine r_if_eq C 14 7 dX5_pipeBy_4 (by decide) rfl (fun c4 => ?_) (fun c4 => ?_)
  · have h := h.1 c4
    refine r_iconst C 15 (v := 1) dX5_pipeBy_14 rfl (by decide) ?_
    exact r_iret (S := []) C r dX5_pipeBy_15 (by decide) rfl h
  · have h := h.2 c4
    refine r_iload_n (j := 2) C 8 dX5_pipeBy_7 rfl rfl ?_
    refine r_cSI (b := 0) (as := [.int p1]) (S := []) C r.px 11 (ct_X5_isNode _ _ _ _ h) dX5_pipeBy_8 rfl wd_1356 wd_1355 wd_1357 wd_95 yd_X5_isNode ⟨Nat.le_of_ble_eq_true rfl, Nat.le_of_ble_eq_true rfl⟩ (Nat.le_of_ble_eq_true rfl) (by decide) (fun r8 σ8 h => ?_)
    refine r_if_ne C 16 14 dX5_pipeBy_11 (by decide) rfl (fun c11 => ?_) (fun c11 => ?_)
    · have h := h.1 c11
      refine r_iload_n (j := 3) C 17 dX5_pipeBy_16 rfl rfl ?_
      refine r_iconst C 18 (v := 1) dX5_pipeBy_17 rfl (by decide) ?_
      refine r_bipush C 20 (v := 99) dX5_pipeBy_18 rfl (by decide) ?_
      refine r_cSI (b := 0) (as := [.int p2, .int 1, .int 99]) (S := []) C r.px 23 (ct_X5_in _ _ _ _ _ _ h) dX5_pipeBy_20 rfl wd_1321 wd_1320 wd_1322 wd_95 yd_X5_in ⟨Nat.le_of_ble_eq_true rfl, Nat.le_of_ble_eq_true rfl⟩ (Nat.le_of_ble_eq_true rfl) (by decide) (fun r20 σ20 h => ?_)
      refine r_if_eq C 37 26 dX5_pipeBy_23 (by decide) rfl (fun c23 => ?_) (fun c23 => ?_)
      · have h := h.1 c23
        refine r_iconst C 38 (v := 2) dX5_pipeBy_37 rfl (by decide) ?_
        exact r_iret (S := []) C r dX5_pipeBy_38 (by decide) rfl h
      · have h := h.2 c23
        refine r_iload (j := 4) C 28 dX5_pipeBy_26 rfl rfl ?_
        refine r_iconst C 29 (v := 1) dX5_pipeBy_28 rfl (by decide) ?_
        refine r_bipush C 31 (v := 9) dX5_pipeBy_29 rfl (by decide) ?_
        refine r_cSI (b := 0) (as := [.int p3, .int 1, .int 9]) (S := []) C r.px 34 (ct_X5_in _ _ _ _ _ _ h) dX5_pipeBy_31 rfl wd_1321 wd_1320 wd_1322 wd_95 yd_X5_in ⟨Nat.le_of_ble_eq_true rfl, Nat.le_of_ble_eq_true rfl⟩ (Nat.le_of_ble_eq_true rfl) (by decide) (fun r31 σ31 h => ?_)
        refine r_if_ne C 39 37 dX5_pipeBy_34 (by decide) rfl (fun c34 => ?_) (fun c34 => ?_)
        · have h := h.1 c34
          refine r_iload_n (j := 1) C 40 dX5_pipeBy_39 rfl rfl ?_
          refine r_iload_n (j := 2) C 41 dX5_pipeBy_40 rfl rfl ?_
          refine r_icmp_ne C 46 44 dX5_pipeBy_41 (by decide) rfl (fun c41 => ?_) (fun c41 => ?_)
          · have h := h.1 c41
            refine r_iconst C 47 (v := 0) dX5_pipeBy_46 rfl (by decide) ?_
            refine r_istore C 49 [(5, .int 0), (0, .ref 209), (1, .int p0), (2, .int p1), (3, .int p2), (4, .int p3)] dX5_pipeBy_47 rfl (by decide) rfl ?_
            exact Ws_pick [1, 2, 3, 4, 5, 0] rfl h
          · have h := h.2 c41
            refine r_iconst C 45 (v := 3) dX5_pipeBy_44 rfl (by decide) ?_
            exact r_iret (S := []) C r dX5_pipeBy_45 (by decide) rfl h
        · have h := h.2 c34
          refine r_iconst C 38 (v := 2) dX5_pipeBy_37 rfl (by decide) ?_
          exact r_iret (S := []) C r dX5_pipeBy_38 (by decide) rfl h
    · have h := h.2 c11
      refine r_iconst C 15 (v := 1) dX5_pipeBy_14 rfl (by decide) ?_
      exact r_iret (S := []) C r dX5_pipeBy_15 (by decide) rfl h
set_option maxRecDepth 4000 in
theorem sg_X5_pipeBy_49 {x : Ctx} {K : Int32 → Mem → Prop} {X : String → Mem → Prop} (C : Cx x RX5 cX5_pipeBy 9) (r : RtI x 4 0 (some .int) K X) (i1 : Int32) (i2 : Int32) (i3 : Int32) (i4 : Int32) (i5 : Int32)  (σ : Mem) (h : sp_X5_pipes  σ (fun r52 σ52 => (r52 ≤ i5 → sp_X5_pipes  σ52 (fun r78 σ78 => (¬ r78 = 10 → ∀ σ102 : Mem, σ102 = wi σ78 210 7 ((σ78.1 210 7) + 1) → ∀ v105 : Int32, v105 = (8 + (4 * (σ78.1 210 7))) → (vp_in v105 108) ∧ (∀ σ114 : Mem, σ114 = wi σ102 210 v105.toNatClampNeg i1 → (vp_in (v105 + 1) 108) ∧ (∀ σ124 : Mem, σ124 = wi σ114 210 ((v105 + 1)).toNatClampNeg i2 → (vp_in (v105 + 2) 108) ∧ (∀ σ134 : Mem, σ134 = wi σ124 210 ((v105 + 2)).toNatClampNeg i3 → (vp_in (v105 + 3) 108) ∧ (∀ σ145 : Mem, σ145 = wi σ134 210 ((v105 + 3)).toNatClampNeg i4 → sp_X5_measure i1 σ145 (fun σ148 => Ws x 0 160 [(0, .ref 209), (6, .int 0), (7, .int 0), (8, .int 0)] [] σ148) X))))) ∧ (r78 = 10 → K 4 σ78)) X) ∧ (¬ r52 ≤ i5 → sp_X5_across i5 i1 σ52 (fun r62 σ62 => (¬ r62 = i2 → ∀ v71 : Int32, v71 = i5 + 1 → Ws x 0 49 [(0, .ref 209), (1, .int i1), (2, .int i2), (3, .int i3), (4, .int i4), (5, .int v71)] [] σ62) ∧ (r62 = i2 → K 3 σ62)) X)) X) : Ws x 0 49 [(0, .ref 209), (1, .int i1), (2, .int i2), (3, .int i3), (4, .int i4), (5, .int i5)] [] σ := by
  refine r_iload (j := 5) C 51 dX5_pipeBy_49 rfl rfl ?_
  refine r_aload_n (j := 0) C 52 dX5_pipeBy_51 rfl rfl ?_
  refine r_cVI (as := []) (S := [.int i5]) C r.px 55 (ct_X5_pipes  _ _ _ h) dX5_pipeBy_52 rfl cl7 kd_209 wd_45 wd_1360 rfl wd_1358 wd_1361 wd_95 yd_X5_pipes ⟨Nat.le_of_ble_eq_true rfl, Nat.le_of_ble_eq_true rfl⟩ (Nat.le_of_ble_eq_true rfl) (by decide) (fun r52 σ52 h => ?_)
  refine r_icmp_ge C 77 58 dX5_pipeBy_55 (by decide) rfl (fun c55 => ?_) (fun c55 => ?_)
  · have h := h.1 c55
    refine r_aload_n (j := 0) C 78 dX5_pipeBy_77 rfl rfl ?_
    refine r_cVI (as := []) (S := []) C r.px 81 (ct_X5_pipes  _ _ _ h) dX5_pipeBy_78 rfl cl7 kd_209 wd_45 wd_1360 rfl wd_1358 wd_1361 wd_95 yd_X5_pipes ⟨Nat.le_of_ble_eq_true rfl, Nat.le_of_ble_eq_true rfl⟩ (Nat.le_of_ble_eq_true rfl) (by decide) (fun r78 σ78 h => ?_)
    refine r_bipush C 83 (v := 10) dX5_pipeBy_81 rfl (by decide) ?_
    refine r_icmp_ne C 88 86 dX5_pipeBy_83 (by decide) rfl (fun c83 => ?_) (fun c83 => ?_)
    · have h := h.1 c83
      refine r_bipush C 90 (v := 8) dX5_pipeBy_88 rfl (by decide) ?_
      refine r_iconst C 91 (v := 4) dX5_pipeBy_90 rfl (by decide) ?_
      refine r_aload_n (j := 0) C 92 dX5_pipeBy_91 rfl rfl ?_
      refine r_get (k := 1) C cl7 95 dX5_pipeBy_92 rfl kd_209 (by decide) wd_1213 (.ref 210) (fun _ => rfl) ?_
      refine r_bipush C 97 (v := 7) dX5_pipeBy_95 rfl (by decide) ?_
      refine r_dup2 C 98 dX5_pipeBy_97 rfl rfl rfl ?_
      refine r_iald C 99 dX5_pipeBy_98 rfl kd_210 (n_inR (n := 7) (by decide) (by decide)) ?_
      refine r_dup_x2 C 100 dX5_pipeBy_99 rfl rfl rfl rfl ?_
      refine r_iconst C 101 (v := 1) dX5_pipeBy_100 rfl (by decide) ?_
      refine r_iadd C 102 dX5_pipeBy_101 rfl ?_
      refine r_iast C 103 dX5_pipeBy_102 rfl kd_210 (n_inR (n := 7) (by decide) (by decide)) ?_
      refine r_nmS (fun σ102 e102 => ?_)
      have h := h σ102 e102
      refine r_imul C 104 dX5_pipeBy_103 rfl ?_
      refine r_iadd C 105 dX5_pipeBy_104 rfl ?_
      refine r_nmI (fun v105 e105 => ?_)
      have h := h v105 e105
      refine r_istore C 107 [(5, .int v105), (0, .ref 209), (1, .int i1), (2, .int i2), (3, .int i3), (4, .int i4)] dX5_pipeBy_105 rfl (by decide) rfl ?_
      refine r_aload_n (j := 1) C 108 dX5_pipeBy_107 rfl rfl ?_
      refine r_get (k := 1) C cl7 111 dX5_pipeBy_108 rfl kd_209 (by decide) wd_1213 (.ref 210) (fun _ => rfl) ?_
      refine r_iload (j := 0) C 113 dX5_pipeBy_111 rfl rfl ?_
      refine r_iload_n (j := 2) C 114 dX5_pipeBy_113 rfl rfl ?_
      obtain ⟨o114, h⟩ := h
      refine r_iast C 115 dX5_pipeBy_114 rfl kd_210 o114 ?_
      refine r_nmS (fun σ114 e114 => ?_)
      have h := h σ114 e114
      refine r_aload_n (j := 1) C 116 dX5_pipeBy_115 rfl rfl ?_
      refine r_get (k := 1) C cl7 119 dX5_pipeBy_116 rfl kd_209 (by decide) wd_1213 (.ref 210) (fun _ => rfl) ?_
      refine r_iload (j := 0) C 121 dX5_pipeBy_119 rfl rfl ?_
      refine r_iconst C 122 (v := 1) dX5_pipeBy_121 rfl (by decide) ?_
      refine r_iadd C 123 dX5_pipeBy_122 rfl ?_
      refine r_iload_n (j := 3) C 124 dX5_pipeBy_123 rfl rfl ?_
      obtain ⟨o124, h⟩ := h
      refine r_iast C 125 dX5_pipeBy_124 rfl kd_210 o124 ?_
      refine r_nmS (fun σ124 e124 => ?_)
      have h := h σ124 e124
      refine r_aload_n (j := 1) C 126 dX5_pipeBy_125 rfl rfl ?_
      refine r_get (k := 1) C cl7 129 dX5_pipeBy_126 rfl kd_209 (by decide) wd_1213 (.ref 210) (fun _ => rfl) ?_
      refine r_iload (j := 0) C 131 dX5_pipeBy_129 rfl rfl ?_
      refine r_iconst C 132 (v := 2) dX5_pipeBy_131 rfl (by decide) ?_
      refine r_iadd C 133 dX5_pipeBy_132 rfl ?_
      refine r_iload_n (j := 4) C 134 dX5_pipeBy_133 rfl rfl ?_
      obtain ⟨o134, h⟩ := h
      refine r_iast C 135 dX5_pipeBy_134 rfl kd_210 o134 ?_
      refine r_nmS (fun σ134 e134 => ?_)
      have h := h σ134 e134
      refine r_aload_n (j := 1) C 136 dX5_pipeBy_135 rfl rfl ?_
      refine r_get (k := 1) C cl7 139 dX5_pipeBy_136 rfl kd_209 (by decide) wd_1213 (.ref 210) (fun _ => rfl) ?_
      refine r_iload (j := 0) C 141 dX5_pipeBy_139 rfl rfl ?_
      refine r_iconst C 142 (v := 3) dX5_pipeBy_141 rfl (by decide) ?_
      refine r_iadd C 143 dX5_pipeBy_142 rfl ?_
      refine r_iload (j := 5) C 145 dX5_pipeBy_143 rfl rfl ?_
      obtain ⟨o145, h⟩ := h
      refine r_iast C 146 dX5_pipeBy_145 rfl kd_210 o145 ?_
      refine r_nmS (fun σ145 e145 => ?_)
      have h := h σ145 e145
      refine r_aload_n (j := 1) C 147 dX5_pipeBy_146 rfl rfl ?_
      refine r_iload_n (j := 2) C 148 dX5_pipeBy_147 rfl rfl ?_
      refine r_cVV (as := [.int i1]) (S := []) C r.px 151 (ct_X5_measure _ _ _ _ h) dX5_pipeBy_148 rfl cl7 kd_209 wd_48 wd_1372 rfl wd_1370 wd_1373 wd_95 yd_X5_measure ⟨Nat.le_of_ble_eq_true rfl, Nat.le_of_ble_eq_true rfl⟩ (Nat.le_of_ble_eq_true rfl) (by decide) (fun σ148 h => ?_)
      refine r_iconst C 152 (v := 0) dX5_pipeBy_151 rfl (by decide) ?_
      refine r_istore C 154 [(6, .int 0), (5, .int v105), (0, .ref 209), (1, .int i1), (2, .int i2), (3, .int i3), (4, .int i4)] dX5_pipeBy_152 rfl (by decide) rfl ?_
      refine r_iconst C 155 (v := 0) dX5_pipeBy_154 rfl (by decide) ?_
      refine r_istore C 157 [(7, .int 0), (6, .int 0), (5, .int v105), (0, .ref 209), (1, .int i1), (2, .int i2), (3, .int i3), (4, .int i4)] dX5_pipeBy_155 rfl (by decide) rfl ?_
      refine r_iconst C 158 (v := 0) dX5_pipeBy_157 rfl (by decide) ?_
      refine r_istore C 160 [(8, .int 0), (7, .int 0), (6, .int 0), (5, .int v105), (0, .ref 209), (1, .int i1), (2, .int i2), (3, .int i3), (4, .int i4)] dX5_pipeBy_158 rfl (by decide) rfl ?_
      exact Ws_pick [4, 2, 1, 0] rfl h
    · have h := h.2 c83
      refine r_iconst C 87 (v := 4) dX5_pipeBy_86 rfl (by decide) ?_
      exact r_iret (S := []) C r dX5_pipeBy_87 (by decide) rfl h
  · have h := h.2 c55
    refine r_aload_n (j := 0) C 59 dX5_pipeBy_58 rfl rfl ?_
    refine r_iload (j := 5) C 61 dX5_pipeBy_59 rfl rfl ?_
    refine r_iload_n (j := 1) C 62 dX5_pipeBy_61 rfl rfl ?_
    refine r_cVI (as := [.int i5, .int i1]) (S := []) C r.px 65 (ct_X5_across _ _ _ _ _ h) dX5_pipeBy_62 rfl cl7 kd_209 wd_46 wd_1364 rfl wd_1362 wd_1365 wd_95 yd_X5_across ⟨Nat.le_of_ble_eq_true rfl, Nat.le_of_ble_eq_true rfl⟩ (Nat.le_of_ble_eq_true rfl) (by decide) (fun r62 σ62 h => ?_)
    refine r_iload_n (j := 2) C 66 dX5_pipeBy_65 rfl rfl ?_
    refine r_icmp_ne C 71 69 dX5_pipeBy_66 (by decide) rfl (fun c66 => ?_) (fun c66 => ?_)
    · have h := h.1 c66
      obtain ⟨v71, e71⟩ : ∃ y : Int32, y = i5 + 1 := ⟨_, rfl⟩
      have h := h v71 e71
      refine r_iinc (j := 5) C 74 [(5, .int v71), (0, .ref 209), (1, .int i1), (2, .int i2), (3, .int i3), (4, .int i4)] dX5_pipeBy_71 rfl rfl (by rw [e71]; rfl) (by decide) rfl ?_
      refine r_goto C 49 dX5_pipeBy_74 (by decide) ?_
      exact Ws_pick [1, 2, 3, 4, 5, 0] rfl h
    · have h := h.2 c66
      refine r_iconst C 70 (v := 3) dX5_pipeBy_69 rfl (by decide) ?_
      exact r_iret (S := []) C r dX5_pipeBy_70 (by decide) rfl h
set_option maxRecDepth 4000 in
theorem sg_X5_pipeBy_160 {x : Ctx} {K : Int32 → Mem → Prop} {X : String → Mem → Prop} (C : Cx x RX5 cX5_pipeBy 9) (r : RtI x 4 0 (some .int) K X) (i6 : Int32) (i7 : Int32) (i8 : Int32)  (σ : Mem) (h : (10 ≤ i8 → Ws x 0 189 [(0, .ref 209), (6, .int i6), (7, .int i7), (8, .int 0)] [] σ) ∧ (¬ 10 ≤ i8 → (vp_in i8 10) ∧ (((σ.1 219 i8.toNatClampNeg) < 0 → ∀ v180 : Int32, v180 = i8 + 1 → Ws x 0 160 [(0, .ref 209), (6, .int i6), (7, .int i7), (8, .int v180)] [] σ) ∧ (¬ (σ.1 219 i8.toNatClampNeg) < 0 → ∀ v177 : Int32, v177 = i6 + 1 → ∀ v180 : Int32, v180 = i8 + 1 → Ws x 0 160 [(0, .ref 209), (6, .int v177), (7, .int i7), (8, .int v180)] [] σ)))) : Ws x 0 160 [(0, .ref 209), (6, .int i6), (7, .int i7), (8, .int i8)] [] σ := by
  refine r_iload (j := 3) C 162 dX5_pipeBy_160 rfl rfl ?_
  refine r_bipush C 164 (v := 10) dX5_pipeBy_162 rfl (by decide) ?_
  refine r_icmp_ge C 186 167 dX5_pipeBy_164 (by decide) rfl (fun c164 => ?_) (fun c164 => ?_)
  · have h := h.1 c164
    refine r_iconst C 187 (v := 0) dX5_pipeBy_186 rfl (by decide) ?_
    refine r_istore C 189 [(8, .int 0), (0, .ref 209), (6, .int i6), (7, .int i7)] dX5_pipeBy_187 rfl (by decide) rfl ?_
    exact Ws_pick [1, 2, 3, 0] rfl h
  · have h := h.2 c164
    refine r_aload_n (j := 0) C 168 dX5_pipeBy_167 rfl rfl ?_
    refine r_get (k := 16) C cl7 171 dX5_pipeBy_168 rfl kd_209 (by decide) wd_1228 (.ref 219) (fun _ => rfl) ?_
    refine r_iload (j := 3) C 173 dX5_pipeBy_171 rfl rfl ?_
    obtain ⟨o173, h⟩ := h
    refine r_iald C 174 dX5_pipeBy_173 rfl kd_219 o173 ?_
    refine r_if_lt C 180 177 dX5_pipeBy_174 (by decide) rfl (fun c174 => ?_) (fun c174 => ?_)
    · have h := h.1 c174
      obtain ⟨v180, e180⟩ : ∃ y : Int32, y = i8 + 1 := ⟨_, rfl⟩
      have h := h v180 e180
      refine r_iinc (j := 3) C 183 [(8, .int v180), (0, .ref 209), (6, .int i6), (7, .int i7)] dX5_pipeBy_180 rfl rfl (by rw [e180]; rfl) (by decide) rfl ?_
      refine r_goto C 160 dX5_pipeBy_183 (by decide) ?_
      exact Ws_pick [1, 2, 3, 0] rfl h
    · have h := h.2 c174
      obtain ⟨v177, e177⟩ : ∃ y : Int32, y = i6 + 1 := ⟨_, rfl⟩
      have h := h v177 e177
      refine r_iinc (j := 1) C 180 [(6, .int v177), (0, .ref 209), (7, .int i7), (8, .int i8)] dX5_pipeBy_177 rfl rfl (by rw [e177]; rfl) (by decide) rfl ?_
      obtain ⟨v180, e180⟩ : ∃ y : Int32, y = i8 + 1 := ⟨_, rfl⟩
      have h := h v180 e180
      refine r_iinc (j := 3) C 183 [(8, .int v180), (6, .int v177), (0, .ref 209), (7, .int i7)] dX5_pipeBy_180 rfl rfl (by rw [e180]; rfl) (by decide) rfl ?_
      refine r_goto C 160 dX5_pipeBy_183 (by decide) ?_
      exact Ws_pick [2, 1, 3, 0] rfl h
set_option maxRecDepth 4000 in
theorem sg_X5_pipeBy_189 {x : Ctx} {K : Int32 → Mem → Prop} {X : String → Mem → Prop} (C : Cx x RX5 cX5_pipeBy 9) (r : RtI x 4 0 (some .int) K X) (i6 : Int32) (i7 : Int32) (i8 : Int32)  (σ : Mem) (h : sp_X5_pipes  σ (fun r192 σ192 => (r192 ≤ i8 → (i6 < i7 → ∀ σ241 : Mem, σ241 = wi σ192 210 7 ((σ192.1 210 7) - 1) → K 5 σ241) ∧ (¬ i6 < i7 → K 0 σ192)) ∧ (¬ r192 ≤ i8 → sp_X5_of i8 0 σ192 (fun r206 σ206 => (vp_in r206 10) ∧ (((σ206.1 219 r206.toNatClampNeg) < 0 → ∀ v216 : Int32, v216 = i8 + 1 → Ws x 0 189 [(0, .ref 209), (6, .int i6), (7, .int i7), (8, .int v216)] [] σ206) ∧ (¬ (σ206.1 219 r206.toNatClampNeg) < 0 → ∀ v213 : Int32, v213 = i7 + 1 → ∀ v216 : Int32, v216 = i8 + 1 → Ws x 0 189 [(0, .ref 209), (6, .int i6), (7, .int v213), (8, .int v216)] [] σ206))) X)) X) : Ws x 0 189 [(0, .ref 209), (6, .int i6), (7, .int i7), (8, .int i8)] [] σ := by
  refine r_iload (j := 3) C 191 dX5_pipeBy_189 rfl rfl ?_
  refine r_aload_n (j := 0) C 192 dX5_pipeBy_191 rfl rfl ?_
  refine r_cVI (as := []) (S := [.int i8]) C r.px 195 (ct_X5_pipes  _ _ _ h) dX5_pipeBy_192 rfl cl7 kd_209 wd_45 wd_1360 rfl wd_1358 wd_1361 wd_95 yd_X5_pipes ⟨Nat.le_of_ble_eq_true rfl, Nat.le_of_ble_eq_true rfl⟩ (Nat.le_of_ble_eq_true rfl) (by decide) (fun r192 σ192 h => ?_)
  refine r_icmp_ge C 222 198 dX5_pipeBy_195 (by decide) rfl (fun c195 => ?_) (fun c195 => ?_)
  · have h := h.1 c195
    refine r_iload (j := 2) C 224 dX5_pipeBy_222 rfl rfl ?_
    refine r_iload (j := 1) C 226 dX5_pipeBy_224 rfl rfl ?_
    refine r_icmp_gt C 231 229 dX5_pipeBy_226 (by decide) rfl (fun c226 => ?_) (fun c226 => ?_)
    · have h := h.1 c226
      refine r_aload_n (j := 0) C 232 dX5_pipeBy_231 rfl rfl ?_
      refine r_get (k := 1) C cl7 235 dX5_pipeBy_232 rfl kd_209 (by decide) wd_1213 (.ref 210) (fun _ => rfl) ?_
      refine r_bipush C 237 (v := 7) dX5_pipeBy_235 rfl (by decide) ?_
      refine r_dup2 C 238 dX5_pipeBy_237 rfl rfl rfl ?_
      refine r_iald C 239 dX5_pipeBy_238 rfl kd_210 (n_inR (n := 7) (by decide) (by decide)) ?_
      refine r_iconst C 240 (v := 1) dX5_pipeBy_239 rfl (by decide) ?_
      refine r_isub C 241 dX5_pipeBy_240 rfl ?_
      refine r_iast C 242 dX5_pipeBy_241 rfl kd_210 (n_inR (n := 7) (by decide) (by decide)) ?_
      refine r_nmS (fun σ241 e241 => ?_)
      have h := h σ241 e241
      refine r_iconst C 243 (v := 5) dX5_pipeBy_242 rfl (by decide) ?_
      exact r_iret (S := []) C r dX5_pipeBy_243 (by decide) rfl h
    · have h := h.2 c226
      refine r_iconst C 230 (v := 0) dX5_pipeBy_229 rfl (by decide) ?_
      exact r_iret (S := []) C r dX5_pipeBy_230 (by decide) rfl h
  · have h := h.2 c195
    refine r_aload_n (j := 0) C 199 dX5_pipeBy_198 rfl rfl ?_
    refine r_get (k := 16) C cl7 202 dX5_pipeBy_199 rfl kd_209 (by decide) wd_1228 (.ref 219) (fun _ => rfl) ?_
    refine r_aload_n (j := 0) C 203 dX5_pipeBy_202 rfl rfl ?_
    refine r_iload (j := 3) C 205 dX5_pipeBy_203 rfl rfl ?_
    refine r_iconst C 206 (v := 0) dX5_pipeBy_205 rfl (by decide) ?_
    refine r_cVI (as := [.int i8, .int 0]) (S := [.ref 219]) C r.px 209 (ct_X5_of _ _ _ _ _ h) dX5_pipeBy_206 rfl cl7 kd_209 wd_47 wd_1368 rfl wd_1366 wd_1369 wd_95 yd_X5_of ⟨Nat.le_of_ble_eq_true rfl, Nat.le_of_ble_eq_true rfl⟩ (Nat.le_of_ble_eq_true rfl) (by decide) (fun r206 σ206 h => ?_)
    obtain ⟨o209, h⟩ := h
    refine r_iald C 210 dX5_pipeBy_209 rfl kd_219 o209 ?_
    refine r_if_lt C 216 213 dX5_pipeBy_210 (by decide) rfl (fun c210 => ?_) (fun c210 => ?_)
    · have h := h.1 c210
      obtain ⟨v216, e216⟩ : ∃ y : Int32, y = i8 + 1 := ⟨_, rfl⟩
      have h := h v216 e216
      refine r_iinc (j := 3) C 219 [(8, .int v216), (0, .ref 209), (6, .int i6), (7, .int i7)] dX5_pipeBy_216 rfl rfl (by rw [e216]; rfl) (by decide) rfl ?_
      refine r_goto C 189 dX5_pipeBy_219 (by decide) ?_
      exact Ws_pick [1, 2, 3, 0] rfl h
    · have h := h.2 c210
      obtain ⟨v213, e213⟩ : ∃ y : Int32, y = i7 + 1 := ⟨_, rfl⟩
      have h := h v213 e213
      refine r_iinc (j := 2) C 216 [(7, .int v213), (0, .ref 209), (6, .int i6), (8, .int i8)] dX5_pipeBy_213 rfl rfl (by rw [e213]; rfl) (by decide) rfl ?_
      obtain ⟨v216, e216⟩ : ∃ y : Int32, y = i8 + 1 := ⟨_, rfl⟩
      have h := h v216 e216
      refine r_iinc (j := 3) C 219 [(8, .int v216), (7, .int v213), (0, .ref 209), (6, .int i6)] dX5_pipeBy_216 rfl rfl (by rw [e216]; rfl) (by decide) rfl ?_
      refine r_goto C 189 dX5_pipeBy_219 (by decide) ?_
      exact Ws_pick [2, 3, 1, 0] rfl h
theorem vc_X5_pipeBy {x : Ctx} {K : Int32 → Mem → Prop} {X : String → Mem → Prop} (C : Cx x RX5 cX5_pipeBy 9) (r : RtI x 4 0 (some .int) K X) (p0 p1 p2 p3 : Int32) (σ : Mem) (h : sp_X5_pipeBy p0 p1 p2 p3 σ K X) : Ws x 0 0 [(0, .ref 209), (1, .int p0), (2, .int p1), (3, .int p2), (4, .int p3)] [] σ := by
  obtain ⟨g, hg, hG, h⟩ := h
  have hP := hg.1
  refine sg_X5_pipeBy_0 C r p0 p1 p2 p3 σ (i_X5_isNode ⟨fun c => ?_, fun c => i_X5_isNode ⟨fun d => ?_, fun d => ?_⟩⟩)
  · have hu : ¬ (¬ p0 < 0 ∧ ¬ 9 < p0) := fun w => by rw [if_pos w] at c; exact absurd c (by decide)
    unfold prN at h
    rw [if_pos (fun w => hu w.1)] at h
    exact h σ (.inl ⟨by decide, by decide, rfl⟩)
  · have hu : (¬ p0 < 0 ∧ ¬ 9 < p0) := Classical.byContradiction fun w => c (by rw [if_neg w])
    have hv : (¬ p1 < 0 ∧ ¬ 9 < p1) := Classical.byContradiction fun w => d (by rw [if_neg w])
    obtain ⟨un, un1, un2⟩ := of_node hu
    obtain ⟨vn, vn1, vn2⟩ := of_node hv
    unfold prN at h
    rw [if_neg (fun w => w ⟨hu, hv⟩)] at h
    refine i_X5_in ⟨fun e => ?_, fun e => i_X5_in ⟨fun f => ?_, fun f => ?_⟩⟩
    · have hl : ¬ (¬ p2 < 1 ∧ ¬ 99 < p2) := fun w => by rw [if_pos w] at e; exact absurd e (by decide)
      rw [if_pos (fun w => hl w.1)] at h
      exact h σ (.inl ⟨by decide, by decide, rfl⟩)
    · have hl : (¬ p2 < 1 ∧ ¬ 99 < p2) := Classical.byContradiction fun w => e (by rw [if_neg w])
      have hr : (¬ p3 < 1 ∧ ¬ 9 < p3) := Classical.byContradiction fun w => f (by rw [if_neg w])
      rw [if_neg (fun w => w ⟨hl, hr⟩), un2, vn2, n_cl (n := un) (by omega), n_cl (n := vn) (by omega)] at h
      rw [un2, vn2]
      refine ⟨fun c1 => ?_, fun c1 => ?_⟩
      · have hne : un ≠ vn := fun w => c1 (by rw [w])
        refine cnt g.1 (fun k (_ : Unit) => ∀ p, p < k → ac g p un ≠ some vn) (fun k _ => Ws x 0 49 [(0, .ref 209), (1, .int (nI un)), (2, .int (nI vn)), (3, .int p2), (4, .int p3), (5, .int (nI k))] [] σ) ?_ ?_ 0 () (Nat.zero_le _) (fun p hp => absurd hp (Nat.not_lt_zero p))
        · intro _ hno
          have hany : ¬ (List.range g.1).any (fun p => decide (ac g p un = some vn)) = true := fun q => by
            obtain ⟨p, p1, p2⟩ := List.any_eq_true.mp q
            exact hno p (List.mem_range.mp p1) (of_decide_eq_true p2)
          rw [if_neg (fun q => by rcases q with q | q; exact c1 q; exact hany q)] at h
          refine sg_X5_pipeBy_49 C r _ _ _ _ _ σ ?_
          show (σ.1 210 7 ≤ nI g.1 → _) ∧ (¬ σ.1 210 7 ≤ nI g.1 → _)
          rw [hG.1]
          refine ⟨fun _ => ?_, fun q => absurd (nI_le (Nat.le_refl g.1) (by omega)) q⟩
          show (¬ σ.1 210 7 = 10 → _) ∧ (σ.1 210 7 = 10 → _)
          rw [hG.1]
          refine ⟨fun q => ?_, fun q => ?_⟩
          · have hlt : g.1 < 10 := by
              have : g.1 ≠ 10 := fun w => q (by rw [w]; rfl)
              omega
            rw [if_neg (by omega)] at h
            intro σ102 e102 v105 e105
            have ev : v105 = nI (8 + 4 * g.1) := by
              rw [e105, show (8 : Int32) = nI 8 from rfl, show (4 : Int32) = nI 4 from rfl, nI_mul, nI_add]
            have ev1 : v105 + 1 = nI (8 + 4 * g.1 + 1) := by rw [ev, nI_1]
            have ev2 : v105 + 2 = nI (8 + 4 * g.1 + 2) := by rw [ev, show (2 : Int32) = nI 2 from rfl, nI_add]
            have ev3 : v105 + 3 = nI (8 + 4 * g.1 + 3) := by rw [ev, show (3 : Int32) = nI 3 from rfl, nI_add]
            rw [ev1, ev2, ev3, ev, n_cl (n := 8 + 4 * g.1) (by omega), n_cl (n := 8 + 4 * g.1 + 1) (by omega), n_cl (n := 8 + 4 * g.1 + 2) (by omega), n_cl (n := 8 + 4 * g.1 + 3) (by omega)]
            rw [nI_1] at e102
            refine ⟨n_inR (by omega) (by decide), fun σ114 e114 => ⟨n_inR (by omega) (by decide), fun σ124 e124 => ⟨n_inR (by omega) (by decide), fun σ134 e134 => ⟨n_inR (by omega) (by decide), fun σ145 e145 => ?_⟩⟩⟩⟩
            have v210 : ∀ k, σ145.1 210 k = if k = 8 + 4 * g.1 + 3 then p3 else if k = 8 + 4 * g.1 + 2 then p2 else if k = 8 + 4 * g.1 + 1 then nI vn else if k = 8 + 4 * g.1 then nI un else if k = 7 then nI (g.1 + 1) else σ.1 210 k := fun k => by
              rw [e145, wi_i]
              by_cases d3 : k = 8 + 4 * g.1 + 3
              · rw [if_pos ⟨rfl, d3⟩, if_pos d3]
              rw [if_neg (fun q => d3 q.2), if_neg d3, e134, wi_i]
              by_cases d2 : k = 8 + 4 * g.1 + 2
              · rw [if_pos ⟨rfl, d2⟩, if_pos d2]
              rw [if_neg (fun q => d2 q.2), if_neg d2, e124, wi_i]
              by_cases d1 : k = 8 + 4 * g.1 + 1
              · rw [if_pos ⟨rfl, d1⟩, if_pos d1]
              rw [if_neg (fun q => d1 q.2), if_neg d1, e114, wi_i]
              by_cases d0 : k = 8 + 4 * g.1
              · rw [if_pos ⟨rfl, d0⟩, if_pos d0]
              rw [if_neg (fun q => d0 q.2), if_neg d0, e102, wi_i]
              by_cases d7 : k = 7
              · rw [if_pos ⟨rfl, d7⟩, if_pos d7]
              · rw [if_neg (fun q => d7 q.2), if_neg d7]
            have hQ : ChQ g.1 σ σ145 := by
              rw [e145, e134, e124, e114, e102]
              exact (((((ChM.rfl' σ).q.w (.inl rfl)).w (.inr ⟨by omega, by omega⟩)).w (.inr ⟨by omega, by omega⟩)).w (.inr ⟨by omega, by omega⟩)).w (.inr ⟨by omega, by omega⟩)
            have hwA := add_wg hg hlt un1 vn1 hne
            have hGA : GM σ145 (addG g un vn) := by
              refine ⟨?_, fun p hp => ?_⟩
              · rw [v210, if_neg (by omega), if_neg (by omega), if_neg (by omega), if_neg (by omega), if_pos rfl]; rfl
              · have hp : p < g.1 + 1 := hp
                show σ145.1 210 (8 + 4 * p) = nI (if p = g.1 then un else g.2.1 p) ∧ σ145.1 210 (8 + 4 * p + 1) = nI (if p = g.1 then vn else g.2.2 p)
                rw [v210, v210]
                by_cases d : p = g.1
                · rw [if_neg (by omega), if_neg (by omega), if_neg (by omega), if_pos (by omega), if_pos d, if_neg (by omega), if_neg (by omega), if_pos (by omega), if_pos d]
                  exact ⟨rfl, rfl⟩
                · rw [if_neg (by omega), if_neg (by omega), if_neg (by omega), if_neg (by omega), if_neg (by omega), if_neg d, if_neg (by omega), if_neg (by omega), if_neg (by omega), if_neg (by omega), if_neg (by omega), if_neg d]
                  exact hG.2 p (by omega)
            refine ⟨addG g un vn, un, hwA, un1, rfl, hGA, fun τ u1 u2 u3 => ?_⟩
            have hC : ChM σ145 τ := ⟨fun a k q => ⟨u1 a k (by omega) (by omega), by rw [u2]⟩, fun k _ _ => u1 209 k (by decide) (by decide), fun k _ => by rw [u2], by rw [u2]⟩
            have hGτ := hGA.ch hC
            have hTA := bfs_tre hwA un1
            have n1 : ndsA g un vn ≤ 10 := ctB_le _ 10
            have n2 : pipA g un vn ≤ g.1 + 1 := ctB_le _ (g.1 + 1)
            -- the pipes of the part
            have H189 : Ws x 0 189 [(0, .ref 209), (6, .int (nI (ndsA g un vn))), (7, .int 0), (8, .int 0)] [] τ := by
              have key := cnt (g.1 + 1) (fun k (_ : Unit) => True) (fun k _ => Ws x 0 189 [(0, .ref 209), (6, .int (nI (ndsA g un vn))), (7, .int (nI (ctB (fun p => decide ((addG g un vn).2.1 p ∈ nds (bfs (addG g un vn) un))) k))), (8, .int (nI k))] [] τ)
                (fun _ _ => by
                  refine sg_X5_pipeBy_189 C r _ _ _ τ ?_
                  show (τ.1 210 7 ≤ nI (g.1 + 1) → _) ∧ (¬ τ.1 210 7 ≤ nI (g.1 + 1) → _)
                  have e7 : τ.1 210 7 = nI (g.1 + 1) := hGτ.1
                  rw [e7]
                  refine ⟨fun _ => ?_, fun q => absurd (nI_le (Nat.le_refl (g.1 + 1)) (by omega)) q⟩
                  show (nI (ndsA g un vn) < nI (pipA g un vn) → _) ∧ (¬ nI (ndsA g un vn) < nI (pipA g un vn) → _)
                  refine ⟨fun z => ?_, fun z => ?_⟩
                  · have z := (nI_ltI (by omega) (by omega)).mp z
                    rw [if_neg (by omega)] at h
                    intro σ241 e241
                    refine h σ241 (.inr (.inl ⟨hlt, rfl, ?_, ?_⟩))
                    · rw [e241]; exact (hQ.trans hC.q).w (.inl rfl)
                    · rw [e241, wi_i, if_pos ⟨rfl, rfl⟩, nI_pred]
                  · have z : ¬ ndsA g un vn < pipA g un vn := fun w => z ((nI_ltI (by omega) (by omega)).mpr w)
                    rw [if_pos (by omega)] at h
                    refine h τ (.inr (.inr ⟨hlt, rfl, hQ.trans hC.q, e7, ?_, ?_, ?_, ?_⟩))
                    · rw [hC.i210, v210, if_neg (by omega), if_neg (by omega), if_neg (by omega), if_pos rfl]
                    · rw [hC.i210, v210, if_neg (by omega), if_neg (by omega), if_pos rfl]
                    · rw [hC.i210, v210, if_neg (by omega), if_pos rfl]
                    · rw [hC.i210, v210, if_pos rfl])
                (fun k _ hk _ ih => by
                  refine sg_X5_pipeBy_189 C r _ _ _ τ ?_
                  show (τ.1 210 7 ≤ nI k → _) ∧ (¬ τ.1 210 7 ≤ nI k → _)
                  have e7 : τ.1 210 7 = nI (g.1 + 1) := hGτ.1
                  rw [e7]
                  refine ⟨fun q => absurd (n_le (by omega) (by omega) q) (by omega), fun _ => i_X5_of (w := 0) (by omega) ?_⟩
                  obtain ⟨f1, -⟩ := hGτ.2 k hk
                  obtain ⟨w1, -, -⟩ := hwA.2 k hk
                  rw [Nat.add_zero, f1, n_cl (n := (addG g un vn).2.1 k) (by omega), u3 _ w1]
                  have ih := ih () trivial
                  have es : ctB (fun p => decide ((addG g un vn).2.1 p ∈ nds (bfs (addG g un vn) un))) (k + 1) = ctB (fun p => decide ((addG g un vn).2.1 p ∈ nds (bfs (addG g un vn) un))) k + if decide ((addG g un vn).2.1 k ∈ nds (bfs (addG g un vn) un)) = true then 1 else 0 := rfl
                  rw [es] at ih
                  refine ⟨n_inR w1 (by decide), fun z v216 e216 => ?_, fun z v213 e213 v216 e216 => ?_⟩
                  · have hz := (fI_lt10 hTA _).mp z
                    rw [if_neg (by simp; exact hz)] at ih
                    rw [e216, nI_1]
                    exact ih
                  · have hz : (addG g un vn).2.1 k ∈ nds (bfs (addG g un vn) un) := Classical.byContradiction fun w => z ((fI_lt10 hTA _).mpr w)
                    rw [if_pos (decide_eq_true hz)] at ih
                    rw [e216, nI_1, e213, nI_1]
                    exact ih) 0 () (Nat.zero_le _) trivial
              exact key
            have key := cnt 10 (fun k (_ : Unit) => True) (fun k _ => Ws x 0 160 [(0, .ref 209), (6, .int (nI (ctB (fun n => decide (n ∈ nds (bfs (addG g un vn) un))) k))), (7, .int 0), (8, .int (nI k))] [] τ)
              (fun _ _ => sg_X5_pipeBy_160 C r _ _ _ τ ⟨fun _ => H189, fun q => (lit_lt (by decide) (Nat.le_refl 10) (by decide) q).elim⟩)
              (fun k _ hk _ ih => by
                refine sg_X5_pipeBy_160 C r _ _ _ τ ⟨fun q => (lit_ge (by decide) hk q).elim, fun _ => ⟨n_inR hk (by decide), ?_⟩⟩
                rw [n_cl (n := k) (by omega), u3 k hk]
                have ih := ih () trivial
                have es : ctB (fun n => decide (n ∈ nds (bfs (addG g un vn) un))) (k + 1) = ctB (fun n => decide (n ∈ nds (bfs (addG g un vn) un))) k + if decide (k ∈ nds (bfs (addG g un vn) un)) = true then 1 else 0 := rfl
                rw [es] at ih
                refine ⟨fun z v180 e180 => ?_, fun z v177 e177 v180 e180 => ?_⟩
                · have hz := (fI_lt10 hTA _).mp z
                  rw [if_neg (by simp; exact hz)] at ih
                  rw [e180, nI_1]
                  exact ih
                · have hz : k ∈ nds (bfs (addG g un vn) un) := Classical.byContradiction fun w => z ((fI_lt10 hTA _).mpr w)
                  rw [if_pos (decide_eq_true hz)] at ih
                  rw [e180, nI_1, e177, nI_1]
                  exact ih) 0 () (Nat.zero_le _) trivial
            exact key
          · have hge : g.1 = 10 := by
              apply Classical.byContradiction
              intro w
              exact w (nI_eq (b := 10) (by omega) (by decide) |>.mp q)
            rw [if_pos hge] at h
            exact h σ (.inl ⟨by decide, by decide, rfl⟩)
        · intro k _ hk hno ih
          refine sg_X5_pipeBy_49 C r _ _ _ _ _ σ ?_
          show (σ.1 210 7 ≤ nI k → _) ∧ (¬ σ.1 210 7 ≤ nI k → _)
          rw [hG.1]
          refine ⟨fun q => absurd (n_le (by omega) (by omega) q) (by omega), fun _ => i_X5_across (by omega) ?_⟩
          rw [acr_ac hg hG hk un1]
          have hs := fI_some vn1 (o := ac g k un) (fun d hd => (ac_lt hg hk hd).1)
          refine ⟨fun z v71 e71 => ?_, fun z => ?_⟩
          · rw [e71, nI_1]
            refine ih () (fun p hp => ?_)
            by_cases d : p = k
            · rw [d]; exact fun w => z (hs.mpr w)
            · exact hno p (by omega)
          · have hany : (List.range g.1).any (fun p => decide (ac g p un = some vn)) = true := List.any_eq_true.mpr ⟨k, List.mem_range.mpr hk, decide_eq_true (hs.mp z)⟩
            rw [if_pos (.inr hany)] at h
            exact h σ (.inl ⟨by decide, by decide, rfl⟩)
      · rw [if_pos (.inl c1)] at h
        exact h σ (.inl ⟨by decide, by decide, rfl⟩)
    · have hr : ¬ (¬ p3 < 1 ∧ ¬ 9 < p3) := fun w => by rw [if_pos w] at f; exact absurd f (by decide)
      rw [if_pos (fun w => hr w.2)] at h
      exact h σ (.inl ⟨by decide, by decide, rfl⟩)
  · have hv : ¬ (¬ p1 < 0 ∧ ¬ 9 < p1) := fun w => by rw [if_pos w] at d; exact absurd d (by decide)
    unfold prN at h
    rw [if_pos (fun w => hv w.2)] at h
    exact h σ (.inl ⟨by decide, by decide, rfl⟩)
theorem ct_X5_pipeBy (p0 : Int32) (p1 : Int32) (p2 : Int32) (p3 : Int32) (σ : Mem) (K : Int32 → Mem → Prop) (X : String → Mem → Prop) (h : sp_X5_pipeBy p0 p1 p2 p3 σ K X) : CtI yX5_pipeBy cX5_pipeBy 9 (some .int) 4 0 [.ref 209, .int p0, .int p1, .int p2, .int p3] σ K X :=
  ctI_of (by decide +kernel) (Nat.le_of_ble_eq_true rfl) (fun x C r => vc_X5_pipeBy C r p0 p1 p2 p3 σ h)
