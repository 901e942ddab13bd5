/-! HeatNetworkModel.stationBy(IIII)I: level 3, exceptions 0 -/
abbrev bt3 (p lo hi : Int32) : Prop := ¬ p < lo ∧ ¬ hi < p
def stB6 (σ : Mem) (n : Nat) (p1 p2 p3 : Int32) : Mem := wi (wi (wi (wi (wi (wi σ 210 (48 + 6 * n) 1) 210 (48 + 6 * n + 1) p1) 210 (48 + 6 * n + 2) p2) 210 (48 + 6 * n + 3) p3) 210 (48 + 6 * n + 4) 0) 210 (48 + 6 * n + 5) 1000
def stZ (σ : Mem) (n : Nat) : Nat → Mem
  | 0 => σ
  | k + 1 => wl (stZ σ n k) 211 (10 * k + n) 0
def sp_X5_stationBy (p0 p1 p2 p3 : Int32) (σ : Mem) (K : Int32 → Mem → Prop) (X : String → Mem → Prop) : Prop := (¬ bt3 p0 1 9 → K 1 σ) ∧ ∀ n, p0 = nI n → 1 ≤ n → n < 10 → (¬ (bt3 p1 1 99 ∧ bt3 p2 200 600 ∧ bt3 p3 1 999) → K 2 σ) ∧ (bt3 p1 1 99 → bt3 p2 200 600 → bt3 p3 1 999 → (σ.1 210 (48 + 6 * n) = 1 → K 6 σ) ∧ (¬ σ.1 210 (48 + 6 * n) = 1 → K 0 (stZ (stB6 σ n p1 p2 p3) n 3)))
set_option maxRecDepth 4000 in
theorem sg_X5_stationBy_0 {x : Ctx} {K : Int32 → Mem → Prop} {X : String → Mem → Prop} (C : Cx x RX5 cX5_stationBy 7) (r : RtI x 3 0 (some .int) K X) (p0 : Int32) (p1 : Int32) (p2 : Int32) (p3 : Int32)  (σ : Mem) (h : sp_X5_in p0 1 9 σ (fun r4 σ4 => (¬ r4 = 0 → sp_X5_in p1 1 99 σ4 (fun r16 σ16 => (r16 = 0 → K 2 σ16) ∧ (¬ r16 = 0 → sp_X5_in p2 200 600 σ16 (fun r29 σ29 => (r29 = 0 → K 2 σ29) ∧ (¬ r29 = 0 → sp_X5_in p3 1 999 σ29 (fun r41 σ41 => (¬ r41 = 0 → sp_X5_hasStation p0 σ41 (fun r51 σ51 => (r51 = 0 → ∀ v67 : Int32, v67 = (48 + (6 * p0)) → (vp_in v67 108) ∧ (∀ σ76 : Mem, σ76 = wi σ51 210 v67.toNatClampNeg 1 → (vp_in (v67 + 1) 108) ∧ (∀ σ86 : Mem, σ86 = wi σ76 210 ((v67 + 1)).toNatClampNeg p1 → (vp_in (v67 + 2) 108) ∧ (∀ σ96 : Mem, σ96 = wi σ86 210 ((v67 + 2)).toNatClampNeg p2 → (vp_in (v67 + 3) 108) ∧ (∀ σ107 : Mem, σ107 = wi σ96 210 ((v67 + 3)).toNatClampNeg p3 → (vp_in (v67 + 4) 108) ∧ (∀ σ117 : Mem, σ117 = wi σ107 210 ((v67 + 4)).toNatClampNeg 0 → (vp_in (v67 + 5) 108) ∧ (∀ σ129 : Mem, σ129 = wi σ117 210 ((v67 + 5)).toNatClampNeg 1000 → Ws x 0 133 [(0, .ref 209), (1, .int p0), (6, .int 0)] [] σ129))))))) ∧ (¬ r51 = 0 → K 6 σ51)) X) ∧ (r41 = 0 → K 2 σ41)) X)) X)) X) ∧ (r4 = 0 → K 1 σ4)) X) : Ws x 0 0 [(0, .ref 209), (1, .int p0), (2, .int p1), (3, .int p2), (4, .int p3)] [] σ := by
  refine r_iload_n (j := 1) C 1 dX5_stationBy_0 rfl rfl ?_
  refine r_iconst C 2 (v := 1) dX5_stationBy_1 rfl (by decide) ?_
  refine r_bipush C 4 (v := 9) dX5_stationBy_2 rfl (by decide) ?_
  refine r_cSI (b := 0) (as := [.int p0, .int 1, .int 9]) (S := []) C r.px 7 (ct_X5_in _ _ _ _ _ _ h) dX5_stationBy_4 rfl wd_1321 wd_1320 wd_1322 wd_95 yd_X5_in ⟨Nat.le_of_ble_eq_true rfl, Nat.le_of_ble_eq_true rfl⟩ (Nat.le_of_ble_eq_true rfl) (by decide) (fun r4 σ4 h => ?_)
  refine r_if_ne C 12 10 dX5_stationBy_7 (by decide) rfl (fun c7 => ?_) (fun c7 => ?_)
  · have h := h.1 c7
    refine r_iload_n (j := 2) C 13 dX5_stationBy_12 rfl rfl ?_
    refine r_iconst C 14 (v := 1) dX5_stationBy_13 rfl (by decide) ?_
    refine r_bipush C 16 (v := 99) dX5_stationBy_14 rfl (by decide) ?_
    refine r_cSI (b := 0) (as := [.int p1, .int 1, .int 99]) (S := []) C r.px 19 (ct_X5_in _ _ _ _ _ _ h) dX5_stationBy_16 rfl wd_1321 wd_1320 wd_1322 wd_95 yd_X5_in ⟨Nat.le_of_ble_eq_true rfl, Nat.le_of_ble_eq_true rfl⟩ (Nat.le_of_ble_eq_true rfl) (by decide) (fun r16 σ16 h => ?_)
    refine r_if_eq C 47 22 dX5_stationBy_19 (by decide) rfl (fun c19 => ?_) (fun c19 => ?_)
    · have h := h.1 c19
      refine r_iconst C 48 (v := 2) dX5_stationBy_47 rfl (by decide) ?_
      exact r_iret (S := []) C r dX5_stationBy_48 (by decide) rfl h
    · have h := h.2 c19
      refine r_iload_n (j := 3) C 23 dX5_stationBy_22 rfl rfl ?_
      refine r_sipush C 26 (v := 200) dX5_stationBy_23 rfl (by decide) ?_
      refine r_sipush C 29 (v := 600) dX5_stationBy_26 rfl (by decide) ?_
      refine r_cSI (b := 0) (as := [.int p2, .int 200, .int 600]) (S := []) C r.px 32 (ct_X5_in _ _ _ _ _ _ h) dX5_stationBy_29 rfl wd_1321 wd_1320 wd_1322 wd_95 yd_X5_in ⟨Nat.le_of_ble_eq_true rfl, Nat.le_of_ble_eq_true rfl⟩ (Nat.le_of_ble_eq_true rfl) (by decide) (fun r29 σ29 h => ?_)
      refine r_if_eq C 47 35 dX5_stationBy_32 (by decide) rfl (fun c32 => ?_) (fun c32 => ?_)
      · have h := h.1 c32
        refine r_iconst C 48 (v := 2) dX5_stationBy_47 rfl (by decide) ?_
        exact r_iret (S := []) C r dX5_stationBy_48 (by decide) rfl h
      · have h := h.2 c32
        refine r_iload (j := 4) C 37 dX5_stationBy_35 rfl rfl ?_
        refine r_iconst C 38 (v := 1) dX5_stationBy_37 rfl (by decide) ?_
        refine r_sipush C 41 (v := 999) dX5_stationBy_38 rfl (by decide) ?_
        refine r_cSI (b := 0) (as := [.int p3, .int 1, .int 999]) (S := []) C r.px 44 (ct_X5_in _ _ _ _ _ _ h) dX5_stationBy_41 rfl wd_1321 wd_1320 wd_1322 wd_95 yd_X5_in ⟨Nat.le_of_ble_eq_true rfl, Nat.le_of_ble_eq_true rfl⟩ (Nat.le_of_ble_eq_true rfl) (by decide) (fun r41 σ41 h => ?_)
        refine r_if_ne C 49 47 dX5_stationBy_44 (by decide) rfl (fun c44 => ?_) (fun c44 => ?_)
        · have h := h.1 c44
          refine r_aload_n (j := 0) C 50 dX5_stationBy_49 rfl rfl ?_
          refine r_iload_n (j := 1) C 51 dX5_stationBy_50 rfl rfl ?_
          refine r_cVI (as := [.int p0]) (S := []) C r.px 54 (ct_X5_hasStation _ _ _ _ h) dX5_stationBy_51 rfl cl7 kd_209 wd_52 wd_1396 rfl wd_1394 wd_1397 wd_95 yd_X5_hasStation ⟨Nat.le_of_ble_eq_true rfl, Nat.le_of_ble_eq_true rfl⟩ (Nat.le_of_ble_eq_true rfl) (by decide) (fun r51 σ51 h => ?_)
          refine r_if_eq C 60 57 dX5_stationBy_54 (by decide) rfl (fun c54 => ?_) (fun c54 => ?_)
          · have h := h.1 c54
            refine r_bipush C 62 (v := 48) dX5_stationBy_60 rfl (by decide) ?_
            refine r_bipush C 64 (v := 6) dX5_stationBy_62 rfl (by decide) ?_
            refine r_iload_n (j := 1) C 65 dX5_stationBy_64 rfl rfl ?_
            refine r_imul C 66 dX5_stationBy_65 rfl ?_
            refine r_iadd C 67 dX5_stationBy_66 rfl ?_
            refine r_nmI (fun v67 e67 => ?_)
            have h := h v67 e67
            refine r_istore C 69 [(5, .int v67), (0, .ref 209), (1, .int p0), (2, .int p1), (3, .int p2), (4, .int p3)] dX5_stationBy_67 rfl (by decide) rfl ?_
            refine r_aload_n (j := 1) C 70 dX5_stationBy_69 rfl rfl ?_
            refine r_get (k := 1) C cl7 73 dX5_stationBy_70 rfl kd_209 (by decide) wd_1213 (.ref 210) (fun _ => rfl) ?_
            refine r_iload (j := 0) C 75 dX5_stationBy_73 rfl rfl ?_
            refine r_iconst C 76 (v := 1) dX5_stationBy_75 rfl (by decide) ?_
            obtain ⟨o76, h⟩ := h
            refine r_iast C 77 dX5_stationBy_76 rfl kd_210 o76 ?_
            refine r_nmS (fun σ76 e76 => ?_)
            have h := h σ76 e76
            refine r_aload_n (j := 1) C 78 dX5_stationBy_77 rfl rfl ?_
            refine r_get (k := 1) C cl7 81 dX5_stationBy_78 rfl kd_209 (by decide) wd_1213 (.ref 210) (fun _ => rfl) ?_
            refine r_iload (j := 0) C 83 dX5_stationBy_81 rfl rfl ?_
            refine r_iconst C 84 (v := 1) dX5_stationBy_83 rfl (by decide) ?_
            refine r_iadd C 85 dX5_stationBy_84 rfl ?_
            refine r_iload_n (j := 3) C 86 dX5_stationBy_85 rfl rfl ?_
            obtain ⟨o86, h⟩ := h
            refine r_iast C 87 dX5_stationBy_86 rfl kd_210 o86 ?_
            refine r_nmS (fun σ86 e86 => ?_)
            have h := h σ86 e86
            refine r_aload_n (j := 1) C 88 dX5_stationBy_87 rfl rfl ?_
            refine r_get (k := 1) C cl7 91 dX5_stationBy_88 rfl kd_209 (by decide) wd_1213 (.ref 210) (fun _ => rfl) ?_
            refine r_iload (j := 0) C 93 dX5_stationBy_91 rfl rfl ?_
            refine r_iconst C 94 (v := 2) dX5_stationBy_93 rfl (by decide) ?_
            refine r_iadd C 95 dX5_stationBy_94 rfl ?_
            refine r_iload_n (j := 4) C 96 dX5_stationBy_95 rfl rfl ?_
            obtain ⟨o96, h⟩ := h
            refine r_iast C 97 dX5_stationBy_96 rfl kd_210 o96 ?_
            refine r_nmS (fun σ96 e96 => ?_)
            have h := h σ96 e96
            refine r_aload_n (j := 1) C 98 dX5_stationBy_97 rfl rfl ?_
            refine r_get (k := 1) C cl7 101 dX5_stationBy_98 rfl kd_209 (by decide) wd_1213 (.ref 210) (fun _ => rfl) ?_
            refine r_iload (j := 0) C 103 dX5_stationBy_101 rfl rfl ?_
            refine r_iconst C 104 (v := 3) dX5_stationBy_103 rfl (by decide) ?_
            refine r_iadd C 105 dX5_stationBy_104 rfl ?_
            refine r_iload (j := 5) C 107 dX5_stationBy_105 rfl rfl ?_
            obtain ⟨o107, h⟩ := h
            refine r_iast C 108 dX5_stationBy_107 rfl kd_210 o107 ?_
            refine r_nmS (fun σ107 e107 => ?_)
            have h := h σ107 e107
            refine r_aload_n (j := 1) C 109 dX5_stationBy_108 rfl rfl ?_
            refine r_get (k := 1) C cl7 112 dX5_stationBy_109 rfl kd_209 (by decide) wd_1213 (.ref 210) (fun _ => rfl) ?_
            refine r_iload (j := 0) C 114 dX5_stationBy_112 rfl rfl ?_
            refine r_iconst C 115 (v := 4) dX5_stationBy_114 rfl (by decide) ?_
            refine r_iadd C 116 dX5_stationBy_115 rfl ?_
            refine r_iconst C 117 (v := 0) dX5_stationBy_116 rfl (by decide) ?_
            obtain ⟨o117, h⟩ := h
            refine r_iast C 118 dX5_stationBy_117 rfl kd_210 o117 ?_
            refine r_nmS (fun σ117 e117 => ?_)
            have h := h σ117 e117
            refine r_aload_n (j := 1) C 119 dX5_stationBy_118 rfl rfl ?_
            refine r_get (k := 1) C cl7 122 dX5_stationBy_119 rfl kd_209 (by decide) wd_1213 (.ref 210) (fun _ => rfl) ?_
            refine r_iload (j := 0) C 124 dX5_stationBy_122 rfl rfl ?_
            refine r_iconst C 125 (v := 5) dX5_stationBy_124 rfl (by decide) ?_
            refine r_iadd C 126 dX5_stationBy_125 rfl ?_
            refine r_sipush C 129 (v := 1000) dX5_stationBy_126 rfl (by decide) ?_
            obtain ⟨o129, h⟩ := h
            refine r_iast C 130 dX5_stationBy_129 rfl kd_210 o129 ?_
            refine r_nmS (fun σ129 e129 => ?_)
            have h := h σ129 e129
            refine r_iconst C 131 (v := 0) dX5_stationBy_130 rfl (by decide) ?_
            refine r_istore C 133 [(6, .int 0), (5, .int v67), (0, .ref 209), (1, .int p0), (2, .int p1), (3, .int p2), (4, .int p3)] dX5_stationBy_131 rfl (by decide) rfl ?_
            exact Ws_pick [2, 3, 0] rfl h
          · have h := h.2 c54
            refine r_bipush C 59 (v := 6) dX5_stationBy_57 rfl (by decide) ?_
            exact r_iret (S := []) C r dX5_stationBy_59 (by decide) rfl h
        · have h := h.2 c44
          refine r_iconst C 48 (v := 2) dX5_stationBy_47 rfl (by decide) ?_
          exact r_iret (S := []) C r dX5_stationBy_48 (by decide) rfl h
  · have h := h.2 c7
    refine r_iconst C 11 (v := 1) dX5_stationBy_10 rfl (by decide) ?_
    exact r_iret (S := []) C r dX5_stationBy_11 (by decide) rfl h
set_option maxRecDepth 4000 in
theorem sg_X5_stationBy_133 {x : Ctx} {K : Int32 → Mem → Prop} {X : String → Mem → Prop} (C : Cx x RX5 cX5_stationBy 7) (r : RtI x 3 0 (some .int) K X) (i1 : Int32) (i6 : Int32)  (σ : Mem) (h : (3 ≤ i6 → K 0 σ) ∧ (¬ 3 ≤ i6 → (vp_in ((10 * i6) + i1) 34) ∧ (∀ σ151 : Mem, σ151 = wl σ 211 (((10 * i6) + i1)).toNatClampNeg 0 → ∀ v152 : Int32, v152 = i6 + 1 → Ws x 0 133 [(0, .ref 209), (1, .int i1), (6, .int v152)] [] σ151))) : Ws x 0 133 [(0, .ref 209), (1, .int i1), (6, .int i6)] [] σ := by
  refine r_iload (j := 2) C 135 dX5_stationBy_133 rfl rfl ?_
  refine r_iconst C 136 (v := 3) dX5_stationBy_135 rfl (by decide) ?_
  refine r_icmp_ge C 158 139 dX5_stationBy_136 (by decide) rfl (fun c136 => ?_) (fun c136 => ?_)
  · have h := h.1 c136
    refine r_iconst C 159 (v := 0) dX5_stationBy_158 rfl (by decide) ?_
    exact r_iret (S := []) C r dX5_stationBy_159 (by decide) rfl h
  · have h := h.2 c136
    refine r_aload_n (j := 0) C 140 dX5_stationBy_139 rfl rfl ?_
    refine r_get (k := 2) C cl7 143 dX5_stationBy_140 rfl kd_209 (by decide) wd_1214 (.ref 211) (fun _ => rfl) ?_
    refine r_bipush C 145 (v := 10) dX5_stationBy_143 rfl (by decide) ?_
    refine r_iload (j := 2) C 147 dX5_stationBy_145 rfl rfl ?_
    refine r_imul C 148 dX5_stationBy_147 rfl ?_
    refine r_iload_n (j := 1) C 149 dX5_stationBy_148 rfl rfl ?_
    refine r_iadd C 150 dX5_stationBy_149 rfl ?_
    refine r_lconst C 151 (v := 0) dX5_stationBy_150 rfl rfl ?_
    obtain ⟨o151, h⟩ := h
    refine r_last C 152 dX5_stationBy_151 rfl kd_211 o151 ?_
    refine r_nmS (fun σ151 e151 => ?_)
    have h := h σ151 e151
    obtain ⟨v152, e152⟩ : ∃ y : Int32, y = i6 + 1 := ⟨_, rfl⟩
    have h := h v152 e152
    refine r_iinc (j := 2) C 155 [(6, .int v152), (0, .ref 209), (1, .int i1)] dX5_stationBy_152 rfl rfl (by rw [e152]; rfl) (by decide) rfl ?_
    refine r_goto C 133 dX5_stationBy_155 (by decide) ?_
    exact Ws_pick [1, 2, 0] rfl h
theorem ite01 {c : Prop} [Decidable c] (h : ¬ (if c then (1 : Int32) else 0) = 0) : c := Classical.byContradiction fun q => h (if_neg q)
theorem ite00 {c : Prop} [Decidable c] (h : (if c then (1 : Int32) else 0) = 0) : ¬ c := fun q => by rw [if_pos q] at h; exact absurd h (by decide)
theorem of_19 {p : Int32} (h : bt3 p 1 9) : ∃ n, p = nI n ∧ 1 ≤ n ∧ n < 10 := by
  obtain ⟨h1, h2⟩ := h
  have e0 : (0 : Int32).toInt = 0 := by decide
  have e1 : (1 : Int32).toInt = 1 := by decide
  have h0 : ¬ p < 0 := fun q => h1 (Int32.lt_iff_toInt_lt.mpr (by have := Int32.lt_iff_toInt_lt.mp q; omega))
  obtain ⟨n, n1, n2⟩ := of_node ⟨h0, h2⟩
  refine ⟨n, n2, ?_, n1⟩
  apply Nat.pos_of_ne_zero
  intro q
  rw [n2, q] at h1
  exact h1 (by decide)
theorem vc_X5_stationBy {x : Ctx} {K : Int32 → Mem → Prop} {X : String → Mem → Prop} (C : Cx x RX5 cX5_stationBy 7) (r : RtI x 3 0 (some .int) K X) (p0 p1 p2 p3 : Int32) (σ : Mem) (h : sp_X5_stationBy p0 p1 p2 p3 σ K X) : Ws x 0 0 [(0, .ref 209), (1, .int p0), (2, .int p1), (3, .int p2), (4, .int p3)] [] σ := by
  obtain ⟨h1, h⟩ := h
  refine sg_X5_stationBy_0 C r p0 p1 p2 p3 σ (i_X5_in ⟨fun c => ?_, fun c => h1 (ite00 c)⟩)
  obtain ⟨n, rfl, n1, n9⟩ := of_19 (ite01 c)
  obtain ⟨h2, h⟩ := h n rfl n1 n9
  refine i_X5_in ⟨fun c => h2 (fun q => ite00 c q.1), fun c1 => i_X5_in ⟨fun c => h2 (fun q => ite00 c q.2.1), fun c2 => i_X5_in ⟨fun c3 => ?_, fun c => h2 (fun q => ite00 c q.2.2)⟩⟩⟩
  obtain ⟨h6, h0⟩ := h (ite01 c1) (ite01 c2) (ite01 c3)
  refine i_X5_hasStation n9 ⟨fun c v67 e67 => ?_, fun c => h6 (ite01 c).2⟩
  have h0 := h0 (fun q => ite00 c ⟨n1, q⟩)
  rw [show (48 : Int32) + 6 * nI n = nI (48 + 6 * n) from by rw [show (48 : Int32) = nI 48 from rfl, show (6 : Int32) = nI 6 from rfl, nI_mul, nI_add]] at e67
  have s : ∀ k : Nat, nI (48 + 6 * n) + nI k = nI (48 + 6 * n + k) := fun k => nI_add ..
  rw [e67, show nI (48 + 6 * n) + 1 = nI (48 + 6 * n + 1) from s 1, show nI (48 + 6 * n) + 2 = nI (48 + 6 * n + 2) from s 2, show nI (48 + 6 * n) + 3 = nI (48 + 6 * n + 3) from s 3, show nI (48 + 6 * n) + 4 = nI (48 + 6 * n + 4) from s 4, show nI (48 + 6 * n) + 5 = nI (48 + 6 * n + 5) from s 5, n_cl (show 48 + 6 * n < 2147483648 by omega), n_cl (show 48 + 6 * n + 1 < 2147483648 by omega), n_cl (show 48 + 6 * n + 2 < 2147483648 by omega), n_cl (show 48 + 6 * n + 3 < 2147483648 by omega), n_cl (show 48 + 6 * n + 4 < 2147483648 by omega), n_cl (show 48 + 6 * n + 5 < 2147483648 by omega)]
  have i : ∀ k, k < 108 → vp_in (nI k) 108 := fun k hk => n_inR hk (by decide)
  refine ⟨i _ (by omega), fun σ76 e76 => ⟨i _ (by omega), fun σ86 e86 => ⟨i _ (by omega), fun σ96 e96 => ⟨i _ (by omega), fun σ107 e107 => ⟨i _ (by omega), fun σ117 e117 => ⟨i _ (by omega), fun σ129 e129 => ?_⟩⟩⟩⟩⟩⟩
  have e : σ129 = stB6 σ n p1 p2 p3 := by rw [e129, e117, e107, e96, e86, e76]; rfl
  rw [e]
  generalize stB6 σ n p1 p2 p3 = σ' at h0 ⊢
  have H := cnt 3 (fun _ (_ : Unit) => True) (fun k _ => Ws x 0 133 [(0, .ref 209), (1, .int (nI n)), (6, .int (nI k))] [] (stZ σ' n k))
    (fun _ _ => sg_X5_stationBy_133 C r _ _ _ ⟨fun _ => h0, fun q => absurd (nI_le (Nat.le_refl 3) (by decide)) q⟩)
    (fun k _ hk _ ih => by
      refine sg_X5_stationBy_133 C r _ _ _ ⟨fun q => absurd hk (by have := n_le (a := 3) (b := k) (by omega) (by omega) q; omega), fun _ => ?_⟩
      rw [show (10 : Int32) * nI k + nI n = nI (10 * k + n) from by rw [show (10 : Int32) = nI 10 from rfl, nI_mul, nI_add], n_cl (show 10 * k + n < 2147483648 by omega)]
      refine ⟨n_inR (by omega) (by decide), fun σ151 e151 v e => ?_⟩
      rw [e, e151, nI_1]
      exact ih () trivial) 0 () (by decide) trivial
  exact H
theorem ct_X5_stationBy (p0 : Int32) (p1 : Int32) (p2 : Int32) (p3 : Int32) (σ : Mem) (K : Int32 → Mem → Prop) (X : String → Mem → Prop) (h : sp_X5_stationBy p0 p1 p2 p3 σ K X) : CtI yX5_stationBy cX5_stationBy 7 (some .int) 3 0 [.ref 209, .int p0, .int p1, .int p2, .int p3] σ K X :=
  ctI_of (by decide +kernel) (Nat.le_of_ble_eq_true rfl) (fun x C r => vc_X5_stationBy C r p0 p1 p2 p3 σ h)
/-! HeatNetworkModel.addStation(IIII)I: level 4, exceptions 0 -/
def sp_X5_addStation (p0 : Int32) (p1 : Int32) (p2 : Int32) (p3 : Int32) (σ : Mem) (K : Int32 → Mem → Prop) (X : String → Mem → Prop) : Prop := (∀ σ2 : Mem, σ2 = wi σ 209 0 0 → sp_X5_tries  σ2 (fun σ6 => sp_X5_stationBy p0 p1 p2 p3 σ6 (fun r15 σ15 => (r15 ≤ 0 → sp_X5_keeps  σ15 (fun σ34 => sp_X5_stations  σ34 (fun r38 σ38 => K r38 σ38) X) X) ∧ (¬ r15 ≤ 0 → sp_X5_refuses r15 1 σ15 (fun r29 σ29 => K r29 σ29) X)) X) X)
set_option maxRecDepth 4000 in
theorem sg_X5_addStation_0 {x : Ctx} {K : Int32 → Mem → Prop} {X : String → Mem → Prop} (C : Cx x RX5 cX5_addStation 6) (r : RtI x 4 0 (some .int) K X) (p0 : Int32) (p1 : Int32) (p2 : Int32) (p3 : Int32)  (σ : Mem) (h : ∀ σ2 : Mem, σ2 = wi σ 209 0 0 → sp_X5_tries  σ2 (fun σ6 => sp_X5_stationBy p0 p1 p2 p3 σ6 (fun r15 σ15 => (r15 ≤ 0 → sp_X5_keeps  σ15 (fun σ34 => sp_X5_stations  σ34 (fun r38 σ38 => K r38 σ38) X) X) ∧ (¬ r15 ≤ 0 → sp_X5_refuses r15 1 σ15 (fun r29 σ29 => K r29 σ29) X)) X) X) : Ws x 0 0 [(0, .ref 209), (1, .int p0), (2, .int p1), (3, .int p2), (4, .int p3)] [] σ := by
  refine r_aload_n (j := 0) C 1 dX5_addStation_0 rfl rfl ?_
  refine r_iconst C 2 (v := 0) dX5_addStation_1 rfl (by decide) ?_
  refine r_putI (k := 0) C cl7 5 dX5_addStation_2 rfl kd_209 (by decide) wd_1212 rfl rfl rfl rfl ?_
  refine r_nmS (fun σ2 e2 => ?_)
  have h := h σ2 e2
  refine r_aload_n (j := 0) C 6 dX5_addStation_5 rfl rfl ?_
  refine r_cVV (as := []) (S := []) C r.px 9 (ct_X5_tries  _ _ _ h) dX5_addStation_6 rfl cl7 kd_209 wd_42 wd_1337 rfl wd_1335 wd_1338 wd_95 yd_X5_tries ⟨Nat.le_of_ble_eq_true rfl, Nat.le_of_ble_eq_true rfl⟩ (Nat.le_of_ble_eq_true rfl) (by decide) (fun σ6 h => ?_)
  refine r_aload_n (j := 0) C 10 dX5_addStation_9 rfl rfl ?_
  refine r_iload_n (j := 1) C 11 dX5_addStation_10 rfl rfl ?_
  refine r_iload_n (j := 2) C 12 dX5_addStation_11 rfl rfl ?_
  refine r_iload_n (j := 3) C 13 dX5_addStation_12 rfl rfl ?_
  refine r_iload (j := 4) C 15 dX5_addStation_13 rfl rfl ?_
  refine r_cVI (as := [.int p0, .int p1, .int p2, .int p3]) (S := []) C r.px 18 (ct_X5_stationBy _ _ _ _ _ _ _ h) dX5_addStation_15 rfl cl7 kd_209 wd_51 wd_1392 rfl wd_1390 wd_1393 wd_95 yd_X5_stationBy ⟨Nat.le_of_ble_eq_true rfl, Nat.le_of_ble_eq_true rfl⟩ (Nat.le_of_ble_eq_true rfl) (by decide) (fun r15 σ15 h => ?_)
  refine r_istore C 20 [(5, .int r15), (0, .ref 209), (1, .int p0), (2, .int p1), (3, .int p2), (4, .int p3)] dX5_addStation_18 rfl (by decide) rfl ?_
  refine r_iload (j := 0) C 22 dX5_addStation_20 rfl rfl ?_
  refine r_if_le C 33 25 dX5_addStation_22 (by decide) rfl (fun c22 => ?_) (fun c22 => ?_)
  · have h := h.1 c22
    refine r_aload_n (j := 1) C 34 dX5_addStation_33 rfl rfl ?_
    refine r_cVV (as := []) (S := []) C r.px 37 (ct_X5_keeps  _ _ _ h) dX5_addStation_34 rfl cl7 kd_209 wd_43 wd_1341 rfl wd_1339 wd_1342 wd_95 yd_X5_keeps ⟨Nat.le_of_ble_eq_true rfl, Nat.le_of_ble_eq_true rfl⟩ (Nat.le_of_ble_eq_true rfl) (by decide) (fun σ34 h => ?_)
    refine r_aload_n (j := 1) C 38 dX5_addStation_37 rfl rfl ?_
    refine r_cVI (as := []) (S := []) C r.px 41 (ct_X5_stations  _ _ _ h) dX5_addStation_38 rfl cl7 kd_209 wd_53 wd_1400 rfl wd_1398 wd_1401 wd_95 yd_X5_stations ⟨Nat.le_of_ble_eq_true rfl, Nat.le_of_ble_eq_true rfl⟩ (Nat.le_of_ble_eq_true rfl) (by decide) (fun r38 σ38 h => ?_)
    exact r_iret (S := []) C r dX5_addStation_41 (by decide) rfl h
  · have h := h.2 c22
    refine r_aload_n (j := 1) C 26 dX5_addStation_25 rfl rfl ?_
    refine r_iload (j := 0) C 28 dX5_addStation_26 rfl rfl ?_
    refine r_iconst C 29 (v := 1) dX5_addStation_28 rfl (by decide) ?_
    refine r_cVI (as := [.int r15, .int 1]) (S := []) C r.px 32 (ct_X5_refuses _ _ _ _ _ h) dX5_addStation_29 rfl cl7 kd_209 wd_49 wd_1376 rfl wd_1374 wd_1377 wd_95 yd_X5_refuses ⟨Nat.le_of_ble_eq_true rfl, Nat.le_of_ble_eq_true rfl⟩ (Nat.le_of_ble_eq_true rfl) (by decide) (fun r29 σ29 h => ?_)
    exact r_iret (S := []) C r dX5_addStation_32 (by decide) rfl h
theorem ct_X5_addStation (p0 : Int32) (p1 : Int32) (p2 : Int32) (p3 : Int32) (σ : Mem) (K : Int32 → Mem → Prop) (X : String → Mem → Prop) (h : sp_X5_addStation p0 p1 p2 p3 σ K X) : CtI yX5_addStation cX5_addStation 6 (some .int) 4 0 [.ref 209, .int p0, .int p1, .int p2, .int p3] σ K X := by
  have h := h
  exact ctI_of (by decide +kernel) (Nat.le_of_ble_eq_true rfl) (fun x C r => sg_X5_addStation_0 C r p0 p1 p2 p3  σ h)
