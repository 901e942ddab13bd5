/-! HeatNetworkModel.hoursBy(I)I: level 7, exceptions 0 -/
/-- the sums of station n after m hours -/
def hrR (τ : Mem) (w : Nat → Int32) (dr T : Nat → Nat) (l : Nat → Nat → Int64) (n : Nat) (m : Int) : Prop := l 211 n = τ.2.1 211 n + cnW w n (zL (htZ w dr T n)) * zL m ∧ l 211 (10 + n) = τ.2.1 211 (10 + n) + zL (htZ w dr T n) * zL m ∧ l 211 (20 + n) = τ.2.1 211 (20 + n) + pyW w n (cnW w n (zL (htZ w dr T n))) * zL m
/-- the sums of the network after m hours, but for the payments -/
def hrT (τ : Mem) (w : Nat → Int32) (dr T : Nat → Nat) (l : Nat → Nat → Int64) (m : Int) : Prop := l 211 30 = τ.2.1 211 30 + zL m ∧ l 211 31 = τ.2.1 211 31 + τ.2.1 227 0 * (τ.1 210 0 - τ.1 230 0).toInt64 * zL m ∧ l 211 32 = τ.2.1 211 32 + zL (smZ (htZ w dr T) 10) * zL m
def hrO (τ : Mem) (w : Nat → Int32) (dr T : Nat → Nat) (l : Nat → Nat → Int64) (m : Int) : Prop := (∀ b j, b ≠ 211 → l b j = τ.2.1 b j) ∧ (∀ n, n < 10 → hasW w n → hrR τ w dr T l n m) ∧ hrT τ w dr T l m ∧ l 211 33 = τ.2.1 211 33 + smL (pyN w dr T) 10 * zL m
def sp_X5_hoursBy (p0 : Int32) (σ : Mem) (K : Int32 → Mem → Prop) (X : String → Mem → Prop) : Prop := (¬ bt3 p0 1 24 → K 2 σ) ∧ (bt3 p0 1 24 → ∃ h : Nat, p0 = nI h ∧ h ≤ 24 ∧ sp_X5_looks σ (fun τ => ∃ (w : Nat → Int32) (g : Gr) (c : Lp) (R : Nat) (dr B T S : Nat → Nat) (z : Int) (f : Nat → Int32), WFw w g ∧ (∀ k, k < 108 → τ.1 210 k = w k) ∧ LPo g (bfs g 0) c ∧ LkB w g c dr B T S z f ∧ ReF w g c R dr B T S z f τ ∧ (∀ n, n < 10 → dr n ≤ 999 ∧ (dr n ≠ 0 → n ∈ nds (bfs g 0))) ∧ ∀ v, GMx (fun n => n < 10 ∧ hasW w n ∧ dr n ≠ 0) (fun n => zL (hdN w (bfs g 0) c B (lf g (bfs g 0) c dr B z) n)) v → (v ≤ (w 4).toInt64 → ∀ l, hrO τ w dr T l (h : Int) → K 0 (τ.1, l, τ.2.2)) ∧ (¬ v ≤ (w 4).toInt64 → K 7 τ)) X)
set_option maxRecDepth 4000 in
theorem sg_X5_hoursBy_0 {x : Ctx} {K : Int32 → Mem → Prop} {X : String → Mem → Prop} (C : Cx x RX5 cX5_hoursBy 4) (r : RtI x 7 0 (some .int) K X) (p0 : Int32)  (σ : Mem) (h : sp_X5_in p0 1 24 σ (fun r4 σ4 => (¬ r4 = 0 → sp_X5_looks  σ4 (fun σ13 => sp_X5_needed  σ13 (fun r17 σ17 => (r17 ≤ ((σ17.1 210 4)).toInt64 → Ws x 0 36 [(0, .ref 209), (1, .int p0), (2, .int 0)] [] σ17) ∧ (¬ r17 ≤ ((σ17.1 210 4)).toInt64 → K 7 σ17)) X) X) ∧ (r4 = 0 → K 2 σ4)) X) : Ws x 0 0 [(0, .ref 209), (1, .int p0)] [] σ := by
  refine r_iload_n (j := 1) C 1 dX5_hoursBy_0 rfl rfl ?_
  refine r_iconst C 2 (v := 1) dX5_hoursBy_1 rfl (by decide) ?_
  refine r_bipush C 4 (v := 24) dX5_hoursBy_2 rfl (by decide) ?_
  refine r_cSI (b := 0) (as := [.int p0, .int 1, .int 24]) (S := []) C r.px 7 (ct_X5_in _ _ _ _ _ _ h) dX5_hoursBy_4 rfl wd_1321 wd_1320 wd_1322 wd_95 yd_X5_in ⟨Nat.le_of_ble_eq_true rfl, Nat.le_of_ble_eq_true rfl⟩ (Nat.le_of_ble_eq_true rfl) (by decide) (fun r4 σ4 h => ?_)
  refine r_if_ne C 12 10 dX5_hoursBy_7 (by decide) rfl (fun c7 => ?_) (fun c7 => ?_)
  · have h := h.1 c7
    refine r_aload_n (j := 0) C 13 dX5_hoursBy_12 rfl rfl ?_
    refine r_cVV (as := []) (S := []) C r.px 16 (ct_X5_looks  _ _ _ h) dX5_hoursBy_13 rfl cl7 kd_209 wd_56 wd_1428 rfl wd_1426 wd_1429 wd_95 yd_X5_looks ⟨Nat.le_of_ble_eq_true rfl, Nat.le_of_ble_eq_true rfl⟩ (Nat.le_of_ble_eq_true rfl) (by decide) (fun σ13 h => ?_)
    refine r_aload_n (j := 0) C 17 dX5_hoursBy_16 rfl rfl ?_
    refine r_cVL (as := []) (S := []) C r.px 20 (ct_X5_needed  _ _ _ h) dX5_hoursBy_17 rfl cl7 kd_209 wd_72 wd_1503 rfl wd_1501 wd_1504 wd_95 yd_X5_needed ⟨Nat.le_of_ble_eq_true rfl, Nat.le_of_ble_eq_true rfl⟩ (Nat.le_of_ble_eq_true rfl) (by decide) (fun r17 σ17 h => ?_)
    refine r_aload_n (j := 0) C 21 dX5_hoursBy_20 rfl rfl ?_
    refine r_get (k := 1) C cl7 24 dX5_hoursBy_21 rfl kd_209 (by decide) wd_1213 (.ref 210) (fun _ => rfl) ?_
    refine r_iconst C 25 (v := 4) dX5_hoursBy_24 rfl (by decide) ?_
    refine r_iald C 26 dX5_hoursBy_25 rfl kd_210 (n_inR (n := 4) (by decide) (by decide)) ?_
    refine r_i2l C 27 dX5_hoursBy_26 rfl ?_
    refine r_lcmp_le C 28 34 31 dX5_hoursBy_27 rfl dX5_hoursBy_28 (by decide) rfl (fun c27 => ?_) (fun c27 => ?_)
    · have h := h.1 c27
      refine r_iconst C 35 (v := 0) dX5_hoursBy_34 rfl (by decide) ?_
      refine r_istore_n C 36 [(2, .int 0), (0, .ref 209), (1, .int p0)] dX5_hoursBy_35 rfl (by decide) rfl ?_
      exact Ws_pick [1, 2, 0] rfl h
    · have h := h.2 c27
      refine r_bipush C 33 (v := 7) dX5_hoursBy_31 rfl (by decide) ?_
      exact r_iret (S := []) C r dX5_hoursBy_33 (by decide) rfl h
  · have h := h.2 c7
    refine r_iconst C 11 (v := 2) dX5_hoursBy_10 rfl (by decide) ?_
    exact r_iret (S := []) C r dX5_hoursBy_11 (by decide) rfl h
set_option maxRecDepth 4000 in
theorem sg_X5_hoursBy_36 {x : Ctx} {K : Int32 → Mem → Prop} {X : String → Mem → Prop} (C : Cx x RX5 cX5_hoursBy 4) (r : RtI x 7 0 (some .int) K X) (i1 : Int32) (i2 : Int32)  (σ : Mem) (h : (i1 ≤ i2 → K 0 σ) ∧ (¬ i1 ≤ i2 → ∀ σ51 : Mem, σ51 = wl σ 211 30 ((σ.2.1 211 30) + 1) → sp_X5_made  σ51 (fun r61 σ61 => ∀ σ65 : Mem, σ65 = wl σ61 211 31 ((σ51.2.1 211 31) + r61) → sp_X5_allHeat  σ65 (fun r75 σ75 => ∀ σ79 : Mem, σ79 = wl σ75 211 32 ((σ65.2.1 211 32) + r75) → Ws x 0 82 [(0, .ref 209), (1, .int i1), (2, .int i2), (3, .int 1)] [] σ79) X) X)) : Ws x 0 36 [(0, .ref 209), (1, .int i1), (2, .int i2)] [] σ := by
  refine r_iload_n (j := 2) C 37 dX5_hoursBy_36 rfl rfl ?_
  refine r_iload_n (j := 1) C 38 dX5_hoursBy_37 rfl rfl ?_
  refine r_icmp_ge C 176 41 dX5_hoursBy_38 (by decide) rfl (fun c38 => ?_) (fun c38 => ?_)
  · have h := h.1 c38
    refine r_iconst C 177 (v := 0) dX5_hoursBy_176 rfl (by decide) ?_
    exact r_iret (S := []) C r dX5_hoursBy_177 (by decide) rfl h
  · have h := h.2 c38
    refine r_aload_n (j := 0) C 42 dX5_hoursBy_41 rfl rfl ?_
    refine r_get (k := 2) C cl7 45 dX5_hoursBy_42 rfl kd_209 (by decide) wd_1214 (.ref 211) (fun _ => rfl) ?_
    refine r_bipush C 47 (v := 30) dX5_hoursBy_45 rfl (by decide) ?_
    refine r_dup2 C 48 dX5_hoursBy_47 rfl rfl rfl ?_
    refine r_lald C 49 dX5_hoursBy_48 rfl kd_211 (n_inR (n := 30) (by decide) (by decide)) ?_
    refine r_lconst C 50 (v := 1) dX5_hoursBy_49 rfl rfl ?_
    refine r_ladd C 51 dX5_hoursBy_50 rfl ?_
    refine r_last C 52 dX5_hoursBy_51 rfl kd_211 (n_inR (n := 30) (by decide) (by decide)) ?_
    refine r_nmS (fun σ51 e51 => ?_)
    have h := h σ51 e51
    refine r_aload_n (j := 0) C 53 dX5_hoursBy_52 rfl rfl ?_
    refine r_get (k := 2) C cl7 56 dX5_hoursBy_53 rfl kd_209 (by decide) wd_1214 (.ref 211) (fun _ => rfl) ?_
    refine r_bipush C 58 (v := 31) dX5_hoursBy_56 rfl (by decide) ?_
    refine r_dup2 C 59 dX5_hoursBy_58 rfl rfl rfl ?_
    refine r_lald C 60 dX5_hoursBy_59 rfl kd_211 (n_inR (n := 31) (by decide) (by decide)) ?_
    refine r_aload_n (j := 0) C 61 dX5_hoursBy_60 rfl rfl ?_
    refine r_cVL (as := []) (S := [.long (σ51.2.1 211 31), .int 31, .ref 211]) C r.px 64 (ct_X5_made  _ _ _ h) dX5_hoursBy_61 rfl cl7 kd_209 wd_74 wd_1511 rfl wd_1509 wd_1512 wd_95 yd_X5_made ⟨Nat.le_of_ble_eq_true rfl, Nat.le_of_ble_eq_true rfl⟩ (Nat.le_of_ble_eq_true rfl) (by decide) (fun r61 σ61 h => ?_)
    refine r_ladd C 65 dX5_hoursBy_64 rfl ?_
    refine r_last C 66 dX5_hoursBy_65 rfl kd_211 (n_inR (n := 31) (by decide) (by decide)) ?_
    refine r_nmS (fun σ65 e65 => ?_)
    have h := h σ65 e65
    refine r_aload_n (j := 0) C 67 dX5_hoursBy_66 rfl rfl ?_
    refine r_get (k := 2) C cl7 70 dX5_hoursBy_67 rfl kd_209 (by decide) wd_1214 (.ref 211) (fun _ => rfl) ?_
    refine r_bipush C 72 (v := 32) dX5_hoursBy_70 rfl (by decide) ?_
    refine r_dup2 C 73 dX5_hoursBy_72 rfl rfl rfl ?_
    refine r_lald C 74 dX5_hoursBy_73 rfl kd_211 (n_inR (n := 32) (by decide) (by decide)) ?_
    refine r_aload_n (j := 0) C 75 dX5_hoursBy_74 rfl rfl ?_
    refine r_cVL (as := []) (S := [.long (σ65.2.1 211 32), .int 32, .ref 211]) C r.px 78 (ct_X5_allHeat  _ _ _ h) dX5_hoursBy_75 rfl cl7 kd_209 wd_75 wd_1515 rfl wd_1513 wd_1516 wd_95 yd_X5_allHeat ⟨Nat.le_of_ble_eq_true rfl, Nat.le_of_ble_eq_true rfl⟩ (Nat.le_of_ble_eq_true rfl) (by decide) (fun r75 σ75 h => ?_)
    refine r_ladd C 79 dX5_hoursBy_78 rfl ?_
    refine r_last C 80 dX5_hoursBy_79 rfl kd_211 (n_inR (n := 32) (by decide) (by decide)) ?_
    refine r_nmS (fun σ79 e79 => ?_)
    have h := h σ79 e79
    refine r_iconst C 81 (v := 1) dX5_hoursBy_80 rfl (by decide) ?_
    refine r_istore_n C 82 [(3, .int 1), (0, .ref 209), (1, .int i1), (2, .int i2)] dX5_hoursBy_81 rfl (by decide) rfl ?_
    exact Ws_pick [1, 2, 3, 0] rfl h
set_option maxRecDepth 4000 in
theorem sg_X5_hoursBy_82 {x : Ctx} {K : Int32 → Mem → Prop} {X : String → Mem → Prop} (C : Cx x RX5 cX5_hoursBy 4) (r : RtI x 7 0 (some .int) K X) (i1 : Int32) (i2 : Int32) (i3 : Int32)  (σ : Mem) (h : (10 ≤ i3 → ∀ v170 : Int32, v170 = i2 + 1 → Ws x 0 36 [(0, .ref 209), (1, .int i1), (2, .int v170)] [] σ) ∧ (¬ 10 ≤ i3 → sp_X5_hasStation i3 σ (fun r90 σ90 => (¬ r90 = 0 → (vp_in (0 + i3) 34) ∧ (sp_X5_counts i3 σ90 (fun r110 σ110 => (vp_in (0 + i3) 34) ∧ (∀ σ114 : Mem, σ114 = wl σ110 211 ((0 + i3)).toNatClampNeg ((σ90.2.1 211 ((0 + i3)).toNatClampNeg) + r110) → (vp_in (10 + i3) 34) ∧ (sp_X5_heat i3 σ114 (fun r127 σ127 => (vp_in (10 + i3) 34) ∧ (∀ σ131 : Mem, σ131 = wl σ127 211 ((10 + i3)).toNatClampNeg ((σ114.2.1 211 ((10 + i3)).toNatClampNeg) + r127) → (vp_in (20 + i3) 34) ∧ (sp_X5_pays i3 σ131 (fun r144 σ144 => (vp_in (20 + i3) 34) ∧ (∀ σ148 : Mem, σ148 = wl σ144 211 ((20 + i3)).toNatClampNeg ((σ131.2.1 211 ((20 + i3)).toNatClampNeg) + r144) → sp_X5_pays i3 σ148 (fun r159 σ159 => ∀ σ163 : Mem, σ163 = wl σ159 211 33 ((σ148.2.1 211 33) + r159) → ∀ v164 : Int32, v164 = i3 + 1 → Ws x 0 82 [(0, .ref 209), (1, .int i1), (2, .int i2), (3, .int v164)] [] σ163) X)) X))) X))) X)) ∧ (r90 = 0 → ∀ v164 : Int32, v164 = i3 + 1 → Ws x 0 82 [(0, .ref 209), (1, .int i1), (2, .int i2), (3, .int v164)] [] σ90)) X)) : Ws x 0 82 [(0, .ref 209), (1, .int i1), (2, .int i2), (3, .int i3)] [] σ := by
  refine r_iload_n (j := 3) C 83 dX5_hoursBy_82 rfl rfl ?_
  refine r_bipush C 85 (v := 10) dX5_hoursBy_83 rfl (by decide) ?_
  refine r_icmp_ge C 170 88 dX5_hoursBy_85 (by decide) rfl (fun c85 => ?_) (fun c85 => ?_)
  · have h := h.1 c85
    obtain ⟨v170, e170⟩ : ∃ y : Int32, y = i2 + 1 := ⟨_, rfl⟩
    have h := h v170 e170
    refine r_iinc (j := 2) C 173 [(2, .int v170), (0, .ref 209), (1, .int i1), (3, .int i3)] dX5_hoursBy_170 rfl rfl (by rw [e170]; rfl) (by decide) rfl ?_
    refine r_goto C 36 dX5_hoursBy_173 (by decide) ?_
    exact Ws_pick [1, 2, 0] rfl h
  · have h := h.2 c85
    refine r_aload_n (j := 0) C 89 dX5_hoursBy_88 rfl rfl ?_
    refine r_iload_n (j := 3) C 90 dX5_hoursBy_89 rfl rfl ?_
    refine r_cVI (as := [.int i3]) (S := []) C r.px 93 (ct_X5_hasStation _ _ _ _ h) dX5_hoursBy_90 rfl cl7 kd_209 wd_52 wd_1396 rfl wd_1394 wd_1397 wd_95 yd_X5_hasStation ⟨Nat.le_of_ble_eq_true rfl, Nat.le_of_ble_eq_true rfl⟩ (Nat.le_of_ble_eq_true rfl) (by decide) (fun r90 σ90 h => ?_)
    refine r_if_ne C 99 96 dX5_hoursBy_93 (by decide) rfl (fun c93 => ?_) (fun c93 => ?_)
    · have h := h.1 c93
      refine r_aload_n (j := 0) C 100 dX5_hoursBy_99 rfl rfl ?_
      refine r_get (k := 2) C cl7 103 dX5_hoursBy_100 rfl kd_209 (by decide) wd_1214 (.ref 211) (fun _ => rfl) ?_
      refine r_iconst C 104 (v := 0) dX5_hoursBy_103 rfl (by decide) ?_
      refine r_iload_n (j := 3) C 105 dX5_hoursBy_104 rfl rfl ?_
      refine r_iadd C 106 dX5_hoursBy_105 rfl ?_
      refine r_dup2 C 107 dX5_hoursBy_106 rfl rfl rfl ?_
      obtain ⟨o107, h⟩ := h
      refine r_lald C 108 dX5_hoursBy_107 rfl kd_211 o107 ?_
      refine r_aload_n (j := 0) C 109 dX5_hoursBy_108 rfl rfl ?_
      refine r_iload_n (j := 3) C 110 dX5_hoursBy_109 rfl rfl ?_
      refine r_cVL (as := [.int i3]) (S := [.long (σ90.2.1 211 ((0 + i3)).toNatClampNeg), .int (0 + i3), .ref 211]) C r.px 113 (ct_X5_counts _ _ _ _ h) dX5_hoursBy_110 rfl cl7 kd_209 wd_77 wd_1523 rfl wd_1521 wd_1524 wd_95 yd_X5_counts ⟨Nat.le_of_ble_eq_true rfl, Nat.le_of_ble_eq_true rfl⟩ (Nat.le_of_ble_eq_true rfl) (by decide) (fun r110 σ110 h => ?_)
      refine r_ladd C 114 dX5_hoursBy_113 rfl ?_
      obtain ⟨o114, h⟩ := h
      refine r_last C 115 dX5_hoursBy_114 rfl kd_211 o114 ?_
      refine r_nmS (fun σ114 e114 => ?_)
      have h := h σ114 e114
      refine r_aload_n (j := 0) C 116 dX5_hoursBy_115 rfl rfl ?_
      refine r_get (k := 2) C cl7 119 dX5_hoursBy_116 rfl kd_209 (by decide) wd_1214 (.ref 211) (fun _ => rfl) ?_
      refine r_bipush C 121 (v := 10) dX5_hoursBy_119 rfl (by decide) ?_
      refine r_iload_n (j := 3) C 122 dX5_hoursBy_121 rfl rfl ?_
      refine r_iadd C 123 dX5_hoursBy_122 rfl ?_
      refine r_dup2 C 124 dX5_hoursBy_123 rfl rfl rfl ?_
      obtain ⟨o124, h⟩ := h
      refine r_lald C 125 dX5_hoursBy_124 rfl kd_211 o124 ?_
      refine r_aload_n (j := 0) C 126 dX5_hoursBy_125 rfl rfl ?_
      refine r_iload_n (j := 3) C 127 dX5_hoursBy_126 rfl rfl ?_
      refine r_cVL (as := [.int i3]) (S := [.long (σ114.2.1 211 ((10 + i3)).toNatClampNeg), .int (10 + i3), .ref 211]) C r.px 130 (ct_X5_heat _ _ _ _ h) dX5_hoursBy_127 rfl cl7 kd_209 wd_76 wd_1519 rfl wd_1517 wd_1520 wd_95 yd_X5_heat ⟨Nat.le_of_ble_eq_true rfl, Nat.le_of_ble_eq_true rfl⟩ (Nat.le_of_ble_eq_true rfl) (by decide) (fun r127 σ127 h => ?_)
      refine r_ladd C 131 dX5_hoursBy_130 rfl ?_
      obtain ⟨o131, h⟩ := h
      refine r_last C 132 dX5_hoursBy_131 rfl kd_211 o131 ?_
      refine r_nmS (fun σ131 e131 => ?_)
      have h := h σ131 e131
      refine r_aload_n (j := 0) C 133 dX5_hoursBy_132 rfl rfl ?_
      refine r_get (k := 2) C cl7 136 dX5_hoursBy_133 rfl kd_209 (by decide) wd_1214 (.ref 211) (fun _ => rfl) ?_
      refine r_bipush C 138 (v := 20) dX5_hoursBy_136 rfl (by decide) ?_
      refine r_iload_n (j := 3) C 139 dX5_hoursBy_138 rfl rfl ?_
      refine r_iadd C 140 dX5_hoursBy_139 rfl ?_
      refine r_dup2 C 141 dX5_hoursBy_140 rfl rfl rfl ?_
      obtain ⟨o141, h⟩ := h
      refine r_lald C 142 dX5_hoursBy_141 rfl kd_211 o141 ?_
      refine r_aload_n (j := 0) C 143 dX5_hoursBy_142 rfl rfl ?_
      refine r_iload_n (j := 3) C 144 dX5_hoursBy_143 rfl rfl ?_
      refine r_cVL (as := [.int i3]) (S := [.long (σ131.2.1 211 ((20 + i3)).toNatClampNeg), .int (20 + i3), .ref 211]) C r.px 147 (ct_X5_pays _ _ _ _ h) dX5_hoursBy_144 rfl cl7 kd_209 wd_78 wd_1528 rfl wd_1526 wd_1529 wd_95 yd_X5_pays ⟨Nat.le_of_ble_eq_true rfl, Nat.le_of_ble_eq_true rfl⟩ (Nat.le_of_ble_eq_true rfl) (by decide) (fun r144 σ144 h => ?_)
      refine r_ladd C 148 dX5_hoursBy_147 rfl ?_
      obtain ⟨o148, h⟩ := h
      refine r_last C 149 dX5_hoursBy_148 rfl kd_211 o148 ?_
      refine r_nmS (fun σ148 e148 => ?_)
      have h := h σ148 e148
      refine r_aload_n (j := 0) C 150 dX5_hoursBy_149 rfl rfl ?_
      refine r_get (k := 2) C cl7 153 dX5_hoursBy_150 rfl kd_209 (by decide) wd_1214 (.ref 211) (fun _ => rfl) ?_
      refine r_bipush C 155 (v := 33) dX5_hoursBy_153 rfl (by decide) ?_
      refine r_dup2 C 156 dX5_hoursBy_155 rfl rfl rfl ?_
      refine r_lald C 157 dX5_hoursBy_156 rfl kd_211 (n_inR (n := 33) (by decide) (by decide)) ?_
      refine r_aload_n (j := 0) C 158 dX5_hoursBy_157 rfl rfl ?_
      refine r_iload_n (j := 3) C 159 dX5_hoursBy_158 rfl rfl ?_
      refine r_cVL (as := [.int i3]) (S := [.long (σ148.2.1 211 33), .int 33, .ref 211]) C r.px 162 (ct_X5_pays _ _ _ _ h) dX5_hoursBy_159 rfl cl7 kd_209 wd_78 wd_1528 rfl wd_1526 wd_1529 wd_95 yd_X5_pays ⟨Nat.le_of_ble_eq_true rfl, Nat.le_of_ble_eq_true rfl⟩ (Nat.le_of_ble_eq_true rfl) (by decide) (fun r159 σ159 h => ?_)
      refine r_ladd C 163 dX5_hoursBy_162 rfl ?_
      refine r_last C 164 dX5_hoursBy_163 rfl kd_211 (n_inR (n := 33) (by decide) (by decide)) ?_
      refine r_nmS (fun σ163 e163 => ?_)
      have h := h σ163 e163
      obtain ⟨v164, e164⟩ : ∃ y : Int32, y = i3 + 1 := ⟨_, rfl⟩
      have h := h v164 e164
      refine r_iinc (j := 3) C 167 [(3, .int v164), (0, .ref 209), (1, .int i1), (2, .int i2)] dX5_hoursBy_164 rfl rfl (by rw [e164]; rfl) (by decide) rfl ?_
      refine r_goto C 82 dX5_hoursBy_167 (by decide) ?_
      exact Ws_pick [1, 2, 3, 0] rfl h
    · have h := h.2 c93
      refine r_goto C 164 dX5_hoursBy_96 (by decide) ?_
      obtain ⟨v164, e164⟩ : ∃ y : Int32, y = i3 + 1 := ⟨_, rfl⟩
      have h := h v164 e164
      refine r_iinc (j := 3) C 167 [(3, .int v164), (0, .ref 209), (1, .int i1), (2, .int i2)] dX5_hoursBy_164 rfl rfl (by rw [e164]; rfl) (by decide) rfl ?_
      refine r_goto C 82 dX5_hoursBy_167 (by decide) ?_
      exact Ws_pick [1, 2, 3, 0] rfl h
theorem sp_lk_mono {σ : Mem} {K K' : Mem → Prop} {X : String → Mem → Prop} (h : sp_X5_looks σ K X) (f : ∀ τ, K τ → K' τ) : sp_X5_looks σ K' X := by
  unfold sp_X5_looks at h ⊢
  obtain ⟨w, g, c, R, D, B, T, S, z, f', a1, a2, a3, a4, a5, h1⟩ := h
  exact ⟨w, g, c, R, D, B, T, S, z, f', a1, a2, a3, a4, a5, fun τ q1 q2 => f τ (h1 τ q1 q2)⟩
theorem L64s {a b : Int64} (m : Int) : a + b * zL m + b = a + b * zL (m + 1) := by
  rw [← zL_add, Int64.mul_add, show zL 1 = 1 from rfl, Int64.mul_one, Int64.add_assoc]
theorem vc_X5_hoursBy {x : Ctx} {K : Int32 → Mem → Prop} {X : String → Mem → Prop} (C : Cx x RX5 cX5_hoursBy 4) (r : RtI x 7 0 (some .int) K X) (p0 : Int32) (σ : Mem) (h : sp_X5_hoursBy p0 σ K X) : Ws x 0 0 [(0, .ref 209), (1, .int p0)] [] σ := by
  obtain ⟨h1, h⟩ := h
  refine sg_X5_hoursBy_0 C r p0 σ (i_X5_in ⟨fun cc => ?_, fun cc => h1 (ite00 cc)⟩)
  obtain ⟨hh, rfl, hh24, h⟩ := h (ite01 cc)
  refine sp_lk_mono h (fun τ hτ => ?_)
  obtain ⟨w, g, c, R, dr, B, T, S, z, f, hw, hr, hLo, hB, hF, hdr, hK⟩ := hτ
  refine ⟨w, g, c, R, dr, B, T, S, z, f, hw, hr, hLo, hB, hF, hdr, fun v hv => ?_⟩
  obtain ⟨k1, k2⟩ := hK v hv
  rw [hr 4 (by decide)]
  refine ⟨fun q => ?_, fun q => k2 q⟩
  have k1 := k1 q
  have hrow : ∀ n, n < 10 → (τ.1 225 n = nI (dr n) ∧ dr n ≤ 999) ∧ τ.1 229 n = nI (T n) ∧ T n ≤ 1200 := fun n hn => ⟨⟨hF.2.2.1 n hn, (hdr n hn).1⟩, (hF.2.2.2.2.2.2.1 n hn).1, (hB.2.2 n hn).1.2.2⟩
  have H := cnt hh (fun i (l : Nat → Nat → Int64) => hrO τ w dr T l (i : Int)) (fun i l => Ws x 0 36 [(0, .ref 209), (1, .int (nI hh)), (2, .int (nI i))] [] (τ.1, l, τ.2.2))
    (fun l j => sg_X5_hoursBy_36 C r _ _ _ ⟨fun _ => k1 l j, fun q => absurd (nI_le (Nat.le_refl hh) (by omega)) q⟩)
    (fun i l hi ⟨j1, j2, ⟨j3, j4, j5⟩, j6⟩ ih => by
      refine sg_X5_hoursBy_36 C r _ _ _ ⟨fun q => absurd hi (by have := n_le (by omega) (by omega) q; omega), fun _ σ51 e51 σ65 e65 => ?_⟩
      have g1 : σ51.1 = τ.1 := by rw [e51]; rfl
      have g227 : σ51.2.1 227 0 = τ.2.1 227 0 := by rw [e51, wl_l, if_neg (by decide)]; exact j1 227 0 (by decide)
      have g31 : σ51.2.1 211 31 = l 211 31 := by rw [e51, wl_l, if_neg (by decide)]
      rw [g1, g227, g31, j4, L64s] at e65
      refine ⟨w, g, dr, T, hw, by rw [e65]; show ∀ k, k < 108 → σ51.1 210 k = w k; rw [g1]; exact hr, by rw [e65]; show ∀ n, n < 10 → (σ51.1 225 n = nI (dr n) ∧ dr n ≤ 999) ∧ σ51.1 229 n = nI (T n) ∧ T n ≤ 1200; rw [g1]; exact hrow, fun σ79 e79 => ?_⟩
      have g32 : σ65.2.1 211 32 = l 211 32 := by rw [e65, wl_l, if_neg (by decide), e51, wl_l, if_neg (by decide)]
      rw [g32, j5, L64s] at e79
      have ei : σ79 = (τ.1, σ79.2.1, τ.2.2) := by rw [e79, e65, e51]; rfl
      have el : ∀ b j, σ79.2.1 b j = if b = 211 ∧ j = 32 then τ.2.1 211 32 + zL (smZ (htZ w dr T) 10) * zL ((i : Int) + 1) else if b = 211 ∧ j = 31 then τ.2.1 211 31 + τ.2.1 227 0 * (τ.1 210 0 - τ.1 230 0).toInt64 * zL ((i : Int) + 1) else if b = 211 ∧ j = 30 then l 211 30 + 1 else l b j := fun b j => by
        rw [e79, wl_l, e65, wl_l, e51, wl_l]
      rw [ei]
      have H2 := cnt 10 (fun k (m : Nat → Nat → Int64) => 1 ≤ k ∧ (∀ b j, b ≠ 211 → m b j = τ.2.1 b j) ∧ (∀ n, n < 10 → hasW w n → (n < k → hrR τ w dr T m n ((i : Int) + 1)) ∧ (¬ n < k → hrR τ w dr T m n (i : Int))) ∧ hrT τ w dr T m ((i : Int) + 1) ∧ m 211 33 = τ.2.1 211 33 + smL (pyN w dr T) 10 * zL (i : Int) + smL (pyN w dr T) k) (fun k m => Ws x 0 82 [(0, .ref 209), (1, .int (nI hh)), (2, .int (nI i)), (3, .int (nI k))] [] (τ.1, m, τ.2.2))
        (fun m ⟨_, m1, m2, m3, m4⟩ => by
          refine sg_X5_hoursBy_82 C r _ _ _ _ ⟨fun _ v170 e170 => ?_, fun q => (lit_lt (by decide) (Nat.le_refl 10) (by decide) q).elim⟩
          rw [e170, nI_1]
          refine ih m ⟨m1, fun n hn hs => (m2 n hn hs).1 hn, m3, ?_⟩
          rw [m4, L64s]
          rfl)
        (fun k m hk ⟨m0, m1, m2, m3, m4⟩ ih2 => by
          refine sg_X5_hoursBy_82 C r _ _ _ _ ⟨fun q => (lit_ge (by decide) hk q).elim, fun _ => i_X5_hasStation hk ?_⟩
          have e17 : smL (pyN w dr T) (k + 1) = smL (pyN w dr T) k + pyN w dr T k := rfl
          rw [show (τ.1, m, τ.2.2).1 210 (48 + 6 * k) = w (48 + 6 * k) from hr _ (by omega)]
          by_cases hs : hasW w k
          · have hs' : 1 ≤ k ∧ w (48 + 6 * k) = 1 := hs
            rw [if_pos hs']
            refine ⟨fun _ => ?_, fun q => absurd q (by decide)⟩
            rw [show (0 : Int32) + nI k = nI k from by rw [show (0 : Int32) = nI 0 from rfl, nI_add, Nat.zero_add], show (10 : Int32) + nI k = nI (10 + k) from nI_add 10 k, show (20 : Int32) + nI k = nI (20 + k) from nI_add 20 k, n_cl (show k < 2147483648 by omega), n_cl (show 10 + k < 2147483648 by omega), n_cl (show 20 + k < 2147483648 by omega)]
            have i0 := n_inR (n := k) (N := 34) (by omega) (by decide)
            have i1 := n_inR (n := 10 + k) (N := 34) (by omega) (by decide)
            have i2 := n_inR (n := 20 + k) (N := 34) (by omega) (by decide)
            obtain ⟨o1, o2, o3⟩ := (m2 k hk hs).2 (Nat.lt_irrefl k)
            refine ⟨i0, i_X5_counts (g := g) hw hr hk hs (hrow k hk).1 (hrow k hk).2 ⟨i0, fun σ114 e114 => ?_⟩⟩
            have a1 : σ114.1 = τ.1 := by rw [e114]; rfl
            have hr1 : ∀ k, k < 108 → σ114.1 210 k = w k := by rw [a1]; exact hr
            have hw1 : ∀ n, n < 10 → (σ114.1 225 n = nI (dr n) ∧ dr n ≤ 999) ∧ σ114.1 229 n = nI (T n) ∧ T n ≤ 1200 := by rw [a1]; exact hrow
            refine ⟨i1, i_X5_heat (g := g) hw hr1 hk (hw1 k hk).1 (hw1 k hk).2 ⟨i1, fun σ131 e131 => ?_⟩⟩
            have a2 : σ131.1 = τ.1 := by rw [e131]; exact a1
            have hr2 : ∀ k, k < 108 → σ131.1 210 k = w k := by rw [a2]; exact hr
            have hw2 : ∀ n, n < 10 → (σ131.1 225 n = nI (dr n) ∧ dr n ≤ 999) ∧ σ131.1 229 n = nI (T n) ∧ T n ≤ 1200 := by rw [a2]; exact hrow
            refine ⟨i2, i_X5_pays (g := g) hw hr2 hk hs (hw2 k hk).1 (hw2 k hk).2 ⟨i2, fun σ148 e148 => ?_⟩⟩
            have a3 : σ148.1 = τ.1 := by rw [e148]; exact a2
            have hr3 : ∀ k, k < 108 → σ148.1 210 k = w k := by rw [a3]; exact hr
            have hw3 : ∀ n, n < 10 → (σ148.1 225 n = nI (dr n) ∧ dr n ≤ 999) ∧ σ148.1 229 n = nI (T n) ∧ T n ≤ 1200 := by rw [a3]; exact hrow
            refine i_X5_pays (g := g) hw hr3 hk hs (hw3 k hk).1 (hw3 k hk).2 (fun σ163 e163 v164 e164 => ?_)
            have f1 : (τ.1, m, τ.2.2).2.1 211 k = m 211 k := rfl
            rw [f1, o1, L64s] at e114
            have f2 : σ114.2.1 211 (10 + k) = m 211 (10 + k) := by rw [e114, wl_l, if_neg (by omega)]
            rw [f2, o2, L64s] at e131
            have f3 : σ131.2.1 211 (20 + k) = m 211 (20 + k) := by rw [e131, wl_l, if_neg (by omega), e114, wl_l, if_neg (by omega)]
            rw [f3, o3, L64s] at e148
            have f4 : σ148.2.1 211 33 = m 211 33 := by rw [e148, wl_l, if_neg (by omega), e131, wl_l, if_neg (by omega), e114, wl_l, if_neg (by omega)]
            rw [f4] at e163
            have ei2 : σ163 = (τ.1, σ163.2.1, τ.2.2) := by rw [e163, e148, e131, e114]; rfl
            have el2 : ∀ b j, σ163.2.1 b j = if b = 211 ∧ j = 33 then m 211 33 + pyW w k (cnW w k (zL (htZ w dr T k))) else if b = 211 ∧ j = 20 + k then τ.2.1 211 (20 + k) + pyW w k (cnW w k (zL (htZ w dr T k))) * zL ((i : Int) + 1) else if b = 211 ∧ j = 10 + k then τ.2.1 211 (10 + k) + zL (htZ w dr T k) * zL ((i : Int) + 1) else if b = 211 ∧ j = k then τ.2.1 211 k + cnW w k (zL (htZ w dr T k)) * zL ((i : Int) + 1) else m b j := fun b j => by
              rw [e163, wl_l, e148, wl_l, e131, wl_l, e114, wl_l]
            have st : ∀ j, j ≠ 33 → j ≠ 20 + k → j ≠ 10 + k → j ≠ k → σ163.2.1 211 j = m 211 j := fun j q1 q2 q3 q4 => by
              rw [el2, if_neg (fun z => q1 z.2), if_neg (fun z => q2 z.2), if_neg (fun z => q3 z.2), if_neg (fun z => q4 z.2)]
            rw [ei2, e164, nI_1]
            refine ih2 _ ⟨by omega, fun b j hb => ?_, fun n hn hs2 => ?_, ?_, ?_⟩
            · rw [el2, if_neg (fun z => hb z.1), if_neg (fun z => hb z.1), if_neg (fun z => hb z.1), if_neg (fun z => hb z.1)]; exact m1 b j hb
            · by_cases qn : n = k
              · rw [qn]
                refine ⟨fun _ => ⟨?_, ?_, ?_⟩, fun z => absurd (Nat.lt_succ_self k) z⟩
                · rw [el2, if_neg (by omega), if_neg (by omega), if_neg (by omega), if_pos ⟨rfl, rfl⟩]
                · rw [el2, if_neg (by omega), if_neg (by omega), if_pos ⟨rfl, rfl⟩]
                · rw [el2, if_neg (by omega), if_pos ⟨rfl, rfl⟩]
              · unfold hrR
                rw [st n (by omega) (by omega) (by omega) qn, st (10 + n) (by omega) (by omega) (by omega) (by omega), st (20 + n) (by omega) (by omega) (by omega) (by omega)]
                exact ⟨fun z => (m2 n hn hs2).1 (by omega), fun z => (m2 n hn hs2).2 (by omega)⟩
            · unfold hrT
              rw [st 30 (by omega) (by omega) (by omega) (by omega), st 31 (by omega) (by omega) (by omega) (by omega), st 32 (by omega) (by omega) (by omega) (by omega)]
              exact m3
            · rw [el2, if_pos ⟨rfl, rfl⟩, m4, e17, show pyN w dr T k = pyW w k (cnW w k (zL (htZ w dr T k))) from if_pos (hasB_iff.mpr hs), Int64.add_assoc]
          · have hs' : ¬ (1 ≤ k ∧ w (48 + 6 * k) = 1) := hs
            rw [if_neg hs']
            refine ⟨fun q => absurd rfl q, fun _ v164 e164 => ?_⟩
            rw [e164, nI_1]
            refine ih2 m ⟨by omega, m1, fun n hn hs2 => ⟨fun z => (m2 n hn hs2).1 (by have : n ≠ k := fun y => hs (by rw [← y]; exact hs2); omega), fun z => (m2 n hn hs2).2 (by omega)⟩, m3, ?_⟩
            rw [m4, e17, show pyN w dr T k = 0 from if_neg (fun y => hs (hasB_iff.mp y)), Int64.add_zero]) 1 σ79.2.1 (by decide) ⟨Nat.le_refl 1, fun b j hb => by rw [el, if_neg (fun y => hb y.1), if_neg (fun y => hb y.1), if_neg (fun y => hb y.1)]; exact j1 b j hb, fun n hn hs => ⟨fun y => absurd hs.1 (by omega), fun _ => by
              unfold hrR
              rw [el, el, el, if_neg (by omega), if_neg (by omega), if_neg (by omega), if_neg (by omega), if_neg (by omega), if_neg (by omega), if_neg (by omega), if_neg (by omega), if_neg (by omega)]
              exact j2 n hn hs⟩, ⟨by rw [el, if_neg (by decide), if_neg (by decide), if_pos (by decide), j3, Int64.add_assoc, ← zL_add]; rfl, by rw [el, if_neg (by decide), if_pos (by decide)], by rw [el, if_pos (by decide)]⟩, by
              rw [el, if_neg (by decide), if_neg (by decide), if_neg (by decide), j6, show smL (pyN w dr T) 1 = 0 from by show (0 : Int64) + pyN w dr T 0 = 0; rw [show pyN w dr T 0 = 0 from if_neg (fun y => absurd (hasB_iff.mp y).1 (by decide)), Int64.add_zero], Int64.add_zero]⟩
      exact H2) 0 τ.2.1 (Nat.zero_le _) ⟨fun _ _ _ => rfl, fun n _ _ => ⟨by rw [show zL ((0 : Nat) : Int) = 0 from rfl, Int64.mul_zero, Int64.add_zero], by rw [show zL ((0 : Nat) : Int) = 0 from rfl, Int64.mul_zero, Int64.add_zero], by rw [show zL ((0 : Nat) : Int) = 0 from rfl, Int64.mul_zero, Int64.add_zero]⟩, ⟨by rw [show zL ((0 : Nat) : Int) = 0 from rfl, Int64.add_zero], by rw [show zL ((0 : Nat) : Int) = 0 from rfl, Int64.mul_zero, Int64.add_zero], by rw [show zL ((0 : Nat) : Int) = 0 from rfl, Int64.mul_zero, Int64.add_zero]⟩, by rw [show zL ((0 : Nat) : Int) = 0 from rfl, Int64.mul_zero, Int64.add_zero]⟩
  exact H
theorem ct_X5_hoursBy (p0 : Int32) (σ : Mem) (K : Int32 → Mem → Prop) (X : String → Mem → Prop) (h : sp_X5_hoursBy p0 σ K X) : CtI yX5_hoursBy cX5_hoursBy 4 (some .int) 7 0 [.ref 209, .int p0] σ K X :=
  ctI_of (by decide +kernel) (Nat.le_of_ble_eq_true rfl) (fun x C r => vc_X5_hoursBy C r p0 σ h)
/-! HeatNetworkModel.hours(I)J: level 8, exceptions 0 -/
def sp_X5_hours (p0 : Int32) (σ : Mem) (K : Int64 → Mem → Prop) (X : String → Mem → Prop) : Prop := (∀ σ2 : Mem, σ2 = wi σ 209 0 0 → sp_X5_in p0 1 24 σ2 (fun r9 σ9 => (¬ r9 = 0 → sp_X5_tries  σ9 (fun σ23 => sp_X5_hoursBy p0 σ23 (fun r28 σ28 => (r28 ≤ 0 → sp_X5_keeps  σ28 (fun σ45 => K (σ45.2.1 211 30) σ45) X) ∧ (¬ r28 ≤ 0 → sp_X5_refuses r28 2 σ28 (fun r39 σ39 => K (r39).toInt64 σ39) X)) X) X) ∧ (r9 = 0 → sp_X5_raises 1 σ9 (fun r17 σ17 => K (r17).toInt64 σ17) X)) X)
set_option maxRecDepth 4000 in
theorem sg_X5_hours_0 {x : Ctx} {K : Int64 → Mem → Prop} {X : String → Mem → Prop} (C : Cx x RX5 cX5_hours 3) (r : RtL x 8 0 (some .long) K X) (p0 : Int32)  (σ : Mem) (h : ∀ σ2 : Mem, σ2 = wi σ 209 0 0 → sp_X5_in p0 1 24 σ2 (fun r9 σ9 => (¬ r9 = 0 → sp_X5_tries  σ9 (fun σ23 => sp_X5_hoursBy p0 σ23 (fun r28 σ28 => (r28 ≤ 0 → sp_X5_keeps  σ28 (fun σ45 => K (σ45.2.1 211 30) σ45) X) ∧ (¬ r28 ≤ 0 → sp_X5_refuses r28 2 σ28 (fun r39 σ39 => K (r39).toInt64 σ39) X)) X) X) ∧ (r9 = 0 → sp_X5_raises 1 σ9 (fun r17 σ17 => K (r17).toInt64 σ17) X)) X) : Ws x 0 0 [(0, .ref 209), (1, .int p0)] [] σ := by
  refine r_aload_n (j := 0) C 1 dX5_hours_0 rfl rfl ?_
  refine r_iconst C 2 (v := 0) dX5_hours_1 rfl (by decide) ?_
  refine r_putI (k := 0) C cl7 5 dX5_hours_2 rfl kd_209 (by decide) wd_1212 rfl rfl rfl rfl ?_
  refine r_nmS (fun σ2 e2 => ?_)
  have h := h σ2 e2
  refine r_iload_n (j := 1) C 6 dX5_hours_5 rfl rfl ?_
  refine r_iconst C 7 (v := 1) dX5_hours_6 rfl (by decide) ?_
  refine r_bipush C 9 (v := 24) dX5_hours_7 rfl (by decide) ?_
  refine r_cSI (b := 0) (as := [.int p0, .int 1, .int 24]) (S := []) C r.px 12 (ct_X5_in _ _ _ _ _ _ h) dX5_hours_9 rfl wd_1321 wd_1320 wd_1322 wd_95 yd_X5_in ⟨Nat.le_of_ble_eq_true rfl, Nat.le_of_ble_eq_true rfl⟩ (Nat.le_of_ble_eq_true rfl) (by decide) (fun r9 σ9 h => ?_)
  refine r_if_ne C 22 15 dX5_hours_12 (by decide) rfl (fun c12 => ?_) (fun c12 => ?_)
  · have h := h.1 c12
    refine r_aload_n (j := 0) C 23 dX5_hours_22 rfl rfl ?_
    refine r_cVV (as := []) (S := []) C r.px 26 (ct_X5_tries  _ _ _ h) dX5_hours_23 rfl cl7 kd_209 wd_42 wd_1337 rfl wd_1335 wd_1338 wd_95 yd_X5_tries ⟨Nat.le_of_ble_eq_true rfl, Nat.le_of_ble_eq_true rfl⟩ (Nat.le_of_ble_eq_true rfl) (by decide) (fun σ23 h => ?_)
    refine r_aload_n (j := 0) C 27 dX5_hours_26 rfl rfl ?_
    refine r_iload_n (j := 1) C 28 dX5_hours_27 rfl rfl ?_
    refine r_cVI (as := [.int p0]) (S := []) C r.px 31 (ct_X5_hoursBy _ _ _ _ h) dX5_hours_28 rfl cl7 kd_209 wd_55 wd_1424 rfl wd_1422 wd_1425 wd_95 yd_X5_hoursBy ⟨Nat.le_of_ble_eq_true rfl, Nat.le_of_ble_eq_true rfl⟩ (Nat.le_of_ble_eq_true rfl) (by decide) (fun r28 σ28 h => ?_)
    refine r_istore_n C 32 [(2, .int r28), (0, .ref 209), (1, .int p0)] dX5_hours_31 rfl (by decide) rfl ?_
    refine r_iload_n (j := 0) C 33 dX5_hours_32 rfl rfl ?_
    refine r_if_le C 44 36 dX5_hours_33 (by decide) rfl (fun c33 => ?_) (fun c33 => ?_)
    · have h := h.1 c33
      refine r_aload_n (j := 1) C 45 dX5_hours_44 rfl rfl ?_
      refine r_cVV (as := []) (S := []) C r.px 48 (ct_X5_keeps  _ _ _ h) dX5_hours_45 rfl cl7 kd_209 wd_43 wd_1341 rfl wd_1339 wd_1342 wd_95 yd_X5_keeps ⟨Nat.le_of_ble_eq_true rfl, Nat.le_of_ble_eq_true rfl⟩ (Nat.le_of_ble_eq_true rfl) (by decide) (fun σ45 h => ?_)
      refine r_aload_n (j := 1) C 49 dX5_hours_48 rfl rfl ?_
      refine r_get (k := 2) C cl7 52 dX5_hours_49 rfl kd_209 (by decide) wd_1214 (.ref 211) (fun _ => rfl) ?_
      refine r_bipush C 54 (v := 30) dX5_hours_52 rfl (by decide) ?_
      refine r_lald C 55 dX5_hours_54 rfl kd_211 (n_inR (n := 30) (by decide) (by decide)) ?_
      exact r_lret (S := []) C r dX5_hours_55 (by decide) h
    · have h := h.2 c33
      refine r_aload_n (j := 1) C 37 dX5_hours_36 rfl rfl ?_
      refine r_iload_n (j := 0) C 38 dX5_hours_37 rfl rfl ?_
      refine r_iconst C 39 (v := 2) dX5_hours_38 rfl (by decide) ?_
      refine r_cVI (as := [.int r28, .int 2]) (S := []) C r.px 42 (ct_X5_refuses _ _ _ _ _ h) dX5_hours_39 rfl cl7 kd_209 wd_49 wd_1376 rfl wd_1374 wd_1377 wd_95 yd_X5_refuses ⟨Nat.le_of_ble_eq_true rfl, Nat.le_of_ble_eq_true rfl⟩ (Nat.le_of_ble_eq_true rfl) (by decide) (fun r39 σ39 h => ?_)
      refine r_i2l C 43 dX5_hours_42 rfl ?_
      exact r_lret (S := []) C r dX5_hours_43 (by decide) h
  · have h := h.2 c12
    refine r_aload_n (j := 0) C 16 dX5_hours_15 rfl rfl ?_
    refine r_iconst C 17 (v := 1) dX5_hours_16 rfl (by decide) ?_
    refine r_cVI (as := [.int 1]) (S := []) C r.px 20 (ct_X5_raises _ _ _ _ h) dX5_hours_17 rfl cl7 kd_209 wd_40 wd_1325 rfl wd_1323 wd_1326 wd_95 yd_X5_raises ⟨Nat.le_of_ble_eq_true rfl, Nat.le_of_ble_eq_true rfl⟩ (Nat.le_of_ble_eq_true rfl) (by decide) (fun r17 σ17 h => ?_)
    refine r_i2l C 21 dX5_hours_20 rfl ?_
    exact r_lret (S := []) C r dX5_hours_21 (by decide) h
theorem ct_X5_hours (p0 : Int32) (σ : Mem) (K : Int64 → Mem → Prop) (X : String → Mem → Prop) (h : sp_X5_hours p0 σ K X) : CtL yX5_hours cX5_hours 3 (some .long) 8 0 [.ref 209, .int p0] σ K X := by
  have h := h
  exact ctL_of (by decide +kernel) (Nat.le_of_ble_eq_true rfl) (fun x C r => sg_X5_hours_0 C r p0  σ h)
