/-! HeatNetwork.passHours(I)V: level 5, exceptions 0 -/
def smL (f : Nat → Int64) : Nat → Int64
  | 0 => 0
  | n + 1 => smL f n + f n
/-- what station n pays in an hour, 0 if there is none -/
def pyN (w : Nat → Int32) (dr T : Nat → Nat) (n : Nat) : Int64 := if hasB w n = true then pyW w n (cnW w n (zL (htZ w dr T n))) else 0
def sp_X4_passHours (p0 : Int32) (σ : Mem) (K : Mem → Prop) (X : String → Mem → Prop) : Prop := ∃ (w : Nat → Int32) (g : Gr) (dr T : Nat → Nat), WFw w g ∧ NR σ 1 w g ∧ (∀ n, n < 10 → (σ.1 54 n = nI (dr n) ∧ dr n ≤ 999) ∧ σ.1 59 n = nI (T n) ∧ T n ≤ 1200) ∧ ∀ l : Nat → Nat → Int64, (∀ b k, b ≠ 12 → b ≠ 13 → b ≠ 14 → ¬ (b = 1 ∧ 14 ≤ k ∧ k ≤ 17) → l b k = σ.2.1 b k) → (∀ n, n < 10 → hasW w n → l 12 n = σ.2.1 12 n + cnW w n (zL (htZ w dr T n)) * p0.toInt64 ∧ l 13 n = σ.2.1 13 n + zL (htZ w dr T n) * p0.toInt64 ∧ l 14 n = σ.2.1 14 n + pyW w n (cnW w n (zL (htZ w dr T n))) * p0.toInt64) → l 1 14 = σ.2.1 1 14 + p0.toInt64 → l 1 15 = σ.2.1 1 15 + σ.2.1 61 0 * (σ.1 2 0 - σ.1 60 0).toInt64 * p0.toInt64 → l 1 16 = σ.2.1 1 16 + zL (smZ (htZ w dr T) 10) * p0.toInt64 → l 1 17 = σ.2.1 1 17 + smL (pyN w dr T) 10 * p0.toInt64 → K (σ.1, l, σ.2.2)
set_option maxRecDepth 4000 in
theorem sg_X4_passHours_0 {x : Ctx} {K : Mem → Prop} {X : String → Mem → Prop} (C : Cx x RX4 cX4_passHours 9) (r : RtV x 5 0 none K X) (p0 : Int32)  (σ : Mem) (h : Ws x 0 2 [(0, .ref 0), (1, .int p0), (2, .int 0)] [] σ) : Ws x 0 0 [(0, .ref 0), (1, .int p0)] [] σ := by
  refine r_iconst C 1 (v := 0) dX4_passHours_0 rfl (by decide) ?_
  refine r_istore_n C 2 [(2, .int 0), (0, .ref 0), (1, .int p0)] dX4_passHours_1 rfl (by decide) rfl ?_
  exact Ws_pick [1, 2, 0] rfl h
set_option maxRecDepth 4000 in
theorem sg_X4_passHours_2 {x : Ctx} {K : Mem → Prop} {X : String → Mem → Prop} (C : Cx x RX4 cX4_passHours 9) (r : RtV x 5 0 none K X) (i1 : Int32) (i2 : Int32)  (σ : Mem) (h : (10 ≤ i2 → ∀ σ139 : Mem, σ139 = wl σ 1 14 ((σ.2.1 1 14) + (i1).toInt64) → sp_X2_madeHeat 53 1 σ139 (fun r158 σ158 => ∀ σ165 : Mem, σ165 = wl σ158 1 15 ((σ139.2.1 1 15) + (r158 * (i1).toInt64)) → sp_X2_allStationHeat 53 1 σ165 (fun r184 σ184 => ∀ σ191 : Mem, σ191 = wl σ184 1 16 ((σ165.2.1 1 16) + (r184 * (i1).toInt64)) → K σ191) X) X) ∧ (¬ 10 ≤ i2 → sp_X0_hasStation 1 i2 σ (fun r13 σ13 => (r13 = 0 → ∀ v122 : Int32, v122 = i2 + 1 → Ws x 0 2 [(0, .ref 0), (1, .int i1), (2, .int v122)] [] σ13) ∧ (¬ r13 = 0 → sp_X2_stationHeat 53 1 i2 σ13 (fun r28 σ28 => sp_X0_countedHeat 1 i2 r28 σ28 (fun r38 σ38 => sp_X0_paymentFor 1 i2 r38 σ38 (fun r50 σ50 => (vp_in i2 10) ∧ ((vp_in i2 10) ∧ (∀ σ71 : Mem, σ71 = wl σ50 12 i2.toNatClampNeg ((σ50.2.1 12 i2.toNatClampNeg) + (r38 * (i1).toInt64)) → (vp_in i2 10) ∧ ((vp_in i2 10) ∧ (∀ σ87 : Mem, σ87 = wl σ71 13 i2.toNatClampNeg ((σ71.2.1 13 i2.toNatClampNeg) + (r28 * (i1).toInt64)) → (vp_in i2 10) ∧ ((vp_in i2 10) ∧ (∀ σ104 : Mem, σ104 = wl σ87 14 i2.toNatClampNeg ((σ87.2.1 14 i2.toNatClampNeg) + (r50 * (i1).toInt64)) → ∀ σ119 : Mem, σ119 = wl σ104 1 17 ((σ104.2.1 1 17) + (r50 * (i1).toInt64)) → ∀ v122 : Int32, v122 = i2 + 1 → Ws x 0 2 [(0, .ref 0), (1, .int i1), (2, .int v122)] [] σ119))))))) X) X) X)) X)) : Ws x 0 2 [(0, .ref 0), (1, .int i1), (2, .int i2)] [] σ := by
  refine r_iload_n (j := 2) C 3 dX4_passHours_2 rfl rfl ?_
  refine r_bipush C 5 (v := 10) dX4_passHours_3 rfl (by decide) ?_
  refine r_icmp_ge C 128 8 dX4_passHours_5 (by decide) rfl (fun c5 => ?_) (fun c5 => ?_)
  · have h := h.1 c5
    refine r_aload_n (j := 0) C 129 dX4_passHours_128 rfl rfl ?_
    refine r_get (k := 0) C cl6 132 dX4_passHours_129 rfl kd_0 (by decide) wd_358 (.ref 1) (fun _ => rfl) ?_
    refine r_dup C 133 dX4_passHours_132 rfl rfl ?_
    refine r_get (k := 14) C cl2 136 dX4_passHours_133 rfl kd_1 (by decide) wd_171 (.long (σ.2.1 1 14)) (fun _ => rfl) ?_
    refine r_iload_n (j := 1) C 137 dX4_passHours_136 rfl rfl ?_
    refine r_i2l C 138 dX4_passHours_137 rfl ?_
    refine r_ladd C 139 dX4_passHours_138 rfl ?_
    refine r_putL (k := 14) C cl2 142 dX4_passHours_139 rfl kd_1 (by decide) wd_171 rfl rfl ?_
    refine r_nmS (fun σ139 e139 => ?_)
    have h := h σ139 e139
    refine r_aload_n (j := 0) C 143 dX4_passHours_142 rfl rfl ?_
    refine r_get (k := 0) C cl6 146 dX4_passHours_143 rfl kd_0 (by decide) wd_358 (.ref 1) (fun _ => rfl) ?_
    refine r_dup C 147 dX4_passHours_146 rfl rfl ?_
    refine r_get (k := 15) C cl2 150 dX4_passHours_147 rfl kd_1 (by decide) wd_173 (.long (σ139.2.1 1 15)) (fun _ => rfl) ?_
    refine r_aload_n (j := 0) C 151 dX4_passHours_150 rfl rfl ?_
    refine r_get (k := 5) C cl6 154 dX4_passHours_151 rfl kd_0 (by decide) wd_363 (.ref 53) (fun _ => rfl) ?_
    refine r_aload_n (j := 0) C 155 dX4_passHours_154 rfl rfl ?_
    refine r_get (k := 0) C cl6 158 dX4_passHours_155 rfl kd_0 (by decide) wd_358 (.ref 1) (fun _ => rfl) ?_
    refine r_cVL (as := [.ref 1]) (S := [.long (σ139.2.1 1 15), .ref 1]) C r.px 161 (ct_X2_madeHeat _ _ _ _ _ h) dX4_passHours_158 rfl cl4 kd_53 wd_919 wd_918 rfl wd_917 wd_920 wd_93 yd_X2_madeHeat ⟨Nat.le_of_ble_eq_true rfl, Nat.le_of_ble_eq_true rfl⟩ (Nat.le_of_ble_eq_true rfl) (by decide) (fun r158 σ158 h => ?_)
    refine r_iload_n (j := 1) C 162 dX4_passHours_161 rfl rfl ?_
    refine r_i2l C 163 dX4_passHours_162 rfl ?_
    refine r_lmul C 164 dX4_passHours_163 rfl ?_
    refine r_ladd C 165 dX4_passHours_164 rfl ?_
    refine r_putL (k := 15) C cl2 168 dX4_passHours_165 rfl kd_1 (by decide) wd_173 rfl rfl ?_
    refine r_nmS (fun σ165 e165 => ?_)
    have h := h σ165 e165
    refine r_aload_n (j := 0) C 169 dX4_passHours_168 rfl rfl ?_
    refine r_get (k := 0) C cl6 172 dX4_passHours_169 rfl kd_0 (by decide) wd_358 (.ref 1) (fun _ => rfl) ?_
    refine r_dup C 173 dX4_passHours_172 rfl rfl ?_
    refine r_get (k := 16) C cl2 176 dX4_passHours_173 rfl kd_1 (by decide) wd_175 (.long (σ165.2.1 1 16)) (fun _ => rfl) ?_
    refine r_aload_n (j := 0) C 177 dX4_passHours_176 rfl rfl ?_
    refine r_get (k := 5) C cl6 180 dX4_passHours_177 rfl kd_0 (by decide) wd_363 (.ref 53) (fun _ => rfl) ?_
    refine r_aload_n (j := 0) C 181 dX4_passHours_180 rfl rfl ?_
    refine r_get (k := 0) C cl6 184 dX4_passHours_181 rfl kd_0 (by decide) wd_358 (.ref 1) (fun _ => rfl) ?_
    refine r_cVL (as := [.ref 1]) (S := [.long (σ165.2.1 1 16), .ref 1]) C r.px 187 (ct_X2_allStationHeat _ _ _ _ _ h) dX4_passHours_184 rfl cl4 kd_53 wd_923 wd_922 rfl wd_921 wd_924 wd_93 yd_X2_allStationHeat ⟨Nat.le_of_ble_eq_true rfl, Nat.le_of_ble_eq_true rfl⟩ (Nat.le_of_ble_eq_true rfl) (by decide) (fun r184 σ184 h => ?_)
    refine r_iload_n (j := 1) C 188 dX4_passHours_187 rfl rfl ?_
    refine r_i2l C 189 dX4_passHours_188 rfl ?_
    refine r_lmul C 190 dX4_passHours_189 rfl ?_
    refine r_ladd C 191 dX4_passHours_190 rfl ?_
    refine r_putL (k := 16) C cl2 194 dX4_passHours_191 rfl kd_1 (by decide) wd_175 rfl rfl ?_
    refine r_nmS (fun σ191 e191 => ?_)
    have h := h σ191 e191
    exact r_vret (S := []) C r dX4_passHours_194 (by decide) h
  · have h := h.2 c5
    refine r_aload_n (j := 0) C 9 dX4_passHours_8 rfl rfl ?_
    refine r_get (k := 0) C cl6 12 dX4_passHours_9 rfl kd_0 (by decide) wd_358 (.ref 1) (fun _ => rfl) ?_
    refine r_iload_n (j := 2) C 13 dX4_passHours_12 rfl rfl ?_
    refine r_cVI (as := [.int i2]) (S := []) C r.px 16 (ct_X0_hasStation _ _ _ _ _ h) dX4_passHours_13 rfl cl2 kd_1 wd_468 wd_467 rfl wd_851 wd_469 wd_91 yd_X0_hasStation ⟨Nat.le_of_ble_eq_true rfl, Nat.le_of_ble_eq_true rfl⟩ (Nat.le_of_ble_eq_true rfl) (by decide) (fun r13 σ13 h => ?_)
    refine r_if_eq C 122 19 dX4_passHours_16 (by decide) rfl (fun c16 => ?_) (fun c16 => ?_)
    · have h := h.1 c16
      obtain ⟨v122, e122⟩ : ∃ y : Int32, y = i2 + 1 := ⟨_, rfl⟩
      have h := h v122 e122
      refine r_iinc (j := 2) C 125 [(2, .int v122), (0, .ref 0), (1, .int i1)] dX4_passHours_122 rfl rfl (by rw [e122]; rfl) (by decide) rfl ?_
      refine r_goto C 2 dX4_passHours_125 (by decide) ?_
      exact Ws_pick [1, 2, 0] rfl h
    · have h := h.2 c16
      refine r_aload_n (j := 0) C 20 dX4_passHours_19 rfl rfl ?_
      refine r_get (k := 5) C cl6 23 dX4_passHours_20 rfl kd_0 (by decide) wd_363 (.ref 53) (fun _ => rfl) ?_
      refine r_aload_n (j := 0) C 24 dX4_passHours_23 rfl rfl ?_
      refine r_get (k := 0) C cl6 27 dX4_passHours_24 rfl kd_0 (by decide) wd_358 (.ref 1) (fun _ => rfl) ?_
      refine r_iload_n (j := 2) C 28 dX4_passHours_27 rfl rfl ?_
      refine r_cVL (as := [.ref 1, .int i2]) (S := []) C r.px 31 (ct_X2_stationHeat _ _ _ _ _ _ h) dX4_passHours_28 rfl cl4 kd_53 wd_896 wd_895 rfl wd_894 wd_897 wd_93 yd_X2_stationHeat ⟨Nat.le_of_ble_eq_true rfl, Nat.le_of_ble_eq_true rfl⟩ (Nat.le_of_ble_eq_true rfl) (by decide) (fun r28 σ28 h => ?_)
      refine r_lstore_n C 32 [(3, .long r28), (0, .ref 0), (1, .int i1), (2, .int i2)] dX4_passHours_31 rfl (by decide) rfl ?_
      refine r_aload_n (j := 1) C 33 dX4_passHours_32 rfl rfl ?_
      refine r_get (k := 0) C cl6 36 dX4_passHours_33 rfl kd_0 (by decide) wd_358 (.ref 1) (fun _ => rfl) ?_
      refine r_iload_n (j := 3) C 37 dX4_passHours_36 rfl rfl ?_
      refine r_lload_n (j := 0) C 38 dX4_passHours_37 rfl rfl ?_
      refine r_cVL (as := [.int i2, .long r28]) (S := []) C r.px 41 (ct_X0_countedHeat _ _ _ _ _ _ h) dX4_passHours_38 rfl cl2 kd_1 wd_900 wd_899 rfl wd_898 wd_901 wd_91 yd_X0_countedHeat ⟨Nat.le_of_ble_eq_true rfl, Nat.le_of_ble_eq_true rfl⟩ (Nat.le_of_ble_eq_true rfl) (by decide) (fun r38 σ38 h => ?_)
      refine r_lstore C 43 [(5, .long r38), (3, .long r28), (0, .ref 0), (1, .int i1), (2, .int i2)] dX4_passHours_41 rfl (by decide) rfl ?_
      refine r_aload_n (j := 2) C 44 dX4_passHours_43 rfl rfl ?_
      refine r_get (k := 0) C cl6 47 dX4_passHours_44 rfl kd_0 (by decide) wd_358 (.ref 1) (fun _ => rfl) ?_
      refine r_iload_n (j := 4) C 48 dX4_passHours_47 rfl rfl ?_
      refine r_lload (j := 0) C 50 dX4_passHours_48 rfl rfl ?_
      refine r_cVL (as := [.int i2, .long r38]) (S := []) C r.px 53 (ct_X0_paymentFor _ _ _ _ _ _ h) dX4_passHours_50 rfl cl2 kd_1 wd_908 wd_907 rfl wd_906 wd_909 wd_91 yd_X0_paymentFor ⟨Nat.le_of_ble_eq_true rfl, Nat.le_of_ble_eq_true rfl⟩ (Nat.le_of_ble_eq_true rfl) (by decide) (fun r50 σ50 h => ?_)
      refine r_lstore C 55 [(7, .long r50), (5, .long r38), (3, .long r28), (0, .ref 0), (1, .int i1), (2, .int i2)] dX4_passHours_53 rfl (by decide) rfl ?_
      refine r_aload_n (j := 3) C 56 dX4_passHours_55 rfl rfl ?_
      refine r_get (k := 0) C cl6 59 dX4_passHours_56 rfl kd_0 (by decide) wd_358 (.ref 1) (fun _ => rfl) ?_
      refine r_get (k := 11) C cl2 62 dX4_passHours_59 rfl kd_1 (by decide) wd_165 (.ref 12) (fun _ => rfl) ?_
      refine r_iload_n (j := 5) C 63 dX4_passHours_62 rfl rfl ?_
      refine r_dup2 C 64 dX4_passHours_63 rfl rfl rfl ?_
      obtain ⟨o64, h⟩ := h
      refine r_lald C 65 dX4_passHours_64 rfl kd_12 o64 ?_
      refine r_lload (j := 1) C 67 dX4_passHours_65 rfl rfl ?_
      refine r_iload_n (j := 4) C 68 dX4_passHours_67 rfl rfl ?_
      refine r_i2l C 69 dX4_passHours_68 rfl ?_
      refine r_lmul C 70 dX4_passHours_69 rfl ?_
      refine r_ladd C 71 dX4_passHours_70 rfl ?_
      obtain ⟨o71, h⟩ := h
      refine r_last C 72 dX4_passHours_71 rfl kd_12 o71 ?_
      refine r_nmS (fun σ71 e71 => ?_)
      have h := h σ71 e71
      refine r_aload_n (j := 3) C 73 dX4_passHours_72 rfl rfl ?_
      refine r_get (k := 0) C cl6 76 dX4_passHours_73 rfl kd_0 (by decide) wd_358 (.ref 1) (fun _ => rfl) ?_
      refine r_get (k := 12) C cl2 79 dX4_passHours_76 rfl kd_1 (by decide) wd_167 (.ref 13) (fun _ => rfl) ?_
      refine r_iload_n (j := 5) C 80 dX4_passHours_79 rfl rfl ?_
      refine r_dup2 C 81 dX4_passHours_80 rfl rfl rfl ?_
      obtain ⟨o81, h⟩ := h
      refine r_lald C 82 dX4_passHours_81 rfl kd_13 o81 ?_
      refine r_lload_n (j := 2) C 83 dX4_passHours_82 rfl rfl ?_
      refine r_iload_n (j := 4) C 84 dX4_passHours_83 rfl rfl ?_
      refine r_i2l C 85 dX4_passHours_84 rfl ?_
      refine r_lmul C 86 dX4_passHours_85 rfl ?_
      refine r_ladd C 87 dX4_passHours_86 rfl ?_
      obtain ⟨o87, h⟩ := h
      refine r_last C 88 dX4_passHours_87 rfl kd_13 o87 ?_
      refine r_nmS (fun σ87 e87 => ?_)
      have h := h σ87 e87
      refine r_aload_n (j := 3) C 89 dX4_passHours_88 rfl rfl ?_
      refine r_get (k := 0) C cl6 92 dX4_passHours_89 rfl kd_0 (by decide) wd_358 (.ref 1) (fun _ => rfl) ?_
      refine r_get (k := 13) C cl2 95 dX4_passHours_92 rfl kd_1 (by decide) wd_169 (.ref 14) (fun _ => rfl) ?_
      refine r_iload_n (j := 5) C 96 dX4_passHours_95 rfl rfl ?_
      refine r_dup2 C 97 dX4_passHours_96 rfl rfl rfl ?_
      obtain ⟨o97, h⟩ := h
      refine r_lald C 98 dX4_passHours_97 rfl kd_14 o97 ?_
      refine r_lload (j := 0) C 100 dX4_passHours_98 rfl rfl ?_
      refine r_iload_n (j := 4) C 101 dX4_passHours_100 rfl rfl ?_
      refine r_i2l C 102 dX4_passHours_101 rfl ?_
      refine r_lmul C 103 dX4_passHours_102 rfl ?_
      refine r_ladd C 104 dX4_passHours_103 rfl ?_
      obtain ⟨o104, h⟩ := h
      refine r_last C 105 dX4_passHours_104 rfl kd_14 o104 ?_
      refine r_nmS (fun σ104 e104 => ?_)
      have h := h σ104 e104
      refine r_aload_n (j := 3) C 106 dX4_passHours_105 rfl rfl ?_
      refine r_get (k := 0) C cl6 109 dX4_passHours_106 rfl kd_0 (by decide) wd_358 (.ref 1) (fun _ => rfl) ?_
      refine r_dup C 110 dX4_passHours_109 rfl rfl ?_
      refine r_get (k := 17) C cl2 113 dX4_passHours_110 rfl kd_1 (by decide) wd_177 (.long (σ104.2.1 1 17)) (fun _ => rfl) ?_
      refine r_lload (j := 0) C 115 dX4_passHours_113 rfl rfl ?_
      refine r_iload_n (j := 4) C 116 dX4_passHours_115 rfl rfl ?_
      refine r_i2l C 117 dX4_passHours_116 rfl ?_
      refine r_lmul C 118 dX4_passHours_117 rfl ?_
      refine r_ladd C 119 dX4_passHours_118 rfl ?_
      refine r_putL (k := 17) C cl2 122 dX4_passHours_119 rfl kd_1 (by decide) wd_177 rfl rfl ?_
      refine r_nmS (fun σ119 e119 => ?_)
      have h := h σ119 e119
      obtain ⟨v122, e122⟩ : ∃ y : Int32, y = i2 + 1 := ⟨_, rfl⟩
      have h := h v122 e122
      refine r_iinc (j := 5) C 125 [(2, .int v122), (7, .long r50), (5, .long r38), (3, .long r28), (0, .ref 0), (1, .int i1)] dX4_passHours_122 rfl rfl (by rw [e122]; rfl) (by decide) rfl ?_
      refine r_goto C 2 dX4_passHours_125 (by decide) ?_
      exact Ws_pick [4, 5, 0] rfl h
theorem vc_X4_passHours {x : Ctx} {K : Mem → Prop} {X : String → Mem → Prop} (C : Cx x RX4 cX4_passHours 9) (r : RtV x 5 0 none K X) (p0 : Int32) (σ : Mem) (h : sp_X4_passHours p0 σ K X) : Ws x 0 0 [(0, .ref 0), (1, .int p0)] [] σ := by
  obtain ⟨w, g, dr, T, hw, hN, hrow, hK⟩ := h
  refine sg_X4_passHours_0 C r p0 σ ?_
  have H := cnt 10 (fun k (l : Nat → Nat → Int64) => (∀ b j, b ≠ 12 → b ≠ 13 → b ≠ 14 → ¬ (b = 1 ∧ j = 17) → l b j = σ.2.1 b j) ∧ (∀ n, n < k → n < 10 → hasW w n → l 12 n = σ.2.1 12 n + cnW w n (zL (htZ w dr T n)) * p0.toInt64 ∧ l 13 n = σ.2.1 13 n + zL (htZ w dr T n) * p0.toInt64 ∧ l 14 n = σ.2.1 14 n + pyW w n (cnW w n (zL (htZ w dr T n))) * p0.toInt64) ∧ (∀ n, k ≤ n → l 12 n = σ.2.1 12 n ∧ l 13 n = σ.2.1 13 n ∧ l 14 n = σ.2.1 14 n) ∧ l 1 17 = σ.2.1 1 17 + smL (pyN w dr T) k * p0.toInt64) (fun k l => Ws x 0 2 [(0, .ref 0), (1, .int p0), (2, .int (nI k))] [] (σ.1, l, σ.2.2))
    (fun l ⟨j1, j2, j3, j4⟩ => by
      refine sg_X4_passHours_2 C r p0 (nI 10) _ ⟨fun _ σ139 e139 => ?_, fun c => (lit_lt (by decide) (Nat.le_refl 10) (by decide) c).elim⟩
      refine ⟨staA_53, netA_1, fun σ165 e165 => ⟨staA_53, netA_1, w, g, dr, T, hw, ?_, ?_, fun σ191 e191 => ?_⟩⟩
      · rw [e165, e139]; exact hN
      · rw [e165, e139]; exact hrow
      · have f61 : σ139.2.1 61 0 = σ.2.1 61 0 := by rw [e139, wl_l, if_neg (by decide)]; exact j1 61 0 (by decide) (by decide) (by decide) (by omega)
        have fi : σ139.1 = σ.1 := by rw [e139]; rfl
        have f1 : ∀ k, 14 ≤ k → k ≤ 16 → l 1 k = σ.2.1 1 k := fun k a b => j1 1 k (by decide) (by decide) (by decide) (by omega)
        rw [show (53 + 8 : Nat) = 61 from rfl, show (53 + 7 : Nat) = 60 from rfl, show (1 + 1 : Nat) = 2 from rfl, f61, fi] at e165
        have f15 : σ139.2.1 1 15 = σ.2.1 1 15 := by rw [e139, wl_l, if_neg (by decide)]; exact f1 15 (by decide) (by decide)
        rw [f15] at e165
        have f16 : σ165.2.1 1 16 = σ.2.1 1 16 := by rw [e165, wl_l, if_neg (by decide), e139, wl_l, if_neg (by decide)]; exact f1 16 (by decide) (by decide)
        rw [f16] at e191
        have ei : σ191 = (σ.1, σ191.2.1, σ.2.2) := by rw [e191, e165, e139]; rfl
        have el : ∀ b k, σ191.2.1 b k = if b = 1 ∧ k = 16 then σ.2.1 1 16 + zL (smZ (htZ w dr T) 10) * p0.toInt64 else if b = 1 ∧ k = 15 then σ.2.1 1 15 + σ.2.1 61 0 * (σ.1 2 0 - σ.1 60 0).toInt64 * p0.toInt64 else if b = 1 ∧ k = 14 then l 1 14 + p0.toInt64 else l b k := fun b k => by
          rw [e191, wl_l, e165, wl_l, e139, wl_l]
        rw [ei]
        refine hK _ (fun b k a1 a2 a3 a4 => ?_) (fun n hn hh => ?_) ?_ ?_ ?_ ?_
        · rw [el, if_neg (by omega), if_neg (by omega), if_neg (by omega)]; exact j1 b k a1 a2 a3 (by omega)
        · rw [el, el, el, if_neg (by omega), if_neg (by omega), if_neg (by omega), if_neg (by omega), if_neg (by omega), if_neg (by omega), if_neg (by omega), if_neg (by omega), if_neg (by omega)]; exact j2 n hn hn hh
        · rw [el, if_neg (by decide), if_neg (by decide), if_pos (by decide), f1 14 (by decide) (by decide)]
        · rw [el, if_neg (by decide), if_pos (by decide)]
        · rw [el, if_pos (by decide)]
        · rw [el, if_neg (by decide), if_neg (by decide), if_neg (by decide)]; exact j4)
    (fun k l hk ⟨j1, j2, j3, j4⟩ ih => by
      refine sg_X4_passHours_2 C r p0 (nI k) _ ⟨fun c => (lit_ge (by decide) hk c).elim, fun _ => i_X0_hasStation netA_1 hk ?_⟩
      have hs := hN.2.2.2 k hk
      have e17 : smL (pyN w dr T) (k + 1) = smL (pyN w dr T) k + pyN w dr T k := rfl
      have i0 := n_inR (n := k) (N := 10) hk (by decide)
      by_cases hh : hasW w k
      · have q6 : ¬ σ.1 (1 + 6) k ≤ 0 := by
          rw [(hs.1 hh).1]
          obtain ⟨v0, v1, v2⟩ := (hw.2.2.2.2.2.2.2.2.2.2.2.2 k hk hh).1.val (by decide)
          rw [v0]
          intro q
          have := n_le (b := 0) (by omega) (by decide) q
          omega
        have q6' : ¬ (σ.1, l, σ.2.2).1 (1 + 6) k ≤ 0 := q6
        rw [if_pos q6']
        refine ⟨fun q => absurd q (by decide), fun _ => i_X2_stationHeat (g := g) (dr := dr) (T := T) staA_53 netA_1 hw hN hk hh (hrow k hk).1 (hrow k hk).2 (i_X0_countedHeat (g := g) netA_1 hN hk hh (i_X0_paymentFor (g := g) netA_1 hN hk hh ⟨i0, i0, fun σ71 e71 => ⟨i0, i0, fun σ87 e87 => ⟨i0, i0, fun σ104 e104 σ119 e119 v122 e => ?_⟩⟩⟩))⟩
        rw [n_cl (show k < 2147483648 by omega)] at e71 e87 e104
        have f13 : σ71.2.1 13 k = l 13 k := by rw [e71, wl_l, if_neg (by omega)]
        rw [f13] at e87
        have f14 : σ87.2.1 14 k = l 14 k := by rw [e87, wl_l, if_neg (by omega), e71, wl_l, if_neg (by omega)]
        rw [f14] at e104
        have f17 : σ104.2.1 1 17 = l 1 17 := by rw [e104, wl_l, if_neg (by omega), e87, wl_l, if_neg (by omega), e71, wl_l, if_neg (by omega)]
        rw [f17] at e119
        have ei : σ119 = (σ.1, σ119.2.1, σ.2.2) := by rw [e119, e104, e87, e71]; rfl
        have el : ∀ b j, σ119.2.1 b j = if b = 1 ∧ j = 17 then l 1 17 + pyW w k (cnW w k (zL (htZ w dr T k))) * p0.toInt64 else if b = 14 ∧ j = k then l 14 k + pyW w k (cnW w k (zL (htZ w dr T k))) * p0.toInt64 else if b = 13 ∧ j = k then l 13 k + zL (htZ w dr T k) * p0.toInt64 else if b = 12 ∧ j = k then l 12 k + cnW w k (zL (htZ w dr T k)) * p0.toInt64 else l b j := fun b j => by
          rw [e119, wl_l, e104, wl_l, e87, wl_l, e71, wl_l]
        rw [ei, e, nI_1]
        refine ih _ ⟨fun b j a1 a2 a3 a4 => ?_, fun n hn hn' hh' => ?_, fun n hn => ?_, ?_⟩
        · rw [el, if_neg (by omega), if_neg (by omega), if_neg (by omega), if_neg (by omega)]; exact j1 b j a1 a2 a3 a4
        · by_cases q : n = k
          · obtain ⟨o1, o2, o3⟩ := j3 k (Nat.le_refl k)
            rw [q, el, el, el, if_neg (by omega), if_neg (by omega), if_neg (by omega), if_pos ⟨rfl, rfl⟩, if_neg (by omega), if_neg (by omega), if_pos ⟨rfl, rfl⟩, if_neg (by omega), if_pos ⟨rfl, rfl⟩, o1, o2, o3]
            exact ⟨rfl, rfl, rfl⟩
          · rw [el, el, el, if_neg (by omega), if_neg (by omega), if_neg (by omega), if_neg (by omega), if_neg (by omega), if_neg (by omega), if_neg (by omega), if_neg (by omega), if_neg (by omega), if_neg (by omega), if_neg (by omega), if_neg (by omega)]
            exact j2 n (by omega) hn' hh'
        · rw [el, el, el, if_neg (by omega), if_neg (by omega), if_neg (by omega), if_neg (by omega), if_neg (by omega), if_neg (by omega), if_neg (by omega), if_neg (by omega), if_neg (by omega), if_neg (by omega), if_neg (by omega), if_neg (by omega)]
          exact j3 n (by omega)
        · rw [el, if_pos ⟨rfl, rfl⟩, j4, e17, show pyN w dr T k = pyW w k (cnW w k (zL (htZ w dr T k))) from if_pos (hasB_iff.mpr hh), Int64.add_mul, Int64.add_assoc]
      · have q6' : (σ.1, l, σ.2.2).1 (1 + 6) k ≤ 0 := by
          show σ.1 (1 + 6) k ≤ 0
          rw [hs.2 hh]; decide
        rw [if_neg (fun z => z q6')]
        refine ⟨fun _ v122 e => ?_, fun q => absurd rfl q⟩
        rw [e, nI_1]
        refine ih _ ⟨j1, fun n hn hn' hh' => j2 n (by have : n ≠ k := fun z => hh (by rw [← z]; exact hh'); omega) hn' hh', fun n hn => j3 n (by omega), ?_⟩
        rw [j4, e17, show pyN w dr T k = 0 from if_neg (fun z => hh (hasB_iff.mp z)), Int64.add_zero]) 0 σ.2.1 (by decide) ⟨fun _ _ _ _ _ _ => rfl, fun n q => absurd q (Nat.not_lt_zero n), fun n _ => ⟨rfl, rfl, rfl⟩, by show _ = _ + 0 * _; rw [Int64.zero_mul, Int64.add_zero]⟩
  exact H
theorem ct_X4_passHours (p0 : Int32) (σ : Mem) (K : Mem → Prop) (X : String → Mem → Prop) (h : sp_X4_passHours p0 σ K X) : CtV yX4_passHours cX4_passHours 9 none 5 0 [.ref 0, .int p0] σ K X :=
  ctV_of (by decide +kernel) (Nat.le_of_ble_eq_true rfl) (fun x C r => vc_X4_passHours C r p0 σ h)
/-! HeatNetwork.carryOut(I)I: level 6, exceptions 0 -/
def sp_X4_carryOut (p0 : Int32) (σ : Mem) (K : Int32 → Mem → Prop) (X : String → Mem → Prop) : Prop := (sp_X3_valueOf p0 0 σ (fun r6 σ6 => sp_X3_valueOf p0 1 σ6 (fun r16 σ16 => sp_X3_valueOf p0 2 σ16 (fun r26 σ26 => sp_X3_valueOf p0 3 σ26 (fun r37 σ37 => (vp_in p0 20) ∧ (sp_X4_definitionReason (σ37.1 81 p0.toNatClampNeg) r6 r16 r26 r37 σ37 (fun r58 σ58 => (r58 = 0 → (vp_in p0 20) ∧ (((σ58.1 81 p0.toNatClampNeg) = 112 → sp_X0_putPipe 1 r6 r16 r26 r37 σ58 (fun σ142 => ∀ σ197 : Mem, σ197 = wi σ142 0 11 0 → K 0 σ197) X) ∧ ((σ58.1 81 p0.toNatClampNeg) = 113 → sp_X4_passHours r6 σ58 (fun σ190 => K 0 σ190) X) ∧ ((σ58.1 81 p0.toNatClampNeg) = 114 → sp_X4_passHours r6 σ58 (fun σ190 => K 0 σ190) X) ∧ ((σ58.1 81 p0.toNatClampNeg) = 115 → sp_X0_putStation 1 r6 r16 r26 r37 σ58 (fun σ158 => ∀ σ197 : Mem, σ197 = wi σ158 0 11 0 → K 0 σ197) X) ∧ ((σ58.1 81 p0.toNatClampNeg) = 116 → (vp_in r6 7) ∧ (∀ σ184 : Mem, σ184 = wi σ58 2 r6.toNatClampNeg r16 → ∀ σ197 : Mem, σ197 = wi σ184 0 11 0 → K 0 σ197)) ∧ ((σ58.1 81 p0.toNatClampNeg) = 117 → sp_X4_passHours r6 σ58 (fun σ190 => K 0 σ190) X) ∧ ((σ58.1 81 p0.toNatClampNeg) = 118 → sp_X4_passHours r6 σ58 (fun σ190 => K 0 σ190) X) ∧ ((σ58.1 81 p0.toNatClampNeg) = 119 → sp_X4_passHours r6 σ58 (fun σ190 => K 0 σ190) X) ∧ ((σ58.1 81 p0.toNatClampNeg) = 120 → sp_X0_dropStation 1 r6 σ58 (fun σ169 => ∀ σ197 : Mem, σ197 = wi σ169 0 11 0 → K 0 σ197) X) ∧ (¬ (σ58.1 81 p0.toNatClampNeg) = 112 → ¬ (σ58.1 81 p0.toNatClampNeg) = 113 → ¬ (σ58.1 81 p0.toNatClampNeg) = 114 → ¬ (σ58.1 81 p0.toNatClampNeg) = 115 → ¬ (σ58.1 81 p0.toNatClampNeg) = 116 → ¬ (σ58.1 81 p0.toNatClampNeg) = 117 → ¬ (σ58.1 81 p0.toNatClampNeg) = 118 → ¬ (σ58.1 81 p0.toNatClampNeg) = 119 → ¬ (σ58.1 81 p0.toNatClampNeg) = 120 → sp_X4_passHours r6 σ58 (fun σ190 => K 0 σ190) X))) ∧ (¬ r58 = 0 → K r58 σ58)) X)) X) X) X) X)
set_option maxRecDepth 4000 in
theorem sg_X4_carryOut_0 {x : Ctx} {K : Int32 → Mem → Prop} {X : String → Mem → Prop} (C : Cx x RX4 cX4_carryOut 7) (r : RtI x 6 0 (some .int) K X) (p0 : Int32)  (σ : Mem) (h : sp_X3_valueOf p0 0 σ (fun r6 σ6 => sp_X3_valueOf p0 1 σ6 (fun r16 σ16 => sp_X3_valueOf p0 2 σ16 (fun r26 σ26 => sp_X3_valueOf p0 3 σ26 (fun r37 σ37 => (vp_in p0 20) ∧ (sp_X4_definitionReason (σ37.1 81 p0.toNatClampNeg) r6 r16 r26 r37 σ37 (fun r58 σ58 => (r58 = 0 → (vp_in p0 20) ∧ (((σ58.1 81 p0.toNatClampNeg) = 112 → sp_X0_putPipe 1 r6 r16 r26 r37 σ58 (fun σ142 => ∀ σ197 : Mem, σ197 = wi σ142 0 11 0 → K 0 σ197) X) ∧ ((σ58.1 81 p0.toNatClampNeg) = 113 → sp_X4_passHours r6 σ58 (fun σ190 => K 0 σ190) X) ∧ ((σ58.1 81 p0.toNatClampNeg) = 114 → sp_X4_passHours r6 σ58 (fun σ190 => K 0 σ190) X) ∧ ((σ58.1 81 p0.toNatClampNeg) = 115 → sp_X0_putStation 1 r6 r16 r26 r37 σ58 (fun σ158 => ∀ σ197 : Mem, σ197 = wi σ158 0 11 0 → K 0 σ197) X) ∧ ((σ58.1 81 p0.toNatClampNeg) = 116 → (vp_in r6 7) ∧ (∀ σ184 : Mem, σ184 = wi σ58 2 r6.toNatClampNeg r16 → ∀ σ197 : Mem, σ197 = wi σ184 0 11 0 → K 0 σ197)) ∧ ((σ58.1 81 p0.toNatClampNeg) = 117 → sp_X4_passHours r6 σ58 (fun σ190 => K 0 σ190) X) ∧ ((σ58.1 81 p0.toNatClampNeg) = 118 → sp_X4_passHours r6 σ58 (fun σ190 => K 0 σ190) X) ∧ ((σ58.1 81 p0.toNatClampNeg) = 119 → sp_X4_passHours r6 σ58 (fun σ190 => K 0 σ190) X) ∧ ((σ58.1 81 p0.toNatClampNeg) = 120 → sp_X0_dropStation 1 r6 σ58 (fun σ169 => ∀ σ197 : Mem, σ197 = wi σ169 0 11 0 → K 0 σ197) X) ∧ (¬ (σ58.1 81 p0.toNatClampNeg) = 112 → ¬ (σ58.1 81 p0.toNatClampNeg) = 113 → ¬ (σ58.1 81 p0.toNatClampNeg) = 114 → ¬ (σ58.1 81 p0.toNatClampNeg) = 115 → ¬ (σ58.1 81 p0.toNatClampNeg) = 116 → ¬ (σ58.1 81 p0.toNatClampNeg) = 117 → ¬ (σ58.1 81 p0.toNatClampNeg) = 118 → ¬ (σ58.1 81 p0.toNatClampNeg) = 119 → ¬ (σ58.1 81 p0.toNatClampNeg) = 120 → sp_X4_passHours r6 σ58 (fun σ190 => K 0 σ190) X))) ∧ (¬ r58 = 0 → K r58 σ58)) X)) X) X) X) X) : Ws x 0 0 [(0, .ref 0), (1, .int p0)] [] σ := by
  refine r_aload_n (j := 0) C 1 dX4_carryOut_0 rfl rfl ?_
  refine r_get (k := 7) C cl6 4 dX4_carryOut_1 rfl kd_0 (by decide) wd_365 (.ref 79) (fun _ => rfl) ?_
  refine r_iload_n (j := 1) C 5 dX4_carryOut_4 rfl rfl ?_
  refine r_iconst C 6 (v := 0) dX4_carryOut_5 rfl (by decide) ?_
  refine r_cVI (as := [.int p0, .int 0]) (S := []) C r.px 9 (ct_X3_valueOf _ _ _ _ _ h) dX4_carryOut_6 rfl cl5 kd_79 wd_984 wd_983 rfl wd_991 wd_985 wd_94 yd_X3_valueOf ⟨Nat.le_of_ble_eq_true rfl, Nat.le_of_ble_eq_true rfl⟩ (Nat.le_of_ble_eq_true rfl) (by decide) (fun r6 σ6 h => ?_)
  refine r_istore_n C 10 [(2, .int r6), (0, .ref 0), (1, .int p0)] dX4_carryOut_9 rfl (by decide) rfl ?_
  refine r_aload_n (j := 1) C 11 dX4_carryOut_10 rfl rfl ?_
  refine r_get (k := 7) C cl6 14 dX4_carryOut_11 rfl kd_0 (by decide) wd_365 (.ref 79) (fun _ => rfl) ?_
  refine r_iload_n (j := 2) C 15 dX4_carryOut_14 rfl rfl ?_
  refine r_iconst C 16 (v := 1) dX4_carryOut_15 rfl (by decide) ?_
  refine r_cVI (as := [.int p0, .int 1]) (S := []) C r.px 19 (ct_X3_valueOf _ _ _ _ _ h) dX4_carryOut_16 rfl cl5 kd_79 wd_984 wd_983 rfl wd_991 wd_985 wd_94 yd_X3_valueOf ⟨Nat.le_of_ble_eq_true rfl, Nat.le_of_ble_eq_true rfl⟩ (Nat.le_of_ble_eq_true rfl) (by decide) (fun r16 σ16 h => ?_)
  refine r_istore_n C 20 [(3, .int r16), (2, .int r6), (0, .ref 0), (1, .int p0)] dX4_carryOut_19 rfl (by decide) rfl ?_
  refine r_aload_n (j := 2) C 21 dX4_carryOut_20 rfl rfl ?_
  refine r_get (k := 7) C cl6 24 dX4_carryOut_21 rfl kd_0 (by decide) wd_365 (.ref 79) (fun _ => rfl) ?_
  refine r_iload_n (j := 3) C 25 dX4_carryOut_24 rfl rfl ?_
  refine r_iconst C 26 (v := 2) dX4_carryOut_25 rfl (by decide) ?_
  refine r_cVI (as := [.int p0, .int 2]) (S := []) C r.px 29 (ct_X3_valueOf _ _ _ _ _ h) dX4_carryOut_26 rfl cl5 kd_79 wd_984 wd_983 rfl wd_991 wd_985 wd_94 yd_X3_valueOf ⟨Nat.le_of_ble_eq_true rfl, Nat.le_of_ble_eq_true rfl⟩ (Nat.le_of_ble_eq_true rfl) (by decide) (fun r26 σ26 h => ?_)
  refine r_istore C 31 [(4, .int r26), (3, .int r16), (2, .int r6), (0, .ref 0), (1, .int p0)] dX4_carryOut_29 rfl (by decide) rfl ?_
  refine r_aload_n (j := 3) C 32 dX4_carryOut_31 rfl rfl ?_
  refine r_get (k := 7) C cl6 35 dX4_carryOut_32 rfl kd_0 (by decide) wd_365 (.ref 79) (fun _ => rfl) ?_
  refine r_iload_n (j := 4) C 36 dX4_carryOut_35 rfl rfl ?_
  refine r_iconst C 37 (v := 3) dX4_carryOut_36 rfl (by decide) ?_
  refine r_cVI (as := [.int p0, .int 3]) (S := []) C r.px 40 (ct_X3_valueOf _ _ _ _ _ h) dX4_carryOut_37 rfl cl5 kd_79 wd_984 wd_983 rfl wd_991 wd_985 wd_94 yd_X3_valueOf ⟨Nat.le_of_ble_eq_true rfl, Nat.le_of_ble_eq_true rfl⟩ (Nat.le_of_ble_eq_true rfl) (by decide) (fun r37 σ37 h => ?_)
  refine r_istore C 42 [(5, .int r37), (4, .int r26), (3, .int r16), (2, .int r6), (0, .ref 0), (1, .int p0)] dX4_carryOut_40 rfl (by decide) rfl ?_
  refine r_aload_n (j := 4) C 43 dX4_carryOut_42 rfl rfl ?_
  refine r_aload_n (j := 4) C 44 dX4_carryOut_43 rfl rfl ?_
  refine r_get (k := 7) C cl6 47 dX4_carryOut_44 rfl kd_0 (by decide) wd_365 (.ref 79) (fun _ => rfl) ?_
  refine r_get (k := 4) C cl5 50 dX4_carryOut_47 rfl kd_79 (by decide) wd_342 (.ref 81) (fun _ => rfl) ?_
  refine r_iload_n (j := 5) C 51 dX4_carryOut_50 rfl rfl ?_
  obtain ⟨o51, h⟩ := h
  refine r_cald C 52 dX4_carryOut_51 rfl kd_81 o51 ?_
  refine r_iload_n (j := 3) C 53 dX4_carryOut_52 rfl rfl ?_
  refine r_iload_n (j := 2) C 54 dX4_carryOut_53 rfl rfl ?_
  refine r_iload (j := 1) C 56 dX4_carryOut_54 rfl rfl ?_
  refine r_iload (j := 0) C 58 dX4_carryOut_56 rfl rfl ?_
  refine r_cVI (as := [.int (σ37.1 81 p0.toNatClampNeg), .int r6, .int r16, .int r26, .int r37]) (S := []) C r.px 61 (ct_X4_definitionReason _ _ _ _ _ _ _ _ h) dX4_carryOut_58 rfl cl6 kd_0 wd_37 wd_994 rfl wd_992 wd_995 wd_90 yd_X4_definitionReason ⟨Nat.le_of_ble_eq_true rfl, Nat.le_of_ble_eq_true rfl⟩ (Nat.le_of_ble_eq_true rfl) (by decide) (fun r58 σ58 h => ?_)
  refine r_istore C 63 [(6, .int r58), (5, .int r37), (4, .int r26), (3, .int r16), (2, .int r6), (0, .ref 0), (1, .int p0)] dX4_carryOut_61 rfl (by decide) rfl ?_
  refine r_iload (j := 0) C 65 dX4_carryOut_63 rfl rfl ?_
  refine r_if_eq C 71 68 dX4_carryOut_65 (by decide) rfl (fun c65 => ?_) (fun c65 => ?_)
  · have h := h.1 c65
    refine r_aload_n (j := 5) C 72 dX4_carryOut_71 rfl rfl ?_
    refine r_get (k := 7) C cl6 75 dX4_carryOut_72 rfl kd_0 (by decide) wd_365 (.ref 79) (fun _ => rfl) ?_
    refine r_get (k := 4) C cl5 78 dX4_carryOut_75 rfl kd_79 (by decide) wd_342 (.ref 81) (fun _ => rfl) ?_
    refine r_iload_n (j := 6) C 79 dX4_carryOut_78 rfl rfl ?_
    obtain ⟨o79, h⟩ := h
    refine r_cald C 80 dX4_carryOut_79 rfl kd_81 o79 ?_
    by_cases c80_0 : (σ58.1 81 p0.toNatClampNeg) = 112
    · have h := h.1 c80_0
      refine r_tblIn C 132 (off := 52) dX4_carryOut_80 (by rw [c80_0]; decide) (by rw [c80_0]; decide) (by rw [c80_0] <;> rfl) (by decide) ?_
      refine r_aload_n (j := 5) C 133 dX4_carryOut_132 rfl rfl ?_
      refine r_get (k := 0) C cl6 136 dX4_carryOut_133 rfl kd_0 (by decide) wd_358 (.ref 1) (fun _ => rfl) ?_
      refine r_iload_n (j := 4) C 137 dX4_carryOut_136 rfl rfl ?_
      refine r_iload_n (j := 3) C 138 dX4_carryOut_137 rfl rfl ?_
      refine r_iload (j := 2) C 140 dX4_carryOut_138 rfl rfl ?_
      refine r_iload (j := 1) C 142 dX4_carryOut_140 rfl rfl ?_
      refine r_cVV (as := [.int r6, .int r16, .int r26, .int r37]) (S := []) C r.px 145 (ct_X0_putPipe _ _ _ _ _ _ _ _ h) dX4_carryOut_142 rfl cl2 kd_1 wd_786 wd_785 rfl wd_784 wd_787 wd_91 yd_X0_putPipe ⟨Nat.le_of_ble_eq_true rfl, Nat.le_of_ble_eq_true rfl⟩ (Nat.le_of_ble_eq_true rfl) (by decide) (fun σ142 h => ?_)
      refine r_goto C 195 dX4_carryOut_145 (by decide) ?_
      refine r_aload_n (j := 5) C 196 dX4_carryOut_195 rfl rfl ?_
      refine r_iconst C 197 (v := 0) dX4_carryOut_196 rfl (by decide) ?_
      refine r_putI (k := 11) C cl6 200 dX4_carryOut_197 rfl kd_0 (by decide) wd_369 rfl rfl rfl rfl ?_
      refine r_nmS (fun σ197 e197 => ?_)
      have h := h σ197 e197
      refine r_iconst C 201 (v := 0) dX4_carryOut_200 rfl (by decide) ?_
      exact r_iret (S := []) C r dX4_carryOut_201 (by decide) rfl h
    by_cases c80_1 : (σ58.1 81 p0.toNatClampNeg) = 113
    · have h := h.2.1 c80_1
      refine r_tblIn C 188 (off := 108) dX4_carryOut_80 (by rw [c80_1]; decide) (by rw [c80_1]; decide) (by rw [c80_1] <;> rfl) (by decide) ?_
      refine r_aload_n (j := 5) C 189 dX4_carryOut_188 rfl rfl ?_
      refine r_iload_n (j := 4) C 190 dX4_carryOut_189 rfl rfl ?_
      refine r_cVV (as := [.int r6]) (S := []) C r.px 193 (ct_X4_passHours _ _ _ _ h) dX4_carryOut_190 rfl cl6 kd_0 wd_30 wd_892 rfl wd_890 wd_893 wd_90 yd_X4_passHours ⟨Nat.le_of_ble_eq_true rfl, Nat.le_of_ble_eq_true rfl⟩ (Nat.le_of_ble_eq_true rfl) (by decide) (fun σ190 h => ?_)
      refine r_iconst C 194 (v := 0) dX4_carryOut_193 rfl (by decide) ?_
      exact r_iret (S := []) C r dX4_carryOut_194 (by decide) rfl h
    by_cases c80_2 : (σ58.1 81 p0.toNatClampNeg) = 114
    · have h := h.2.2.1 c80_2
      refine r_tblIn C 188 (off := 108) dX4_carryOut_80 (by rw [c80_2]; decide) (by rw [c80_2]; decide) (by rw [c80_2] <;> rfl) (by decide) ?_
      refine r_aload_n (j := 5) C 189 dX4_carryOut_188 rfl rfl ?_
      refine r_iload_n (j := 4) C 190 dX4_carryOut_189 rfl rfl ?_
      refine r_cVV (as := [.int r6]) (S := []) C r.px 193 (ct_X4_passHours _ _ _ _ h) dX4_carryOut_190 rfl cl6 kd_0 wd_30 wd_892 rfl wd_890 wd_893 wd_90 yd_X4_passHours ⟨Nat.le_of_ble_eq_true rfl, Nat.le_of_ble_eq_true rfl⟩ (Nat.le_of_ble_eq_true rfl) (by decide) (fun σ190 h => ?_)
      refine r_iconst C 194 (v := 0) dX4_carryOut_193 rfl (by decide) ?_
      exact r_iret (S := []) C r dX4_carryOut_194 (by decide) rfl h
    by_cases c80_3 : (σ58.1 81 p0.toNatClampNeg) = 115
    · have h := h.2.2.2.1 c80_3
      refine r_tblIn C 148 (off := 68) dX4_carryOut_80 (by rw [c80_3]; decide) (by rw [c80_3]; decide) (by rw [c80_3] <;> rfl) (by decide) ?_
      refine r_aload_n (j := 5) C 149 dX4_carryOut_148 rfl rfl ?_
      refine r_get (k := 0) C cl6 152 dX4_carryOut_149 rfl kd_0 (by decide) wd_358 (.ref 1) (fun _ => rfl) ?_
      refine r_iload_n (j := 4) C 153 dX4_carryOut_152 rfl rfl ?_
      refine r_iload_n (j := 3) C 154 dX4_carryOut_153 rfl rfl ?_
      refine r_iload (j := 2) C 156 dX4_carryOut_154 rfl rfl ?_
      refine r_iload (j := 1) C 158 dX4_carryOut_156 rfl rfl ?_
      refine r_cVV (as := [.int r6, .int r16, .int r26, .int r37]) (S := []) C r.px 161 (ct_X0_putStation _ _ _ _ _ _ _ _ h) dX4_carryOut_158 rfl cl2 kd_1 wd_818 wd_817 rfl wd_816 wd_819 wd_91 yd_X0_putStation ⟨Nat.le_of_ble_eq_true rfl, Nat.le_of_ble_eq_true rfl⟩ (Nat.le_of_ble_eq_true rfl) (by decide) (fun σ158 h => ?_)
      refine r_goto C 195 dX4_carryOut_161 (by decide) ?_
      refine r_aload_n (j := 5) C 196 dX4_carryOut_195 rfl rfl ?_
      refine r_iconst C 197 (v := 0) dX4_carryOut_196 rfl (by decide) ?_
      refine r_putI (k := 11) C cl6 200 dX4_carryOut_197 rfl kd_0 (by decide) wd_369 rfl rfl rfl rfl ?_
      refine r_nmS (fun σ197 e197 => ?_)
      have h := h σ197 e197
      refine r_iconst C 201 (v := 0) dX4_carryOut_200 rfl (by decide) ?_
      exact r_iret (S := []) C r dX4_carryOut_201 (by decide) rfl h
    by_cases c80_4 : (σ58.1 81 p0.toNatClampNeg) = 116
    · have h := h.2.2.2.2.1 c80_4
      refine r_tblIn C 175 (off := 95) dX4_carryOut_80 (by rw [c80_4]; decide) (by rw [c80_4]; decide) (by rw [c80_4] <;> rfl) (by decide) ?_
      refine r_aload_n (j := 5) C 176 dX4_carryOut_175 rfl rfl ?_
      refine r_get (k := 0) C cl6 179 dX4_carryOut_176 rfl kd_0 (by decide) wd_358 (.ref 1) (fun _ => rfl) ?_
      refine r_get (k := 0) C cl2 182 dX4_carryOut_179 rfl kd_1 (by decide) wd_136 (.ref 2) (fun _ => rfl) ?_
      refine r_iload_n (j := 4) C 183 dX4_carryOut_182 rfl rfl ?_
      refine r_iload_n (j := 3) C 184 dX4_carryOut_183 rfl rfl ?_
      obtain ⟨o184, h⟩ := h
      refine r_iast C 185 dX4_carryOut_184 rfl kd_2 o184 ?_
      refine r_nmS (fun σ184 e184 => ?_)
      have h := h σ184 e184
      refine r_goto C 195 dX4_carryOut_185 (by decide) ?_
      refine r_aload_n (j := 5) C 196 dX4_carryOut_195 rfl rfl ?_
      refine r_iconst C 197 (v := 0) dX4_carryOut_196 rfl (by decide) ?_
      refine r_putI (k := 11) C cl6 200 dX4_carryOut_197 rfl kd_0 (by decide) wd_369 rfl rfl rfl rfl ?_
      refine r_nmS (fun σ197 e197 => ?_)
      have h := h σ197 e197
      refine r_iconst C 201 (v := 0) dX4_carryOut_200 rfl (by decide) ?_
      exact r_iret (S := []) C r dX4_carryOut_201 (by decide) rfl h
    by_cases c80_5 : (σ58.1 81 p0.toNatClampNeg) = 117
    · have h := h.2.2.2.2.2.1 c80_5
      refine r_tblIn C 188 (off := 108) dX4_carryOut_80 (by rw [c80_5]; decide) (by rw [c80_5]; decide) (by rw [c80_5] <;> rfl) (by decide) ?_
      refine r_aload_n (j := 5) C 189 dX4_carryOut_188 rfl rfl ?_
      refine r_iload_n (j := 4) C 190 dX4_carryOut_189 rfl rfl ?_
      refine r_cVV (as := [.int r6]) (S := []) C r.px 193 (ct_X4_passHours _ _ _ _ h) dX4_carryOut_190 rfl cl6 kd_0 wd_30 wd_892 rfl wd_890 wd_893 wd_90 yd_X4_passHours ⟨Nat.le_of_ble_eq_true rfl, Nat.le_of_ble_eq_true rfl⟩ (Nat.le_of_ble_eq_true rfl) (by decide) (fun σ190 h => ?_)
      refine r_iconst C 194 (v := 0) dX4_carryOut_193 rfl (by decide) ?_
      exact r_iret (S := []) C r dX4_carryOut_194 (by decide) rfl h
    by_cases c80_6 : (σ58.1 81 p0.toNatClampNeg) = 118
    · have h := h.2.2.2.2.2.2.1 c80_6
      refine r_tblIn C 188 (off := 108) dX4_carryOut_80 (by rw [c80_6]; decide) (by rw [c80_6]; decide) (by rw [c80_6] <;> rfl) (by decide) ?_
      refine r_aload_n (j := 5) C 189 dX4_carryOut_188 rfl rfl ?_
      refine r_iload_n (j := 4) C 190 dX4_carryOut_189 rfl rfl ?_
      refine r_cVV (as := [.int r6]) (S := []) C r.px 193 (ct_X4_passHours _ _ _ _ h) dX4_carryOut_190 rfl cl6 kd_0 wd_30 wd_892 rfl wd_890 wd_893 wd_90 yd_X4_passHours ⟨Nat.le_of_ble_eq_true rfl, Nat.le_of_ble_eq_true rfl⟩ (Nat.le_of_ble_eq_true rfl) (by decide) (fun σ190 h => ?_)
      refine r_iconst C 194 (v := 0) dX4_carryOut_193 rfl (by decide) ?_
      exact r_iret (S := []) C r dX4_carryOut_194 (by decide) rfl h
    by_cases c80_7 : (σ58.1 81 p0.toNatClampNeg) = 119
    · have h := h.2.2.2.2.2.2.2.1 c80_7
      refine r_tblIn C 188 (off := 108) dX4_carryOut_80 (by rw [c80_7]; decide) (by rw [c80_7]; decide) (by rw [c80_7] <;> rfl) (by decide) ?_
      refine r_aload_n (j := 5) C 189 dX4_carryOut_188 rfl rfl ?_
      refine r_iload_n (j := 4) C 190 dX4_carryOut_189 rfl rfl ?_
      refine r_cVV (as := [.int r6]) (S := []) C r.px 193 (ct_X4_passHours _ _ _ _ h) dX4_carryOut_190 rfl cl6 kd_0 wd_30 wd_892 rfl wd_890 wd_893 wd_90 yd_X4_passHours ⟨Nat.le_of_ble_eq_true rfl, Nat.le_of_ble_eq_true rfl⟩ (Nat.le_of_ble_eq_true rfl) (by decide) (fun σ190 h => ?_)
      refine r_iconst C 194 (v := 0) dX4_carryOut_193 rfl (by decide) ?_
      exact r_iret (S := []) C r dX4_carryOut_194 (by decide) rfl h
    by_cases c80_8 : (σ58.1 81 p0.toNatClampNeg) = 120
    · have h := h.2.2.2.2.2.2.2.2.1 c80_8
      refine r_tblIn C 164 (off := 84) dX4_carryOut_80 (by rw [c80_8]; decide) (by rw [c80_8]; decide) (by rw [c80_8] <;> rfl) (by decide) ?_
      refine r_aload_n (j := 5) C 165 dX4_carryOut_164 rfl rfl ?_
      refine r_get (k := 0) C cl6 168 dX4_carryOut_165 rfl kd_0 (by decide) wd_358 (.ref 1) (fun _ => rfl) ?_
      refine r_iload_n (j := 4) C 169 dX4_carryOut_168 rfl rfl ?_
      refine r_cVV (as := [.int r6]) (S := []) C r.px 172 (ct_X0_dropStation _ _ _ _ _ h) dX4_carryOut_169 rfl cl2 kd_1 wd_837 wd_836 rfl wd_835 wd_838 wd_91 yd_X0_dropStation ⟨Nat.le_of_ble_eq_true rfl, Nat.le_of_ble_eq_true rfl⟩ (Nat.le_of_ble_eq_true rfl) (by decide) (fun σ169 h => ?_)
      refine r_goto C 195 dX4_carryOut_172 (by decide) ?_
      refine r_aload_n (j := 5) C 196 dX4_carryOut_195 rfl rfl ?_
      refine r_iconst C 197 (v := 0) dX4_carryOut_196 rfl (by decide) ?_
      refine r_putI (k := 11) C cl6 200 dX4_carryOut_197 rfl kd_0 (by decide) wd_369 rfl rfl rfl rfl ?_
      refine r_nmS (fun σ197 e197 => ?_)
      have h := h σ197 e197
      refine r_iconst C 201 (v := 0) dX4_carryOut_200 rfl (by decide) ?_
      exact r_iret (S := []) C r dX4_carryOut_201 (by decide) rfl h
    have h := h.2.2.2.2.2.2.2.2.2 c80_0 c80_1 c80_2 c80_3 c80_4 c80_5 c80_6 c80_7 c80_8
    refine r_tblOut C 188 dX4_carryOut_80 (tsw_outL 112 9 (by decide) (by decide) (by decide) (fun k hk => by
      match k, hk with
      | 0, _ => exact c80_0
      | 1, _ => exact c80_1
      | 2, _ => exact c80_2
      | 3, _ => exact c80_3
      | 4, _ => exact c80_4
      | 5, _ => exact c80_5
      | 6, _ => exact c80_6
      | 7, _ => exact c80_7
      | 8, _ => exact c80_8
      | k + 9, hk => exact absurd hk (by omega))) (by decide) ?_
    refine r_aload_n (j := 5) C 189 dX4_carryOut_188 rfl rfl ?_
    refine r_iload_n (j := 4) C 190 dX4_carryOut_189 rfl rfl ?_
    refine r_cVV (as := [.int r6]) (S := []) C r.px 193 (ct_X4_passHours _ _ _ _ h) dX4_carryOut_190 rfl cl6 kd_0 wd_30 wd_892 rfl wd_890 wd_893 wd_90 yd_X4_passHours ⟨Nat.le_of_ble_eq_true rfl, Nat.le_of_ble_eq_true rfl⟩ (Nat.le_of_ble_eq_true rfl) (by decide) (fun σ190 h => ?_)
    refine r_iconst C 194 (v := 0) dX4_carryOut_193 rfl (by decide) ?_
    exact r_iret (S := []) C r dX4_carryOut_194 (by decide) rfl h
  · have h := h.2 c65
    refine r_iload (j := 0) C 70 dX4_carryOut_68 rfl rfl ?_
    exact r_iret (S := []) C r dX4_carryOut_70 (by decide) rfl h
theorem ct_X4_carryOut (p0 : Int32) (σ : Mem) (K : Int32 → Mem → Prop) (X : String → Mem → Prop) (h : sp_X4_carryOut p0 σ K X) : CtI yX4_carryOut cX4_carryOut 7 (some .int) 6 0 [.ref 0, .int p0] σ K X := by
  have h := h
  exact ctI_of (by decide +kernel) (Nat.le_of_ble_eq_true rfl) (fun x C r => sg_X4_carryOut_0 C r p0  σ h)
/-! HeatNetwork.hours(I)J: level 9, exceptions 2 -/
def sp_X4_hours (p0 : Int32) (σ : Mem) (K : Int64 → Mem → Prop) (X : String → Mem → Prop) : Prop := (sp_X4_needRange p0 1 24 σ (fun σ4 => sp_X4_settle  σ4 (fun σ8 => sp_X4_hoursReason  σ8 (fun r13 σ13 => sp_X4_refuseFor r13 σ13 (fun σ16 => sp_X4_beginChange  σ16 (fun σ20 => sp_X4_passHours p0 σ20 (fun σ25 => sp_X4_endChange  σ25 (fun σ29 => K (σ29.2.1 1 14) σ29) X) X) X) X) X) X) X)
set_option maxRecDepth 4000 in
theorem sg_X4_hours_0 {x : Ctx} {K : Int64 → Mem → Prop} {X : String → Mem → Prop} (C : Cx x RX4 cX4_hours 2) (r : RtL x 9 2 (some .long) K X) (p0 : Int32)  (σ : Mem) (h : sp_X4_needRange p0 1 24 σ (fun σ4 => sp_X4_settle  σ4 (fun σ8 => sp_X4_hoursReason  σ8 (fun r13 σ13 => sp_X4_refuseFor r13 σ13 (fun σ16 => sp_X4_beginChange  σ16 (fun σ20 => sp_X4_passHours p0 σ20 (fun σ25 => sp_X4_endChange  σ25 (fun σ29 => K (σ29.2.1 1 14) σ29) X) X) X) X) X) X) X) : Ws x 0 0 [(0, .ref 0), (1, .int p0)] [] σ := by
  refine r_iload_n (j := 1) C 1 dX4_hours_0 rfl rfl ?_
  refine r_iconst C 2 (v := 1) dX4_hours_1 rfl (by decide) ?_
  refine r_bipush C 4 (v := 24) dX4_hours_2 rfl (by decide) ?_
  refine r_cSV (b := 0) (as := [.int p0, .int 1, .int 24]) (S := []) C r.px 7 (ct_X4_needRange _ _ _ _ _ _ h) dX4_hours_4 rfl wd_869 wd_868 wd_870 wd_90 yd_X4_needRange ⟨Nat.le_of_ble_eq_true rfl, Nat.le_of_ble_eq_true rfl⟩ (Nat.le_of_ble_eq_true rfl) (by decide) (fun σ4 h => ?_)
  refine r_aload_n (j := 0) C 8 dX4_hours_7 rfl rfl ?_
  refine r_cVV (as := []) (S := []) C r.px 11 (ct_X4_settle  _ _ _ h) dX4_hours_8 rfl cl6 kd_0 wd_0 wd_411 rfl wd_409 wd_412 wd_90 yd_X4_settle ⟨Nat.le_of_ble_eq_true rfl, Nat.le_of_ble_eq_true rfl⟩ (Nat.le_of_ble_eq_true rfl) (by decide) (fun σ8 h => ?_)
  refine r_aload_n (j := 0) C 12 dX4_hours_11 rfl rfl ?_
  refine r_aload_n (j := 0) C 13 dX4_hours_12 rfl rfl ?_
  refine r_cVI (as := []) (S := [.ref 0]) C r.px 16 (ct_X4_hoursReason  _ _ _ h) dX4_hours_13 rfl cl6 kd_0 wd_29 wd_888 rfl wd_886 wd_889 wd_90 yd_X4_hoursReason ⟨Nat.le_of_ble_eq_true rfl, Nat.le_of_ble_eq_true rfl⟩ (Nat.le_of_ble_eq_true rfl) (by decide) (fun r13 σ13 h => ?_)
  refine r_cVV (as := [.int r13]) (S := []) C r.px 19 (ct_X4_refuseFor _ _ _ _ h) dX4_hours_16 rfl cl6 kd_0 wd_26 wd_766 rfl wd_764 wd_767 wd_90 yd_X4_refuseFor ⟨Nat.le_of_ble_eq_true rfl, Nat.le_of_ble_eq_true rfl⟩ (Nat.le_of_ble_eq_true rfl) (by decide) (fun σ16 h => ?_)
  refine r_aload_n (j := 0) C 20 dX4_hours_19 rfl rfl ?_
  refine r_cVV (as := []) (S := []) C r.px 23 (ct_X4_beginChange  _ _ _ h) dX4_hours_20 rfl cl6 kd_0 wd_24 wd_718 rfl wd_716 wd_719 wd_90 yd_X4_beginChange ⟨Nat.le_of_ble_eq_true rfl, Nat.le_of_ble_eq_true rfl⟩ (Nat.le_of_ble_eq_true rfl) (by decide) (fun σ20 h => ?_)
  refine r_aload_n (j := 0) C 24 dX4_hours_23 rfl rfl ?_
  refine r_iload_n (j := 1) C 25 dX4_hours_24 rfl rfl ?_
  refine r_cVV (as := [.int p0]) (S := []) C r.px 28 (ct_X4_passHours _ _ _ _ h) dX4_hours_25 rfl cl6 kd_0 wd_30 wd_892 rfl wd_890 wd_893 wd_90 yd_X4_passHours ⟨Nat.le_of_ble_eq_true rfl, Nat.le_of_ble_eq_true rfl⟩ (Nat.le_of_ble_eq_true rfl) (by decide) (fun σ25 h => ?_)
  refine r_aload_n (j := 0) C 29 dX4_hours_28 rfl rfl ?_
  refine r_cVV (as := []) (S := []) C r.px 32 (ct_X4_endChange  _ _ _ h) dX4_hours_29 rfl cl6 kd_0 wd_25 wd_722 rfl wd_720 wd_723 wd_90 yd_X4_endChange ⟨Nat.le_of_ble_eq_true rfl, Nat.le_of_ble_eq_true rfl⟩ (Nat.le_of_ble_eq_true rfl) (by decide) (fun σ29 h => ?_)
  refine r_aload_n (j := 0) C 33 dX4_hours_32 rfl rfl ?_
  refine r_get (k := 0) C cl6 36 dX4_hours_33 rfl kd_0 (by decide) wd_358 (.ref 1) (fun _ => rfl) ?_
  refine r_get (k := 14) C cl2 39 dX4_hours_36 rfl kd_1 (by decide) wd_171 (.long (σ29.2.1 1 14)) (fun _ => rfl) ?_
  exact r_lret (S := []) C r dX4_hours_39 (by decide) h
theorem ct_X4_hours (p0 : Int32) (σ : Mem) (K : Int64 → Mem → Prop) (X : String → Mem → Prop) (h : sp_X4_hours p0 σ K X) : CtL yX4_hours cX4_hours 2 (some .long) 9 2 [.ref 0, .int p0] σ K X := by
  have h := h
  exact ctL_of (by decide +kernel) (Nat.le_of_ble_eq_true rfl) (fun x C r => sg_X4_hours_0 C r p0  σ h)
