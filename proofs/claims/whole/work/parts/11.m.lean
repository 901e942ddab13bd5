/-! HeatNetwork$Network.countedHeat(IJ)J: level 2, exceptions 0 -/
def sp_X0_countedHeat (a : Nat) (p0 : Int32) (p1 : Int64) (σ : Mem) (K : Int64 → Mem → Prop) (X : String → Mem → Prop) : Prop := (NetA a) ∧ ((vp_in p0 10) ∧ (((σ.1 (a + 9) p0.toNatClampNeg) = 1 → K 0 σ) ∧ ((σ.1 (a + 9) p0.toNatClampNeg) = 2 → (vp_in p0 10) ∧ (sp_J9_floorDiv_f86c9 (p1 * ((σ.1 (a + 10) p0.toNatClampNeg)).toInt64) 1000 σ (fun r46 σ46 => K r46 σ46) X)) ∧ (¬ (σ.1 (a + 9) p0.toNatClampNeg) = 1 → ¬ (σ.1 (a + 9) p0.toNatClampNeg) = 2 → K p1 σ)))
set_option maxRecDepth 4000 in
theorem sg_X0_countedHeat_0 {x : Ctx} {K : Int64 → Mem → Prop} {X : String → Mem → Prop} (C : Cx x RX0 cX0_countedHeat 4) (r : RtL x 2 0 (some .long) K X) (a : Nat) (p0 : Int32) (p1 : Int64) (ha : NetA a) (σ : Mem) (h : (vp_in p0 10) ∧ (((σ.1 (a + 9) p0.toNatClampNeg) = 1 → K 0 σ) ∧ ((σ.1 (a + 9) p0.toNatClampNeg) = 2 → (vp_in p0 10) ∧ (sp_J9_floorDiv_f86c9 (p1 * ((σ.1 (a + 10) p0.toNatClampNeg)).toInt64) 1000 σ (fun r46 σ46 => K r46 σ46) X)) ∧ (¬ (σ.1 (a + 9) p0.toNatClampNeg) = 1 → ¬ (σ.1 (a + 9) p0.toNatClampNeg) = 2 → K p1 σ))) : Ws x 0 0 [(0, .ref a), (1, .int p0), (2, .long p1)] [] σ := by
  refine r_aload_n (j := 0) C 1 dX0_countedHeat_0 rfl rfl ?_
  refine r_get (k := 9) C cl2 4 dX0_countedHeat_1 rfl (net0 ha) (by decide) wd_160 (.ref (a + 9)) (fun _ => rfl) ?_
  refine r_iload_n (j := 1) C 5 dX0_countedHeat_4 rfl rfl ?_
  obtain ⟨o5, h⟩ := h
  refine r_iald C 6 dX0_countedHeat_5 rfl (net9 ha) o5 ?_
  by_cases c6_1 : (σ.1 (a + 9) p0.toNatClampNeg) = 1
  · have h := h.1 c6_1
    refine r_lksw C 32 (off := 26) dX0_countedHeat_6 (by decide) (by rw [c6_1] <;> rfl) (by decide) ?_
    refine r_lconst C 33 (v := 0) dX0_countedHeat_32 rfl rfl ?_
    exact r_lret (S := []) C r dX0_countedHeat_33 (by decide) h
  by_cases c6_2 : (σ.1 (a + 9) p0.toNatClampNeg) = 2
  · have h := h.2.1 c6_2
    refine r_lksw C 34 (off := 28) dX0_countedHeat_6 (by decide) (by rw [c6_2] <;> rfl) (by decide) ?_
    refine r_lload_n (j := 2) C 35 dX0_countedHeat_34 rfl rfl ?_
    refine r_aload_n (j := 0) C 36 dX0_countedHeat_35 rfl rfl ?_
    refine r_get (k := 10) C cl2 39 dX0_countedHeat_36 rfl (net0 ha) (by decide) wd_162 (.ref (a + 10)) (fun _ => rfl) ?_
    refine r_iload_n (j := 1) C 40 dX0_countedHeat_39 rfl rfl ?_
    obtain ⟨o40, h⟩ := h
    refine r_iald C 41 dX0_countedHeat_40 rfl (net10 ha) o40 ?_
    refine r_i2l C 42 dX0_countedHeat_41 rfl ?_
    refine r_lmul C 43 dX0_countedHeat_42 rfl ?_
    refine r_ldc2 C 46 (v := 1000) dX0_countedHeat_43 rfl wd_902 ?_
    refine r_cSL (b := 0) (as := [.long (p1 * ((σ.1 (a + 10) p0.toNatClampNeg)).toInt64), .long 1000]) (S := []) C r.px 49 (ct_J9_floorDiv_f86c9 _ _ _ _ _ h) dX0_countedHeat_46 rfl wd_904 wd_903 wd_905 wd_104 yd_J9_floorDiv_f86c9 ⟨Nat.le_of_ble_eq_true rfl, Nat.le_of_ble_eq_true rfl⟩ (Nat.le_of_ble_eq_true rfl) (by decide) (fun r46 σ46 h => ?_)
    exact r_lret (S := []) C r dX0_countedHeat_49 (by decide) h
  have h := h.2.2 c6_1 c6_2
  refine r_lksw C 50 (off := 44) dX0_countedHeat_6 (by decide) (by show Op.lookupswitch.offset [(1, 26), (2, 28)] _ _ = _; rw [lv_osw c6_1 (a := 1) (by decide), lv_osw c6_2 (a := 2) (by decide)] <;> rfl) (by decide) ?_
  refine r_lload_n (j := 2) C 51 dX0_countedHeat_50 rfl rfl ?_
  exact r_lret (S := []) C r dX0_countedHeat_51 (by decide) h
theorem ct_X0_countedHeat (a : Nat) (p0 : Int32) (p1 : Int64) (σ : Mem) (K : Int64 → Mem → Prop) (X : String → Mem → Prop) (h : sp_X0_countedHeat a p0 p1 σ K X) : CtL yX0_countedHeat cX0_countedHeat 4 (some .long) 2 0 [.ref a, .int p0, .long p1] σ K X := by
  obtain ⟨ha, h⟩ := h
  exact ctL_of (by decide +kernel) (Nat.le_of_ble_eq_true rfl) (fun x C r => sg_X0_countedHeat_0 C r a p0 p1 ha σ h)
/-! HeatNetwork$Network.dropOf(II)J: level 2, exceptions 0 -/
def sp_X0_dropOf (a : Nat) (p0 : Int32) (p1 : Int32) (σ : Mem) (K : Int64 → Mem → Prop) (X : String → Mem → Prop) : Prop := (NetA a) ∧ ((vp_in p0 10) ∧ ((vp_in p0 10) ∧ (∀ v14 : Int64, v14 = (((σ.1 (a + 4) p0.toNatClampNeg) * (σ.1 (a + 5) p0.toNatClampNeg))).toInt64 → sp_J9_abs_0f7a4 p1 σ (fun r20 σ20 => K ((v14 * (p1).toInt64) * (r20).toInt64) σ20) X)))
set_option maxRecDepth 4000 in
theorem sg_X0_dropOf_0 {x : Ctx} {K : Int64 → Mem → Prop} {X : String → Mem → Prop} (C : Cx x RX0 cX0_dropOf 5) (r : RtL x 2 0 (some .long) K X) (a : Nat) (p0 : Int32) (p1 : Int32) (ha : NetA a) (σ : Mem) (h : (vp_in p0 10) ∧ ((vp_in p0 10) ∧ (∀ v14 : Int64, v14 = (((σ.1 (a + 4) p0.toNatClampNeg) * (σ.1 (a + 5) p0.toNatClampNeg))).toInt64 → sp_J9_abs_0f7a4 p1 σ (fun r20 σ20 => K ((v14 * (p1).toInt64) * (r20).toInt64) σ20) X))) : Ws x 0 0 [(0, .ref a), (1, .int p0), (2, .int p1)] [] σ := by
  refine r_aload_n (j := 0) C 1 dX0_dropOf_0 rfl rfl ?_
  refine r_get (k := 4) C cl2 4 dX0_dropOf_1 rfl (net0 ha) (by decide) wd_148 (.ref (a + 4)) (fun _ => rfl) ?_
  refine r_iload_n (j := 1) C 5 dX0_dropOf_4 rfl rfl ?_
  obtain ⟨o5, h⟩ := h
  refine r_iald C 6 dX0_dropOf_5 rfl (net4 ha) o5 ?_
  refine r_aload_n (j := 0) C 7 dX0_dropOf_6 rfl rfl ?_
  refine r_get (k := 5) C cl2 10 dX0_dropOf_7 rfl (net0 ha) (by decide) wd_150 (.ref (a + 5)) (fun _ => rfl) ?_
  refine r_iload_n (j := 1) C 11 dX0_dropOf_10 rfl rfl ?_
  obtain ⟨o11, h⟩ := h
  refine r_iald C 12 dX0_dropOf_11 rfl (net5 ha) o11 ?_
  refine r_imul C 13 dX0_dropOf_12 rfl ?_
  refine r_i2l C 14 dX0_dropOf_13 rfl ?_
  refine r_nmL (fun v14 e14 => ?_)
  have h := h v14 e14
  refine r_lstore_n C 15 [(3, .long v14), (0, .ref a), (1, .int p0), (2, .int p1)] dX0_dropOf_14 rfl (by decide) rfl ?_
  refine r_lload_n (j := 0) C 16 dX0_dropOf_15 rfl rfl ?_
  refine r_iload_n (j := 3) C 17 dX0_dropOf_16 rfl rfl ?_
  refine r_i2l C 18 dX0_dropOf_17 rfl ?_
  refine r_lmul C 19 dX0_dropOf_18 rfl ?_
  refine r_iload_n (j := 3) C 20 dX0_dropOf_19 rfl rfl ?_
  refine r_cSI (b := 0) (as := [.int p1]) (S := [.long (v14 * (p1).toInt64)]) C r.px 23 (ct_J9_abs_0f7a4 _ _ _ _ h) dX0_dropOf_20 rfl wd_511 wd_510 wd_512 wd_104 yd_J9_abs_0f7a4 ⟨Nat.le_of_ble_eq_true rfl, Nat.le_of_ble_eq_true rfl⟩ (Nat.le_of_ble_eq_true rfl) (by decide) (fun r20 σ20 h => ?_)
  refine r_i2l C 24 dX0_dropOf_23 rfl ?_
  refine r_lmul C 25 dX0_dropOf_24 rfl ?_
  exact r_lret (S := []) C r dX0_dropOf_25 (by decide) h
theorem ct_X0_dropOf (a : Nat) (p0 : Int32) (p1 : Int32) (σ : Mem) (K : Int64 → Mem → Prop) (X : String → Mem → Prop) (h : sp_X0_dropOf a p0 p1 σ K X) : CtL yX0_dropOf cX0_dropOf 5 (some .long) 2 0 [.ref a, .int p0, .int p1] σ K X := by
  obtain ⟨ha, h⟩ := h
  exact ctL_of (by decide +kernel) (Nat.le_of_ble_eq_true rfl) (fun x C r => sg_X0_dropOf_0 C r a p0 p1 ha σ h)
/-! HeatNetwork$Network.tariffOf(I)I: level 2, exceptions 0 -/
def sp_X0_tariffOf (a : Nat) (p0 : Int32) (σ : Mem) (K : Int32 → Mem → Prop) (X : String → Mem → Prop) : Prop := (NetA a) ∧ ((vp_in p0 10) ∧ (sp_J9_floorDiv_7cf53 ((σ.1 (a + 1) 6) * ((σ.1 (a + 7) p0.toNatClampNeg) - 400)) 10 σ (fun r20 σ20 => sp_J9_max_7cf53 0 ((σ20.1 (a + 1) 5) + r20) σ20 (fun r33 σ33 => K r33 σ33) X) X))
set_option maxRecDepth 4000 in
theorem sg_X0_tariffOf_0 {x : Ctx} {K : Int32 → Mem → Prop} {X : String → Mem → Prop} (C : Cx x RX0 cX0_tariffOf 3) (r : RtI x 2 0 (some .int) K X) (a : Nat) (p0 : Int32) (ha : NetA a) (σ : Mem) (h : (vp_in p0 10) ∧ (sp_J9_floorDiv_7cf53 ((σ.1 (a + 1) 6) * ((σ.1 (a + 7) p0.toNatClampNeg) - 400)) 10 σ (fun r20 σ20 => sp_J9_max_7cf53 0 ((σ20.1 (a + 1) 5) + r20) σ20 (fun r33 σ33 => K r33 σ33) X) X)) : Ws x 0 0 [(0, .ref a), (1, .int p0)] [] σ := by
  refine r_aload_n (j := 0) C 1 dX0_tariffOf_0 rfl rfl ?_
  refine r_get (k := 0) C cl2 4 dX0_tariffOf_1 rfl (net0 ha) (by decide) wd_134 (.ref (a + 1)) (fun _ => rfl) ?_
  refine r_bipush C 6 (v := 6) dX0_tariffOf_4 rfl (by decide) ?_
  refine r_iald C 7 dX0_tariffOf_6 rfl (net1 ha) (n_inR (n := 6) (by decide) (by decide)) ?_
  refine r_aload_n (j := 0) C 8 dX0_tariffOf_7 rfl rfl ?_
  refine r_get (k := 7) C cl2 11 dX0_tariffOf_8 rfl (net0 ha) (by decide) wd_154 (.ref (a + 7)) (fun _ => rfl) ?_
  refine r_iload_n (j := 1) C 12 dX0_tariffOf_11 rfl rfl ?_
  obtain ⟨o12, h⟩ := h
  refine r_iald C 13 dX0_tariffOf_12 rfl (net7 ha) o12 ?_
  refine r_sipush C 16 (v := 400) dX0_tariffOf_13 rfl (by decide) ?_
  refine r_isub C 17 dX0_tariffOf_16 rfl ?_
  refine r_imul C 18 dX0_tariffOf_17 rfl ?_
  refine r_bipush C 20 (v := 10) dX0_tariffOf_18 rfl (by decide) ?_
  refine r_cSI (b := 0) (as := [.int ((σ.1 (a + 1) 6) * ((σ.1 (a + 7) p0.toNatClampNeg) - 400)), .int 10]) (S := []) C r.px 23 (ct_J9_floorDiv_7cf53 _ _ _ _ _ h) dX0_tariffOf_20 rfl wd_915 wd_914 wd_916 wd_104 yd_J9_floorDiv_7cf53 ⟨Nat.le_of_ble_eq_true rfl, Nat.le_of_ble_eq_true rfl⟩ (Nat.le_of_ble_eq_true rfl) (by decide) (fun r20 σ20 h => ?_)
  refine r_istore_n C 24 [(2, .int r20), (0, .ref a), (1, .int p0)] dX0_tariffOf_23 rfl (by decide) rfl ?_
  refine r_iconst C 25 (v := 0) dX0_tariffOf_24 rfl (by decide) ?_
  refine r_aload_n (j := 1) C 26 dX0_tariffOf_25 rfl rfl ?_
  refine r_get (k := 0) C cl2 29 dX0_tariffOf_26 rfl (net0 ha) (by decide) wd_134 (.ref (a + 1)) (fun _ => rfl) ?_
  refine r_iconst C 30 (v := 5) dX0_tariffOf_29 rfl (by decide) ?_
  refine r_iald C 31 dX0_tariffOf_30 rfl (net1 ha) (n_inR (n := 5) (by decide) (by decide)) ?_
  refine r_iload_n (j := 0) C 32 dX0_tariffOf_31 rfl rfl ?_
  refine r_iadd C 33 dX0_tariffOf_32 rfl ?_
  refine r_cSI (b := 0) (as := [.int 0, .int ((σ20.1 (a + 1) 5) + r20)]) (S := []) C r.px 36 (ct_J9_max_7cf53 _ _ _ _ _ h) dX0_tariffOf_33 rfl wd_480 wd_479 wd_481 wd_104 yd_J9_max_7cf53 ⟨Nat.le_of_ble_eq_true rfl, Nat.le_of_ble_eq_true rfl⟩ (Nat.le_of_ble_eq_true rfl) (by decide) (fun r33 σ33 h => ?_)
  exact r_iret (S := []) C r dX0_tariffOf_36 (by decide) rfl h
theorem ct_X0_tariffOf (a : Nat) (p0 : Int32) (σ : Mem) (K : Int32 → Mem → Prop) (X : String → Mem → Prop) (h : sp_X0_tariffOf a p0 σ K X) : CtI yX0_tariffOf cX0_tariffOf 3 (some .int) 2 0 [.ref a, .int p0] σ K X := by
  obtain ⟨ha, h⟩ := h
  exact ctI_of (by decide +kernel) (Nat.le_of_ble_eq_true rfl) (fun x C r => sg_X0_tariffOf_0 C r a p0 ha σ h)
/-! HeatNetwork$Network.wantedHeat(I)I: level 2, exceptions 0 -/
def sp_X0_wantedHeat (a : Nat) (p0 : Int32) (σ : Mem) (K : Int32 → Mem → Prop) (X : String → Mem → Prop) : Prop := (NetA a) ∧ ((vp_in p0 10) ∧ (sp_J9_max_7cf53 0 (200 - (σ.1 (a + 1) 2)) σ (fun r17 σ17 => K ((σ.1 (a + 6) p0.toNatClampNeg) * r17) σ17) X))
set_option maxRecDepth 4000 in
theorem sg_X0_wantedHeat_0 {x : Ctx} {K : Int32 → Mem → Prop} {X : String → Mem → Prop} (C : Cx x RX0 cX0_wantedHeat 2) (r : RtI x 2 0 (some .int) K X) (a : Nat) (p0 : Int32) (ha : NetA a) (σ : Mem) (h : (vp_in p0 10) ∧ (sp_J9_max_7cf53 0 (200 - (σ.1 (a + 1) 2)) σ (fun r17 σ17 => K ((σ.1 (a + 6) p0.toNatClampNeg) * r17) σ17) X)) : Ws x 0 0 [(0, .ref a), (1, .int p0)] [] σ := by
  refine r_aload_n (j := 0) C 1 dX0_wantedHeat_0 rfl rfl ?_
  refine r_get (k := 6) C cl2 4 dX0_wantedHeat_1 rfl (net0 ha) (by decide) wd_152 (.ref (a + 6)) (fun _ => rfl) ?_
  refine r_iload_n (j := 1) C 5 dX0_wantedHeat_4 rfl rfl ?_
  obtain ⟨o5, h⟩ := h
  refine r_iald C 6 dX0_wantedHeat_5 rfl (net6 ha) o5 ?_
  refine r_iconst C 7 (v := 0) dX0_wantedHeat_6 rfl (by decide) ?_
  refine r_sipush C 10 (v := 200) dX0_wantedHeat_7 rfl (by decide) ?_
  refine r_aload_n (j := 0) C 11 dX0_wantedHeat_10 rfl rfl ?_
  refine r_get (k := 0) C cl2 14 dX0_wantedHeat_11 rfl (net0 ha) (by decide) wd_134 (.ref (a + 1)) (fun _ => rfl) ?_
  refine r_iconst C 15 (v := 2) dX0_wantedHeat_14 rfl (by decide) ?_
  refine r_iald C 16 dX0_wantedHeat_15 rfl (net1 ha) (n_inR (n := 2) (by decide) (by decide)) ?_
  refine r_isub C 17 dX0_wantedHeat_16 rfl ?_
  refine r_cSI (b := 0) (as := [.int 0, .int (200 - (σ.1 (a + 1) 2))]) (S := [.int (σ.1 (a + 6) p0.toNatClampNeg)]) C r.px 20 (ct_J9_max_7cf53 _ _ _ _ _ h) dX0_wantedHeat_17 rfl wd_480 wd_479 wd_481 wd_104 yd_J9_max_7cf53 ⟨Nat.le_of_ble_eq_true rfl, Nat.le_of_ble_eq_true rfl⟩ (Nat.le_of_ble_eq_true rfl) (by decide) (fun r17 σ17 h => ?_)
  refine r_imul C 21 dX0_wantedHeat_20 rfl ?_
  exact r_iret (S := []) C r dX0_wantedHeat_21 (by decide) rfl h
theorem ct_X0_wantedHeat (a : Nat) (p0 : Int32) (σ : Mem) (K : Int32 → Mem → Prop) (X : String → Mem → Prop) (h : sp_X0_wantedHeat a p0 σ K X) : CtI yX0_wantedHeat cX0_wantedHeat 2 (some .int) 2 0 [.ref a, .int p0] σ K X := by
  obtain ⟨ha, h⟩ := h
  exact ctI_of (by decide +kernel) (Nat.le_of_ble_eq_true rfl) (fun x C r => sg_X0_wantedHeat_0 C r a p0 ha σ h)
/-! HeatNetwork.isPipe(I)Z: level 1, exceptions 0 -/
def sp_X4_isPipe (p0 : Int32) (σ : Mem) (K : Int32 → Mem → Prop) (X : String → Mem → Prop) : Prop := ((p0 < 0 → K 0 σ) ∧ (¬ p0 < 0 → (10 ≤ p0 → K 0 σ) ∧ (¬ 10 ≤ p0 → K 1 σ)))
set_option maxRecDepth 4000 in
theorem sg_X4_isPipe_0 {x : Ctx} {K : Int32 → Mem → Prop} {X : String → Mem → Prop} (C : Cx x RX4 cX4_isPipe 1) (r : RtI x 1 0 (some .boolean) K X) (p0 : Int32)  (σ : Mem) (h : (p0 < 0 → K 0 σ) ∧ (¬ p0 < 0 → (10 ≤ p0 → K 0 σ) ∧ (¬ 10 ≤ p0 → K 1 σ))) : Ws x 0 0 [(0, .int p0)] [] σ := by
  refine r_iload_n (j := 0) C 1 dX4_isPipe_0 rfl rfl ?_
  refine r_if_lt C 14 4 dX4_isPipe_1 (by decide) rfl (fun c1 => ?_) (fun c1 => ?_)
  · have h := h.1 c1
    refine r_iconst C 15 (v := 0) dX4_isPipe_14 rfl (by decide) ?_
    exact r_iret (S := []) C r dX4_isPipe_15 (by decide) (by decide) h
  · have h := h.2 c1
    refine r_iload_n (j := 0) C 5 dX4_isPipe_4 rfl rfl ?_
    refine r_bipush C 7 (v := 10) dX4_isPipe_5 rfl (by decide) ?_
    refine r_icmp_ge C 14 10 dX4_isPipe_7 (by decide) rfl (fun c7 => ?_) (fun c7 => ?_)
    · have h := h.1 c7
      refine r_iconst C 15 (v := 0) dX4_isPipe_14 rfl (by decide) ?_
      exact r_iret (S := []) C r dX4_isPipe_15 (by decide) (by decide) h
    · have h := h.2 c7
      refine r_iconst C 11 (v := 1) dX4_isPipe_10 rfl (by decide) ?_
      refine r_goto C 15 dX4_isPipe_11 (by decide) ?_
      exact r_iret (S := []) C r dX4_isPipe_15 (by decide) (by decide) h
theorem ct_X4_isPipe (p0 : Int32) (σ : Mem) (K : Int32 → Mem → Prop) (X : String → Mem → Prop) (h : sp_X4_isPipe p0 σ K X) : CtI yX4_isPipe cX4_isPipe 1 (some .boolean) 1 0 [.int p0] σ K X := by
  have h := h
  exact ctI_of (by decide +kernel) (Nat.le_of_ble_eq_true rfl) (fun x C r => sg_X4_isPipe_0 C r p0  σ h)
/-! HeatNetwork$State.carry(LHeatNetwork$Network;III)V: level 2, exceptions 0 -/
def sp_X2_carry (t : Nat) (a : Nat) (p1 : Int32) (p2 : Int32) (p3 : Int32) (σ : Mem) (K : Mem → Prop) (X : String → Mem → Prop) : Prop := (StaA t) ∧ (NetA a) ∧ (sp_X4_isPipe p1 σ (fun r1 σ1 => (r1 = 0 → K σ1) ∧ (¬ r1 = 0 → (vp_in p1 10) ∧ ((¬ (σ1.1 (a + 2) p1.toNatClampNeg) = p2 → (vp_in p1 10) ∧ (∀ σ30 : Mem, σ30 = wi σ1 (t + 2) p1.toNatClampNeg (-p3) → K σ30)) ∧ ((σ1.1 (a + 2) p1.toNatClampNeg) = p2 → (vp_in p1 10) ∧ (∀ σ30 : Mem, σ30 = wi σ1 (t + 2) p1.toNatClampNeg p3 → K σ30))))) X)
set_option maxRecDepth 4000 in
theorem sg_X2_carry_0 {x : Ctx} {K : Mem → Prop} {X : String → Mem → Prop} (C : Cx x RX2 cX2_carry 5) (r : RtV x 2 0 none K X) (t : Nat) (a : Nat) (p1 : Int32) (p2 : Int32) (p3 : Int32) (ht : StaA t) (ha : NetA a) (σ : Mem) (h : sp_X4_isPipe p1 σ (fun r1 σ1 => (r1 = 0 → K σ1) ∧ (¬ r1 = 0 → (vp_in p1 10) ∧ ((¬ (σ1.1 (a + 2) p1.toNatClampNeg) = p2 → (vp_in p1 10) ∧ (∀ σ30 : Mem, σ30 = wi σ1 (t + 2) p1.toNatClampNeg (-p3) → K σ30)) ∧ ((σ1.1 (a + 2) p1.toNatClampNeg) = p2 → (vp_in p1 10) ∧ (∀ σ30 : Mem, σ30 = wi σ1 (t + 2) p1.toNatClampNeg p3 → K σ30))))) X) : Ws x 0 0 [(0, .ref t), (1, .ref a), (2, .int p1), (3, .int p2), (4, .int p3)] [] σ := by
  refine r_iload_n (j := 2) C 1 dX2_carry_0 rfl rfl ?_
  refine r_cNI (b := 0) (as := [.int p1]) (S := []) C r.px 4 (ct_X4_isPipe _ _ _ _ h) dX2_carry_1 rfl wd_443 (nbd_497) wd_444 wd_90 yd_X4_isPipe ⟨Nat.le_of_ble_eq_true rfl, Nat.le_of_ble_eq_true rfl⟩ (Nat.le_of_ble_eq_true rfl) (by decide) (fun r1 σ1 h => ?_)
  refine r_if_eq C 31 7 dX2_carry_4 (by decide) rfl (fun c4 => ?_) (fun c4 => ?_)
  · have h := h.1 c4
    exact r_vret (S := []) C r dX2_carry_31 (by decide) h
  · have h := h.2 c4
    refine r_aload_n (j := 0) C 8 dX2_carry_7 rfl rfl ?_
    refine r_get (k := 1) C cl4 11 dX2_carry_8 rfl (sta0 ht) (by decide) wd_278 (.ref (t + 2)) (fun _ => rfl) ?_
    refine r_iload_n (j := 2) C 12 dX2_carry_11 rfl rfl ?_
    refine r_aload_n (j := 1) C 13 dX2_carry_12 rfl rfl ?_
    refine r_get (k := 2) C cl2 16 dX2_carry_13 rfl (net0 ha) (by decide) wd_142 (.ref (a + 2)) (fun _ => rfl) ?_
    refine r_iload_n (j := 2) C 17 dX2_carry_16 rfl rfl ?_
    obtain ⟨o17, h⟩ := h
    refine r_iald C 18 dX2_carry_17 rfl (net2 ha) o17 ?_
    refine r_iload_n (j := 3) C 19 dX2_carry_18 rfl rfl ?_
    refine r_icmp_ne C 27 22 dX2_carry_19 (by decide) rfl (fun c19 => ?_) (fun c19 => ?_)
    · have h := h.1 c19
      refine r_iload (j := 4) C 29 dX2_carry_27 rfl rfl ?_
      refine r_ineg C 30 dX2_carry_29 rfl ?_
      obtain ⟨o30, h⟩ := h
      refine r_iast C 31 dX2_carry_30 rfl (sta2 ht) o30 ?_
      refine r_nmS (fun σ30 e30 => ?_)
      have h := h σ30 e30
      exact r_vret (S := []) C r dX2_carry_31 (by decide) h
    · have h := h.2 c19
      refine r_iload (j := 4) C 24 dX2_carry_22 rfl rfl ?_
      refine r_goto C 30 dX2_carry_24 (by decide) ?_
      obtain ⟨o30, h⟩ := h
      refine r_iast C 31 dX2_carry_30 rfl (sta2 ht) o30 ?_
      refine r_nmS (fun σ30 e30 => ?_)
      have h := h σ30 e30
      exact r_vret (S := []) C r dX2_carry_31 (by decide) h
theorem ct_X2_carry (t : Nat) (a : Nat) (p1 : Int32) (p2 : Int32) (p3 : Int32) (σ : Mem) (K : Mem → Prop) (X : String → Mem → Prop) (h : sp_X2_carry t a p1 p2 p3 σ K X) : CtV yX2_carry cX2_carry 5 none 2 0 [.ref t, .ref a, .int p1, .int p2, .int p3] σ K X := by
  obtain ⟨ht, ha, h⟩ := h
  exact ctV_of (by decide +kernel) (Nat.le_of_ble_eq_true rfl) (fun x C r => sg_X2_carry_0 C r t a p1 p2 p3 ht ha σ h)
/-! HeatNetwork$State.putInOrder(II)I: level 1, exceptions 0 -/
def sp_X2_putInOrder (t : Nat) (p0 : Int32) (p1 : Int32) (σ : Mem) (K : Int32 → Mem → Prop) (X : String → Mem → Prop) : Prop := (StaA t) ∧ ((p1 < 10 → (vp_in p1 10) ∧ (∀ σ14 : Mem, σ14 = wi σ (t + 5) p1.toNatClampNeg p0 → K (p1 + 1) σ14)) ∧ (¬ p1 < 10 → K p1 σ))
set_option maxRecDepth 4000 in
theorem sg_X2_putInOrder_0 {x : Ctx} {K : Int32 → Mem → Prop} {X : String → Mem → Prop} (C : Cx x RX2 cX2_putInOrder 3) (r : RtI x 1 0 (some .int) K X) (t : Nat) (p0 : Int32) (p1 : Int32) (ht : StaA t) (σ : Mem) (h : (p1 < 10 → (vp_in p1 10) ∧ (∀ σ14 : Mem, σ14 = wi σ (t + 5) p1.toNatClampNeg p0 → K (p1 + 1) σ14)) ∧ (¬ p1 < 10 → K p1 σ)) : Ws x 0 0 [(0, .ref t), (1, .int p0), (2, .int p1)] [] σ := by
  refine r_iload_n (j := 2) C 1 dX2_putInOrder_0 rfl rfl ?_
  refine r_bipush C 3 (v := 10) dX2_putInOrder_1 rfl (by decide) ?_
  refine r_icmp_lt C 8 6 dX2_putInOrder_3 (by decide) rfl (fun c3 => ?_) (fun c3 => ?_)
  · have h := h.1 c3
    refine r_aload_n (j := 0) C 9 dX2_putInOrder_8 rfl rfl ?_
    refine r_get (k := 4) C cl4 12 dX2_putInOrder_9 rfl (sta0 ht) (by decide) wd_282 (.ref (t + 5)) (fun _ => rfl) ?_
    refine r_iload_n (j := 2) C 13 dX2_putInOrder_12 rfl rfl ?_
    refine r_iload_n (j := 1) C 14 dX2_putInOrder_13 rfl rfl ?_
    obtain ⟨o14, h⟩ := h
    refine r_iast C 15 dX2_putInOrder_14 rfl (sta5 ht) o14 ?_
    refine r_nmS (fun σ14 e14 => ?_)
    have h := h σ14 e14
    refine r_iload_n (j := 2) C 16 dX2_putInOrder_15 rfl rfl ?_
    refine r_iconst C 17 (v := 1) dX2_putInOrder_16 rfl (by decide) ?_
    refine r_iadd C 18 dX2_putInOrder_17 rfl ?_
    exact r_iret (S := []) C r dX2_putInOrder_18 (by decide) rfl h
  · have h := h.2 c3
    refine r_iload_n (j := 2) C 7 dX2_putInOrder_6 rfl rfl ?_
    exact r_iret (S := []) C r dX2_putInOrder_7 (by decide) rfl h
theorem ct_X2_putInOrder (t : Nat) (p0 : Int32) (p1 : Int32) (σ : Mem) (K : Int32 → Mem → Prop) (X : String → Mem → Prop) (h : sp_X2_putInOrder t p0 p1 σ K X) : CtI yX2_putInOrder cX2_putInOrder 3 (some .int) 1 0 [.ref t, .int p0, .int p1] σ K X := by
  obtain ⟨ht, h⟩ := h
  exact ctI_of (by decide +kernel) (Nat.le_of_ble_eq_true rfl) (fun x C r => sg_X2_putInOrder_0 C r t p0 p1 ht σ h)
/-! HeatNetwork$State.flowTo(LHeatNetwork$Network;II)I: level 2, exceptions 0 -/
def sp_X2_flowTo (t : Nat) (a : Nat) (p1 : Int32) (p2 : Int32) (σ : Mem) (K : Int32 → Mem → Prop) (X : String → Mem → Prop) : Prop := (StaA t) ∧ (NetA a) ∧ (sp_X4_isPipe p1 σ (fun r1 σ1 => (¬ r1 = 0 → (vp_in p1 10) ∧ ((¬ (σ1.1 (a + 3) p1.toNatClampNeg) = p2 → (vp_in p1 10) ∧ (∀ v35 : Int32, v35 = (-(σ1.1 (t + 2) p1.toNatClampNeg)) → sp_J9_max_7cf53 0 v35 σ1 (fun r40 σ40 => K r40 σ40) X)) ∧ ((σ1.1 (a + 3) p1.toNatClampNeg) = p2 → (vp_in p1 10) ∧ (∀ v35 : Int32, v35 = (σ1.1 (t + 2) p1.toNatClampNeg) → sp_J9_max_7cf53 0 v35 σ1 (fun r40 σ40 => K r40 σ40) X)))) ∧ (r1 = 0 → K 0 σ1)) X)
set_option maxRecDepth 4000 in
theorem sg_X2_flowTo_0 {x : Ctx} {K : Int32 → Mem → Prop} {X : String → Mem → Prop} (C : Cx x RX2 cX2_flowTo 5) (r : RtI x 2 0 (some .int) K X) (t : Nat) (a : Nat) (p1 : Int32) (p2 : Int32) (ht : StaA t) (ha : NetA a) (σ : Mem) (h : sp_X4_isPipe p1 σ (fun r1 σ1 => (¬ r1 = 0 → (vp_in p1 10) ∧ ((¬ (σ1.1 (a + 3) p1.toNatClampNeg) = p2 → (vp_in p1 10) ∧ (∀ v35 : Int32, v35 = (-(σ1.1 (t + 2) p1.toNatClampNeg)) → sp_J9_max_7cf53 0 v35 σ1 (fun r40 σ40 => K r40 σ40) X)) ∧ ((σ1.1 (a + 3) p1.toNatClampNeg) = p2 → (vp_in p1 10) ∧ (∀ v35 : Int32, v35 = (σ1.1 (t + 2) p1.toNatClampNeg) → sp_J9_max_7cf53 0 v35 σ1 (fun r40 σ40 => K r40 σ40) X)))) ∧ (r1 = 0 → K 0 σ1)) X) : Ws x 0 0 [(0, .ref t), (1, .ref a), (2, .int p1), (3, .int p2)] [] σ := by
  refine r_iload_n (j := 2) C 1 dX2_flowTo_0 rfl rfl ?_
  refine r_cNI (b := 0) (as := [.int p1]) (S := []) C r.px 4 (ct_X4_isPipe _ _ _ _ h) dX2_flowTo_1 rfl wd_443 (nbd_497) wd_444 wd_90 yd_X4_isPipe ⟨Nat.le_of_ble_eq_true rfl, Nat.le_of_ble_eq_true rfl⟩ (Nat.le_of_ble_eq_true rfl) (by decide) (fun r1 σ1 h => ?_)
  refine r_if_ne C 9 7 dX2_flowTo_4 (by decide) rfl (fun c4 => ?_) (fun c4 => ?_)
  · have h := h.1 c4
    refine r_aload_n (j := 1) C 10 dX2_flowTo_9 rfl rfl ?_
    refine r_get (k := 3) C cl2 13 dX2_flowTo_10 rfl (net0 ha) (by decide) wd_147 (.ref (a + 3)) (fun _ => rfl) ?_
    refine r_iload_n (j := 2) C 14 dX2_flowTo_13 rfl rfl ?_
    obtain ⟨o14, h⟩ := h
    refine r_iald C 15 dX2_flowTo_14 rfl (net3 ha) o14 ?_
    refine r_iload_n (j := 3) C 16 dX2_flowTo_15 rfl rfl ?_
    refine r_icmp_ne C 28 19 dX2_flowTo_16 (by decide) rfl (fun c16 => ?_) (fun c16 => ?_)
    · have h := h.1 c16
      refine r_aload_n (j := 0) C 29 dX2_flowTo_28 rfl rfl ?_
      refine r_get (k := 1) C cl4 32 dX2_flowTo_29 rfl (sta0 ht) (by decide) wd_278 (.ref (t + 2)) (fun _ => rfl) ?_
      refine r_iload_n (j := 2) C 33 dX2_flowTo_32 rfl rfl ?_
      obtain ⟨o33, h⟩ := h
      refine r_iald C 34 dX2_flowTo_33 rfl (sta2 ht) o33 ?_
      refine r_ineg C 35 dX2_flowTo_34 rfl ?_
      refine r_nmI (fun v35 e35 => ?_)
      have h := h v35 e35
      refine r_istore C 37 [(4, .int v35), (0, .ref t), (1, .ref a), (2, .int p1), (3, .int p2)] dX2_flowTo_35 rfl (by decide) rfl ?_
      refine r_iconst C 38 (v := 0) dX2_flowTo_37 rfl (by decide) ?_
      refine r_iload (j := 0) C 40 dX2_flowTo_38 rfl rfl ?_
      refine r_cSI (b := 0) (as := [.int 0, .int v35]) (S := []) C r.px 43 (ct_J9_max_7cf53 _ _ _ _ _ h) dX2_flowTo_40 rfl wd_480 wd_544 wd_481 wd_104 yd_J9_max_7cf53 ⟨Nat.le_of_ble_eq_true rfl, Nat.le_of_ble_eq_true rfl⟩ (Nat.le_of_ble_eq_true rfl) (by decide) (fun r40 σ40 h => ?_)
      exact r_iret (S := []) C r dX2_flowTo_43 (by decide) rfl h
    · have h := h.2 c16
      refine r_aload_n (j := 0) C 20 dX2_flowTo_19 rfl rfl ?_
      refine r_get (k := 1) C cl4 23 dX2_flowTo_20 rfl (sta0 ht) (by decide) wd_278 (.ref (t + 2)) (fun _ => rfl) ?_
      refine r_iload_n (j := 2) C 24 dX2_flowTo_23 rfl rfl ?_
      obtain ⟨o24, h⟩ := h
      refine r_iald C 25 dX2_flowTo_24 rfl (sta2 ht) o24 ?_
      refine r_goto C 35 dX2_flowTo_25 (by decide) ?_
      refine r_nmI (fun v35 e35 => ?_)
      have h := h v35 e35
      refine r_istore C 37 [(4, .int v35), (0, .ref t), (1, .ref a), (2, .int p1), (3, .int p2)] dX2_flowTo_35 rfl (by decide) rfl ?_
      refine r_iconst C 38 (v := 0) dX2_flowTo_37 rfl (by decide) ?_
      refine r_iload (j := 0) C 40 dX2_flowTo_38 rfl rfl ?_
      refine r_cSI (b := 0) (as := [.int 0, .int v35]) (S := []) C r.px 43 (ct_J9_max_7cf53 _ _ _ _ _ h) dX2_flowTo_40 rfl wd_480 wd_544 wd_481 wd_104 yd_J9_max_7cf53 ⟨Nat.le_of_ble_eq_true rfl, Nat.le_of_ble_eq_true rfl⟩ (Nat.le_of_ble_eq_true rfl) (by decide) (fun r40 σ40 h => ?_)
      exact r_iret (S := []) C r dX2_flowTo_43 (by decide) rfl h
  · have h := h.2 c4
    refine r_iconst C 8 (v := 0) dX2_flowTo_7 rfl (by decide) ?_
    exact r_iret (S := []) C r dX2_flowTo_8 (by decide) rfl h
theorem ct_X2_flowTo (t : Nat) (a : Nat) (p1 : Int32) (p2 : Int32) (σ : Mem) (K : Int32 → Mem → Prop) (X : String → Mem → Prop) (h : sp_X2_flowTo t a p1 p2 σ K X) : CtI yX2_flowTo cX2_flowTo 5 (some .int) 2 0 [.ref t, .ref a, .int p1, .int p2] σ K X := by
  obtain ⟨ht, ha, h⟩ := h
  exact ctI_of (by decide +kernel) (Nat.le_of_ble_eq_true rfl) (fun x C r => sg_X2_flowTo_0 C r t a p1 p2 ht ha σ h)
/-! HeatNetwork$Text.take(C)Z: level 2, exceptions 0 -/
def sp_X3_take (p0 : Int32) (σ : Mem) (K : Int32 → Mem → Prop) (X : String → Mem → Prop) : Prop := (sp_X3_nextSign  σ (fun r1 σ1 => (r1 = p0 → ∀ σ17 : Mem, σ17 = wi σ1 79 2 ((σ1.1 79 2) + 1) → K 1 σ17) ∧ (¬ r1 = p0 → K 0 σ1)) X)
set_option maxRecDepth 4000 in
theorem sg_X3_take_0 {x : Ctx} {K : Int32 → Mem → Prop} {X : String → Mem → Prop} (C : Cx x RX3 cX3_take 2) (r : RtI x 2 0 (some .boolean) K X) (p0 : Int32)  (σ : Mem) (h : sp_X3_nextSign  σ (fun r1 σ1 => (r1 = p0 → ∀ σ17 : Mem, σ17 = wi σ1 79 2 ((σ1.1 79 2) + 1) → K 1 σ17) ∧ (¬ r1 = p0 → K 0 σ1)) X) : Ws x 0 0 [(0, .ref 79), (1, .int p0)] [] σ := by
  refine r_aload_n (j := 0) C 1 dX3_take_0 rfl rfl ?_
  refine r_cVI (as := []) (S := []) C r.px 4 (ct_X3_nextSign  _ _ _ h) dX3_take_1 rfl cl5 kd_79 wd_32 wd_967 rfl wd_965 wd_968 wd_94 yd_X3_nextSign ⟨Nat.le_of_ble_eq_true rfl, Nat.le_of_ble_eq_true rfl⟩ (Nat.le_of_ble_eq_true rfl) (by decide) (fun r1 σ1 h => ?_)
  refine r_iload_n (j := 1) C 5 dX3_take_4 rfl rfl ?_
  refine r_icmp_eq C 10 8 dX3_take_5 (by decide) rfl (fun c5 => ?_) (fun c5 => ?_)
  · have h := h.1 c5
    refine r_aload_n (j := 0) C 11 dX3_take_10 rfl rfl ?_
    refine r_dup C 12 dX3_take_11 rfl rfl ?_
    refine r_get (k := 2) C cl5 15 dX3_take_12 rfl kd_79 (by decide) wd_338 (.int (σ1.1 79 2)) (fun _ => rfl) ?_
    refine r_iconst C 16 (v := 1) dX3_take_15 rfl (by decide) ?_
    refine r_iadd C 17 dX3_take_16 rfl ?_
    refine r_putI (k := 2) C cl5 20 dX3_take_17 rfl kd_79 (by decide) wd_338 rfl rfl rfl rfl ?_
    refine r_nmS (fun σ17 e17 => ?_)
    have h := h σ17 e17
    refine r_iconst C 21 (v := 1) dX3_take_20 rfl (by decide) ?_
    exact r_iret (S := []) C r dX3_take_21 (by decide) (by decide) h
  · have h := h.2 c5
    refine r_iconst C 9 (v := 0) dX3_take_8 rfl (by decide) ?_
    exact r_iret (S := []) C r dX3_take_9 (by decide) (by decide) h
theorem ct_X3_take (p0 : Int32) (σ : Mem) (K : Int32 → Mem → Prop) (X : String → Mem → Prop) (h : sp_X3_take p0 σ K X) : CtI yX3_take cX3_take 2 (some .boolean) 2 0 [.ref 79, .int p0] σ K X := by
  have h := h
  exact ctI_of (by decide +kernel) (Nat.le_of_ble_eq_true rfl) (fun x C r => sg_X3_take_0 C r p0  σ h)
/-! HeatNetwork.beginChange()V: level 2, exceptions 0 -/
def sp_X4_beginChange  (σ : Mem) (K : Mem → Prop) (X : String → Mem → Prop) : Prop := ((vp_in (σ.1 0 8) 9) ∧ (sp_X0_takeOver (83 + 14 * ((σ.1 0 8)).toNatClampNeg) 1 σ (fun σ13 => K σ13) X))
set_option maxRecDepth 4000 in
theorem sg_X4_beginChange_0 {x : Ctx} {K : Mem → Prop} {X : String → Mem → Prop} (C : Cx x RX4 cX4_beginChange 1) (r : RtV x 2 0 none K X)   (σ : Mem) (h : (vp_in (σ.1 0 8) 9) ∧ (sp_X0_takeOver (83 + 14 * ((σ.1 0 8)).toNatClampNeg) 1 σ (fun σ13 => K σ13) X)) : Ws x 0 0 [(0, .ref 0)] [] σ := by
  refine r_aload_n (j := 0) C 1 dX4_beginChange_0 rfl rfl ?_
  refine r_get (k := 3) C cl6 4 dX4_beginChange_1 rfl kd_0 (by decide) wd_361 (.ref 43) (fun _ => rfl) ?_
  refine r_aload_n (j := 0) C 5 dX4_beginChange_4 rfl rfl ?_
  refine r_get (k := 8) C cl6 8 dX4_beginChange_5 rfl kd_0 (by decide) wd_366 (.int (σ.1 0 8)) (fun _ => rfl) ?_
  obtain ⟨o8, h⟩ := h
  refine r_aald C 9 dX4_beginChange_8 rfl kd_43 o8 ?_
  refine r_aload_n (j := 0) C 10 dX4_beginChange_9 rfl rfl ?_
  refine r_get (k := 0) C cl6 13 dX4_beginChange_10 rfl kd_0 (by decide) wd_358 (.ref 1) (fun _ => rfl) ?_
  refine r_cVV (as := [.ref 1]) (S := []) C r.px 16 (ct_X0_takeOver _ _ _ _ _ h) dX4_beginChange_13 rfl cl2 (net0 (earl_net o8)) wd_589 wd_588 rfl wd_587 wd_590 wd_91 yd_X0_takeOver ⟨Nat.le_of_ble_eq_true rfl, Nat.le_of_ble_eq_true rfl⟩ (Nat.le_of_ble_eq_true rfl) (by decide) (fun σ13 h => ?_)
  exact r_vret (S := []) C r dX4_beginChange_16 (by decide) h
theorem ct_X4_beginChange  (σ : Mem) (K : Mem → Prop) (X : String → Mem → Prop) (h : sp_X4_beginChange  σ K X) : CtV yX4_beginChange cX4_beginChange 1 none 2 0 [.ref 0] σ K X := by
  have h := h
  exact ctV_of (by decide +kernel) (Nat.le_of_ble_eq_true rfl) (fun x C r => sg_X4_beginChange_0 C r   σ h)
/-! HeatNetwork.endChange()V: level 2, exceptions 0 -/
def sp_X4_endChange  (σ : Mem) (K : Mem → Prop) (X : String → Mem → Prop) : Prop := ((¬ (σ.1 0 8) = 8 → ∀ σ20 : Mem, σ20 = wi σ 0 8 ((σ.1 0 8) + 1) → sp_J9_min_7cf53 ((σ20.1 0 9) + 1) 8 σ20 (fun r32 σ32 => ∀ σ35 : Mem, σ35 = wi σ32 0 9 r32 → ∀ σ40 : Mem, σ40 = wi σ35 0 11 0 → K σ40) X) ∧ ((σ.1 0 8) = 8 → ∀ σ20 : Mem, σ20 = wi σ 0 8 0 → sp_J9_min_7cf53 ((σ20.1 0 9) + 1) 8 σ20 (fun r32 σ32 => ∀ σ35 : Mem, σ35 = wi σ32 0 9 r32 → ∀ σ40 : Mem, σ40 = wi σ35 0 11 0 → K σ40) X))
set_option maxRecDepth 4000 in
theorem sg_X4_endChange_0 {x : Ctx} {K : Mem → Prop} {X : String → Mem → Prop} (C : Cx x RX4 cX4_endChange 1) (r : RtV x 2 0 none K X)   (σ : Mem) (h : (¬ (σ.1 0 8) = 8 → ∀ σ20 : Mem, σ20 = wi σ 0 8 ((σ.1 0 8) + 1) → sp_J9_min_7cf53 ((σ20.1 0 9) + 1) 8 σ20 (fun r32 σ32 => ∀ σ35 : Mem, σ35 = wi σ32 0 9 r32 → ∀ σ40 : Mem, σ40 = wi σ35 0 11 0 → K σ40) X) ∧ ((σ.1 0 8) = 8 → ∀ σ20 : Mem, σ20 = wi σ 0 8 0 → sp_J9_min_7cf53 ((σ20.1 0 9) + 1) 8 σ20 (fun r32 σ32 => ∀ σ35 : Mem, σ35 = wi σ32 0 9 r32 → ∀ σ40 : Mem, σ40 = wi σ35 0 11 0 → K σ40) X)) : Ws x 0 0 [(0, .ref 0)] [] σ := by
  refine r_aload_n (j := 0) C 1 dX4_endChange_0 rfl rfl ?_
  refine r_aload_n (j := 0) C 2 dX4_endChange_1 rfl rfl ?_
  refine r_get (k := 8) C cl6 5 dX4_endChange_2 rfl kd_0 (by decide) wd_366 (.int (σ.1 0 8)) (fun _ => rfl) ?_
  refine r_bipush C 7 (v := 8) dX4_endChange_5 rfl (by decide) ?_
  refine r_icmp_ne C 14 10 dX4_endChange_7 (by decide) rfl (fun c7 => ?_) (fun c7 => ?_)
  · have h := h.1 c7
    refine r_aload_n (j := 0) C 15 dX4_endChange_14 rfl rfl ?_
    refine r_get (k := 8) C cl6 18 dX4_endChange_15 rfl kd_0 (by decide) wd_366 (.int (σ.1 0 8)) (fun _ => rfl) ?_
    refine r_iconst C 19 (v := 1) dX4_endChange_18 rfl (by decide) ?_
    refine r_iadd C 20 dX4_endChange_19 rfl ?_
    refine r_putI (k := 8) C cl6 23 dX4_endChange_20 rfl kd_0 (by decide) wd_366 rfl rfl rfl rfl ?_
    refine r_nmS (fun σ20 e20 => ?_)
    have h := h σ20 e20
    refine r_aload_n (j := 0) C 24 dX4_endChange_23 rfl rfl ?_
    refine r_aload_n (j := 0) C 25 dX4_endChange_24 rfl rfl ?_
    refine r_get (k := 9) C cl6 28 dX4_endChange_25 rfl kd_0 (by decide) wd_367 (.int (σ20.1 0 9)) (fun _ => rfl) ?_
    refine r_iconst C 29 (v := 1) dX4_endChange_28 rfl (by decide) ?_
    refine r_iadd C 30 dX4_endChange_29 rfl ?_
    refine r_bipush C 32 (v := 8) dX4_endChange_30 rfl (by decide) ?_
    refine r_cSI (b := 0) (as := [.int ((σ20.1 0 9) + 1), .int 8]) (S := [.ref 0]) C r.px 35 (ct_J9_min_7cf53 _ _ _ _ _ h) dX4_endChange_32 rfl wd_483 wd_724 wd_484 wd_104 yd_J9_min_7cf53 ⟨Nat.le_of_ble_eq_true rfl, Nat.le_of_ble_eq_true rfl⟩ (Nat.le_of_ble_eq_true rfl) (by decide) (fun r32 σ32 h => ?_)
    refine r_putI (k := 9) C cl6 38 dX4_endChange_35 rfl kd_0 (by decide) wd_367 rfl rfl rfl rfl ?_
    refine r_nmS (fun σ35 e35 => ?_)
    have h := h σ35 e35
    refine r_aload_n (j := 0) C 39 dX4_endChange_38 rfl rfl ?_
    refine r_iconst C 40 (v := 0) dX4_endChange_39 rfl (by decide) ?_
    refine r_putI (k := 11) C cl6 43 dX4_endChange_40 rfl kd_0 (by decide) wd_369 rfl rfl rfl rfl ?_
    refine r_nmS (fun σ40 e40 => ?_)
    have h := h σ40 e40
    exact r_vret (S := []) C r dX4_endChange_43 (by decide) h
  · have h := h.2 c7
    refine r_iconst C 11 (v := 0) dX4_endChange_10 rfl (by decide) ?_
    refine r_goto C 20 dX4_endChange_11 (by decide) ?_
    refine r_putI (k := 8) C cl6 23 dX4_endChange_20 rfl kd_0 (by decide) wd_366 rfl rfl rfl rfl ?_
    refine r_nmS (fun σ20 e20 => ?_)
    have h := h σ20 e20
    refine r_aload_n (j := 0) C 24 dX4_endChange_23 rfl rfl ?_
    refine r_aload_n (j := 0) C 25 dX4_endChange_24 rfl rfl ?_
    refine r_get (k := 9) C cl6 28 dX4_endChange_25 rfl kd_0 (by decide) wd_367 (.int (σ20.1 0 9)) (fun _ => rfl) ?_
    refine r_iconst C 29 (v := 1) dX4_endChange_28 rfl (by decide) ?_
    refine r_iadd C 30 dX4_endChange_29 rfl ?_
    refine r_bipush C 32 (v := 8) dX4_endChange_30 rfl (by decide) ?_
    refine r_cSI (b := 0) (as := [.int ((σ20.1 0 9) + 1), .int 8]) (S := [.ref 0]) C r.px 35 (ct_J9_min_7cf53 _ _ _ _ _ h) dX4_endChange_32 rfl wd_483 wd_724 wd_484 wd_104 yd_J9_min_7cf53 ⟨Nat.le_of_ble_eq_true rfl, Nat.le_of_ble_eq_true rfl⟩ (Nat.le_of_ble_eq_true rfl) (by decide) (fun r32 σ32 h => ?_)
    refine r_putI (k := 9) C cl6 38 dX4_endChange_35 rfl kd_0 (by decide) wd_367 rfl rfl rfl rfl ?_
    refine r_nmS (fun σ35 e35 => ?_)
    have h := h σ35 e35
    refine r_aload_n (j := 0) C 39 dX4_endChange_38 rfl rfl ?_
    refine r_iconst C 40 (v := 0) dX4_endChange_39 rfl (by decide) ?_
    refine r_putI (k := 11) C cl6 43 dX4_endChange_40 rfl kd_0 (by decide) wd_369 rfl rfl rfl rfl ?_
    refine r_nmS (fun σ40 e40 => ?_)
    have h := h σ40 e40
    exact r_vret (S := []) C r dX4_endChange_43 (by decide) h
theorem ct_X4_endChange  (σ : Mem) (K : Mem → Prop) (X : String → Mem → Prop) (h : sp_X4_endChange  σ K X) : CtV yX4_endChange cX4_endChange 1 none 2 0 [.ref 0] σ K X := by
  have h := h
  exact ctV_of (by decide +kernel) (Nat.le_of_ble_eq_true rfl) (fun x C r => sg_X4_endChange_0 C r   σ h)
/-! HeatNetwork.isNode(I)Z: level 2, exceptions 0 -/
def sp_X4_isNode (p0 : Int32) (σ : Mem) (K : Int32 → Mem → Prop) (X : String → Mem → Prop) : Prop := (sp_X4_isWithin p0 0 9 σ (fun r4 σ4 => (narrow .boolean (.int r4) = .int r4) ∧ K r4 σ4) X)
set_option maxRecDepth 4000 in
theorem sg_X4_isNode_0 {x : Ctx} {K : Int32 → Mem → Prop} {X : String → Mem → Prop} (C : Cx x RX4 cX4_isNode 1) (r : RtI x 2 0 (some .boolean) K X) (p0 : Int32)  (σ : Mem) (h : sp_X4_isWithin p0 0 9 σ (fun r4 σ4 => (narrow .boolean (.int r4) = .int r4) ∧ K r4 σ4) X) : Ws x 0 0 [(0, .int p0)] [] σ := by
  refine r_iload_n (j := 0) C 1 dX4_isNode_0 rfl rfl ?_
  refine r_iconst C 2 (v := 0) dX4_isNode_1 rfl (by decide) ?_
  refine r_bipush C 4 (v := 9) dX4_isNode_2 rfl (by decide) ?_
  refine r_cSI (b := 0) (as := [.int p0, .int 0, .int 9]) (S := []) C r.px 7 (ct_X4_isWithin _ _ _ _ _ _ h) dX4_isNode_4 rfl wd_432 wd_431 wd_433 wd_90 yd_X4_isWithin ⟨Nat.le_of_ble_eq_true rfl, Nat.le_of_ble_eq_true rfl⟩ (Nat.le_of_ble_eq_true rfl) (by decide) (fun r4 σ4 h => ?_)
  exact r_iret (S := []) C r dX4_isNode_7 (by decide) h.1 h.2
theorem ct_X4_isNode (p0 : Int32) (σ : Mem) (K : Int32 → Mem → Prop) (X : String → Mem → Prop) (h : sp_X4_isNode p0 σ K X) : CtI yX4_isNode cX4_isNode 1 (some .boolean) 2 0 [.int p0] σ K X := by
  have h := h
  exact ctI_of (by decide +kernel) (Nat.le_of_ble_eq_true rfl) (fun x C r => sg_X4_isNode_0 C r p0  σ h)
/-! HeatNetwork.save()I: level 2, exceptions 0 -/
def sp_X4_save  (σ : Mem) (K : Int32 → Mem → Prop) (X : String → Mem → Prop) : Prop := (sp_X0_takeOver 15 1 σ (fun σ8 => ∀ σ13 : Mem, σ13 = wi σ8 0 10 1 → K (σ13.1 1 1) σ13) X)
set_option maxRecDepth 4000 in
theorem sg_X4_save_0 {x : Ctx} {K : Int32 → Mem → Prop} {X : String → Mem → Prop} (C : Cx x RX4 cX4_save 1) (r : RtI x 2 0 (some .int) K X)   (σ : Mem) (h : sp_X0_takeOver 15 1 σ (fun σ8 => ∀ σ13 : Mem, σ13 = wi σ8 0 10 1 → K (σ13.1 1 1) σ13) X) : Ws x 0 0 [(0, .ref 0)] [] σ := by
  refine r_aload_n (j := 0) C 1 dX4_save_0 rfl rfl ?_
  refine r_get (k := 1) C cl6 4 dX4_save_1 rfl kd_0 (by decide) wd_359 (.ref 15) (fun _ => rfl) ?_
  refine r_aload_n (j := 0) C 5 dX4_save_4 rfl rfl ?_
  refine r_get (k := 0) C cl6 8 dX4_save_5 rfl kd_0 (by decide) wd_358 (.ref 1) (fun _ => rfl) ?_
  refine r_cVV (as := [.ref 1]) (S := []) C r.px 11 (ct_X0_takeOver _ _ _ _ _ h) dX4_save_8 rfl cl2 kd_15 wd_589 wd_588 rfl wd_587 wd_590 wd_91 yd_X0_takeOver ⟨Nat.le_of_ble_eq_true rfl, Nat.le_of_ble_eq_true rfl⟩ (Nat.le_of_ble_eq_true rfl) (by decide) (fun σ8 h => ?_)
  refine r_aload_n (j := 0) C 12 dX4_save_11 rfl rfl ?_
  refine r_iconst C 13 (v := 1) dX4_save_12 rfl (by decide) ?_
  refine r_putI (k := 10) C cl6 16 dX4_save_13 rfl kd_0 (by decide) wd_368 rfl rfl rfl rfl ?_
  refine r_nmS (fun σ13 e13 => ?_)
  have h := h σ13 e13
  refine r_aload_n (j := 0) C 17 dX4_save_16 rfl rfl ?_
  refine r_get (k := 0) C cl6 20 dX4_save_17 rfl kd_0 (by decide) wd_358 (.ref 1) (fun _ => rfl) ?_
  refine r_get (k := 1) C cl2 23 dX4_save_20 rfl kd_1 (by decide) wd_138 (.int (σ13.1 1 1)) (fun _ => rfl) ?_
  exact r_iret (S := []) C r dX4_save_23 (by decide) rfl h
theorem ct_X4_save  (σ : Mem) (K : Int32 → Mem → Prop) (X : String → Mem → Prop) (h : sp_X4_save  σ K X) : CtI yX4_save cX4_save 1 (some .int) 2 0 [.ref 0] σ K X := by
  have h := h
  exact ctI_of (by decide +kernel) (Nat.le_of_ble_eq_true rfl) (fun x C r => sg_X4_save_0 C r   σ h)
/-! HeatNetwork.settingReason(II)I: level 2, exceptions 0 -/
def sp_X4_settingReason (p0 : Int32) (p1 : Int32) (σ : Mem) (K : Int32 → Mem → Prop) (X : String → Mem → Prop) : Prop := (sp_X4_isWithin p0 0 6 σ (fun r4 σ4 => (¬ r4 = 0 → (vp_in p0 7) ∧ ((vp_in p0 7) ∧ (sp_X4_isWithin p1 (LV.getD p0.toNatClampNeg 0) (GV.getD p0.toNatClampNeg 0) σ4 (fun r23 σ23 => (r23 = 0 → K 2 σ23) ∧ (¬ r23 = 0 → K 0 σ23)) X))) ∧ (r4 = 0 → K 1 σ4)) X)
set_option maxRecDepth 4000 in
theorem sg_X4_settingReason_0 {x : Ctx} {K : Int32 → Mem → Prop} {X : String → Mem → Prop} (C : Cx x RX4 cX4_settingReason 2) (r : RtI x 2 0 (some .int) K X) (p0 : Int32) (p1 : Int32)  (σ : Mem) (h : sp_X4_isWithin p0 0 6 σ (fun r4 σ4 => (¬ r4 = 0 → (vp_in p0 7) ∧ ((vp_in p0 7) ∧ (sp_X4_isWithin p1 (LV.getD p0.toNatClampNeg 0) (GV.getD p0.toNatClampNeg 0) σ4 (fun r23 σ23 => (r23 = 0 → K 2 σ23) ∧ (¬ r23 = 0 → K 0 σ23)) X))) ∧ (r4 = 0 → K 1 σ4)) X) : Ws x 0 0 [(0, .int p0), (1, .int p1)] [] σ := by
  refine r_iload_n (j := 0) C 1 dX4_settingReason_0 rfl rfl ?_
  refine r_iconst C 2 (v := 0) dX4_settingReason_1 rfl (by decide) ?_
  refine r_bipush C 4 (v := 6) dX4_settingReason_2 rfl (by decide) ?_
  refine r_cSI (b := 0) (as := [.int p0, .int 0, .int 6]) (S := []) C r.px 7 (ct_X4_isWithin _ _ _ _ _ _ h) dX4_settingReason_4 rfl wd_432 wd_431 wd_433 wd_90 yd_X4_isWithin ⟨Nat.le_of_ble_eq_true rfl, Nat.le_of_ble_eq_true rfl⟩ (Nat.le_of_ble_eq_true rfl) (by decide) (fun r4 σ4 h => ?_)
  refine r_if_ne C 12 10 dX4_settingReason_7 (by decide) rfl (fun c7 => ?_) (fun c7 => ?_)
  · have h := h.1 c7
    refine r_iload_n (j := 1) C 13 dX4_settingReason_12 rfl rfl ?_
    refine r_stLV C 16 dX4_settingReason_13 rfl wd_683 ?_
    refine r_iload_n (j := 0) C 17 dX4_settingReason_16 rfl rfl ?_
    obtain ⟨o17, h⟩ := h
    refine r_aldLV C 18 dX4_settingReason_17 rfl o17 ?_
    refine r_stGV C 21 dX4_settingReason_18 rfl wd_685 ?_
    refine r_iload_n (j := 0) C 22 dX4_settingReason_21 rfl rfl ?_
    obtain ⟨o22, h⟩ := h
    refine r_aldGV C 23 dX4_settingReason_22 rfl o22 ?_
    refine r_cSI (b := 0) (as := [.int p1, .int (LV.getD p0.toNatClampNeg 0), .int (GV.getD p0.toNatClampNeg 0)]) (S := []) C r.px 26 (ct_X4_isWithin _ _ _ _ _ _ h) dX4_settingReason_23 rfl wd_432 wd_431 wd_433 wd_90 yd_X4_isWithin ⟨Nat.le_of_ble_eq_true rfl, Nat.le_of_ble_eq_true rfl⟩ (Nat.le_of_ble_eq_true rfl) (by decide) (fun r23 σ23 h => ?_)
    refine r_if_eq C 33 29 dX4_settingReason_26 (by decide) rfl (fun c26 => ?_) (fun c26 => ?_)
    · have h := h.1 c26
      refine r_iconst C 34 (v := 2) dX4_settingReason_33 rfl (by decide) ?_
      exact r_iret (S := []) C r dX4_settingReason_34 (by decide) rfl h
    · have h := h.2 c26
      refine r_iconst C 30 (v := 0) dX4_settingReason_29 rfl (by decide) ?_
      refine r_goto C 34 dX4_settingReason_30 (by decide) ?_
      exact r_iret (S := []) C r dX4_settingReason_34 (by decide) rfl h
  · have h := h.2 c7
    refine r_iconst C 11 (v := 1) dX4_settingReason_10 rfl (by decide) ?_
    exact r_iret (S := []) C r dX4_settingReason_11 (by decide) rfl h
theorem ct_X4_settingReason (p0 : Int32) (p1 : Int32) (σ : Mem) (K : Int32 → Mem → Prop) (X : String → Mem → Prop) (h : sp_X4_settingReason p0 p1 σ K X) : CtI yX4_settingReason cX4_settingReason 2 (some .int) 2 0 [.int p0, .int p1] σ K X := by
  have h := h
  exact ctI_of (by decide +kernel) (Nat.le_of_ble_eq_true rfl) (fun x C r => sg_X4_settingReason_0 C r p0 p1  σ h)
/-! HeatNetworkModel.across(II)I: level 2, exceptions 0 -/
def sp_X5_across (p0 : Int32) (p1 : Int32) (σ : Mem) (K : Int32 → Mem → Prop) (X : String → Mem → Prop) : Prop := (sp_X5_of p0 0 σ (fun r3 σ3 => (¬ r3 = p1 → sp_X5_of p0 1 σ3 (fun r22 σ22 => (¬ r22 = p1 → K (-1) σ22) ∧ (r22 = p1 → sp_X5_of p0 0 σ22 (fun r32 σ32 => K r32 σ32) X)) X) ∧ (r3 = p1 → sp_X5_of p0 1 σ3 (fun r13 σ13 => K r13 σ13) X)) X)
set_option maxRecDepth 4000 in
theorem sg_X5_across_0 {x : Ctx} {K : Int32 → Mem → Prop} {X : String → Mem → Prop} (C : Cx x RX5 cX5_across 3) (r : RtI x 2 0 (some .int) K X) (p0 : Int32) (p1 : Int32)  (σ : Mem) (h : sp_X5_of p0 0 σ (fun r3 σ3 => (¬ r3 = p1 → sp_X5_of p0 1 σ3 (fun r22 σ22 => (¬ r22 = p1 → K (-1) σ22) ∧ (r22 = p1 → sp_X5_of p0 0 σ22 (fun r32 σ32 => K r32 σ32) X)) X) ∧ (r3 = p1 → sp_X5_of p0 1 σ3 (fun r13 σ13 => K r13 σ13) X)) X) : Ws x 0 0 [(0, .ref 209), (1, .int p0), (2, .int p1)] [] σ := by
  refine r_aload_n (j := 0) C 1 dX5_across_0 rfl rfl ?_
  refine r_iload_n (j := 1) C 2 dX5_across_1 rfl rfl ?_
  refine r_iconst C 3 (v := 0) dX5_across_2 rfl (by decide) ?_
  refine r_cVI (as := [.int p0, .int 0]) (S := []) C r.px 6 (ct_X5_of _ _ _ _ _ h) dX5_across_3 rfl cl7 kd_209 wd_47 wd_1368 rfl wd_1366 wd_1369 wd_95 yd_X5_of ⟨Nat.le_of_ble_eq_true rfl, Nat.le_of_ble_eq_true rfl⟩ (Nat.le_of_ble_eq_true rfl) (by decide) (fun r3 σ3 h => ?_)
  refine r_iload_n (j := 2) C 7 dX5_across_6 rfl rfl ?_
  refine r_icmp_ne C 19 10 dX5_across_7 (by decide) rfl (fun c7 => ?_) (fun c7 => ?_)
  · have h := h.1 c7
    refine r_aload_n (j := 0) C 20 dX5_across_19 rfl rfl ?_
    refine r_iload_n (j := 1) C 21 dX5_across_20 rfl rfl ?_
    refine r_iconst C 22 (v := 1) dX5_across_21 rfl (by decide) ?_
    refine r_cVI (as := [.int p0, .int 1]) (S := []) C r.px 25 (ct_X5_of _ _ _ _ _ h) dX5_across_22 rfl cl7 kd_209 wd_47 wd_1368 rfl wd_1366 wd_1369 wd_95 yd_X5_of ⟨Nat.le_of_ble_eq_true rfl, Nat.le_of_ble_eq_true rfl⟩ (Nat.le_of_ble_eq_true rfl) (by decide) (fun r22 σ22 h => ?_)
    refine r_iload_n (j := 2) C 26 dX5_across_25 rfl rfl ?_
    refine r_icmp_ne C 38 29 dX5_across_26 (by decide) rfl (fun c26 => ?_) (fun c26 => ?_)
    · have h := h.1 c26
      refine r_iconst C 39 (v := (-1)) dX5_across_38 rfl (by decide) ?_
      exact r_iret (S := []) C r dX5_across_39 (by decide) rfl h
    · have h := h.2 c26
      refine r_aload_n (j := 0) C 30 dX5_across_29 rfl rfl ?_
      refine r_iload_n (j := 1) C 31 dX5_across_30 rfl rfl ?_
      refine r_iconst C 32 (v := 0) dX5_across_31 rfl (by decide) ?_
      refine r_cVI (as := [.int p0, .int 0]) (S := []) C r.px 35 (ct_X5_of _ _ _ _ _ h) dX5_across_32 rfl cl7 kd_209 wd_47 wd_1368 rfl wd_1366 wd_1369 wd_95 yd_X5_of ⟨Nat.le_of_ble_eq_true rfl, Nat.le_of_ble_eq_true rfl⟩ (Nat.le_of_ble_eq_true rfl) (by decide) (fun r32 σ32 h => ?_)
      refine r_goto C 39 dX5_across_35 (by decide) ?_
      exact r_iret (S := []) C r dX5_across_39 (by decide) rfl h
  · have h := h.2 c7
    refine r_aload_n (j := 0) C 11 dX5_across_10 rfl rfl ?_
    refine r_iload_n (j := 1) C 12 dX5_across_11 rfl rfl ?_
    refine r_iconst C 13 (v := 1) dX5_across_12 rfl (by decide) ?_
    refine r_cVI (as := [.int p0, .int 1]) (S := []) C r.px 16 (ct_X5_of _ _ _ _ _ h) dX5_across_13 rfl cl7 kd_209 wd_47 wd_1368 rfl wd_1366 wd_1369 wd_95 yd_X5_of ⟨Nat.le_of_ble_eq_true rfl, Nat.le_of_ble_eq_true rfl⟩ (Nat.le_of_ble_eq_true rfl) (by decide) (fun r13 σ13 h => ?_)
    refine r_goto C 39 dX5_across_16 (by decide) ?_
    exact r_iret (S := []) C r dX5_across_39 (by decide) rfl h
theorem ct_X5_across (p0 : Int32) (p1 : Int32) (σ : Mem) (K : Int32 → Mem → Prop) (X : String → Mem → Prop) (h : sp_X5_across p0 p1 σ K X) : CtI yX5_across cX5_across 3 (some .int) 2 0 [.ref 209, .int p0, .int p1] σ K X := by
  have h := h
  exact ctI_of (by decide +kernel) (Nat.le_of_ble_eq_true rfl) (fun x C r => sg_X5_across_0 C r p0 p1  σ h)
/-! HeatNetworkModel.append(I)I: level 2, exceptions 0 -/
def sp_X5_append (p0 : Int32) (σ : Mem) (K : Int32 → Mem → Prop) (X : String → Mem → Prop) : Prop := (∀ σ2 : Mem, σ2 = wi σ 209 0 0 → sp_X5_in p0 32 126 σ2 (fun r10 σ10 => (¬ r10 = 0 → (¬ (σ10.1 209 12) = 60 → ∀ σ49 : Mem, σ49 = wi σ10 209 12 ((σ10.1 209 12) + 1) → (vp_in (σ10.1 209 12) 60) ∧ (∀ σ53 : Mem, σ53 = wi σ49 218 ((σ10.1 209 12)).toNatClampNeg p0 → K (σ53.1 209 12) σ53)) ∧ ((σ10.1 209 12) = 60 → sp_X5_raises 2 σ10 (fun r33 σ33 => K r33 σ33) X)) ∧ (r10 = 0 → sp_X5_raises 1 σ10 (fun r18 σ18 => K r18 σ18) X)) X)
set_option maxRecDepth 4000 in
theorem sg_X5_append_0 {x : Ctx} {K : Int32 → Mem → Prop} {X : String → Mem → Prop} (C : Cx x RX5 cX5_append 2) (r : RtI x 2 0 (some .int) K X) (p0 : Int32)  (σ : Mem) (h : ∀ σ2 : Mem, σ2 = wi σ 209 0 0 → sp_X5_in p0 32 126 σ2 (fun r10 σ10 => (¬ r10 = 0 → (¬ (σ10.1 209 12) = 60 → ∀ σ49 : Mem, σ49 = wi σ10 209 12 ((σ10.1 209 12) + 1) → (vp_in (σ10.1 209 12) 60) ∧ (∀ σ53 : Mem, σ53 = wi σ49 218 ((σ10.1 209 12)).toNatClampNeg p0 → K (σ53.1 209 12) σ53)) ∧ ((σ10.1 209 12) = 60 → sp_X5_raises 2 σ10 (fun r33 σ33 => K r33 σ33) X)) ∧ (r10 = 0 → sp_X5_raises 1 σ10 (fun r18 σ18 => K r18 σ18) X)) X) : Ws x 0 0 [(0, .ref 209), (1, .int p0)] [] σ := by
  refine r_aload_n (j := 0) C 1 dX5_append_0 rfl rfl ?_
  refine r_iconst C 2 (v := 0) dX5_append_1 rfl (by decide) ?_
  refine r_putI (k := 0) C cl7 5 dX5_append_2 rfl kd_209 (by decide) wd_1212 rfl rfl rfl rfl ?_
  refine r_nmS (fun σ2 e2 => ?_)
  have h := h σ2 e2
  refine r_iload_n (j := 1) C 6 dX5_append_5 rfl rfl ?_
  refine r_bipush C 8 (v := 32) dX5_append_6 rfl (by decide) ?_
  refine r_bipush C 10 (v := 126) dX5_append_8 rfl (by decide) ?_
  refine r_cSI (b := 0) (as := [.int p0, .int 32, .int 126]) (S := []) C r.px 13 (ct_X5_in _ _ _ _ _ _ h) dX5_append_10 rfl wd_1321 wd_1320 wd_1322 wd_95 yd_X5_in ⟨Nat.le_of_ble_eq_true rfl, Nat.le_of_ble_eq_true rfl⟩ (Nat.le_of_ble_eq_true rfl) (by decide) (fun r10 σ10 h => ?_)
  refine r_if_ne C 22 16 dX5_append_13 (by decide) rfl (fun c13 => ?_) (fun c13 => ?_)
  · have h := h.1 c13
    refine r_aload_n (j := 0) C 23 dX5_append_22 rfl rfl ?_
    refine r_get (k := 12) C cl7 26 dX5_append_23 rfl kd_209 (by decide) wd_1224 (.int (σ10.1 209 12)) (fun _ => rfl) ?_
    refine r_bipush C 28 (v := 60) dX5_append_26 rfl (by decide) ?_
    refine r_icmp_ne C 37 31 dX5_append_28 (by decide) rfl (fun c28 => ?_) (fun c28 => ?_)
    · have h := h.1 c28
      refine r_aload_n (j := 0) C 38 dX5_append_37 rfl rfl ?_
      refine r_get (k := 11) C cl7 41 dX5_append_38 rfl kd_209 (by decide) wd_1223 (.ref 218) (fun _ => rfl) ?_
      refine r_aload_n (j := 0) C 42 dX5_append_41 rfl rfl ?_
      refine r_dup C 43 dX5_append_42 rfl rfl ?_
      refine r_get (k := 12) C cl7 46 dX5_append_43 rfl kd_209 (by decide) wd_1224 (.int (σ10.1 209 12)) (fun _ => rfl) ?_
      refine r_dup_x1 C 47 dX5_append_46 rfl rfl rfl ?_
      refine r_iconst C 48 (v := 1) dX5_append_47 rfl (by decide) ?_
      refine r_iadd C 49 dX5_append_48 rfl ?_
      refine r_putI (k := 12) C cl7 52 dX5_append_49 rfl kd_209 (by decide) wd_1224 rfl rfl rfl rfl ?_
      refine r_nmS (fun σ49 e49 => ?_)
      have h := h σ49 e49
      refine r_iload_n (j := 1) C 53 dX5_append_52 rfl rfl ?_
      obtain ⟨o53, h⟩ := h
      refine r_iast C 54 dX5_append_53 rfl kd_218 o53 ?_
      refine r_nmS (fun σ53 e53 => ?_)
      have h := h σ53 e53
      refine r_aload_n (j := 0) C 55 dX5_append_54 rfl rfl ?_
      refine r_get (k := 12) C cl7 58 dX5_append_55 rfl kd_209 (by decide) wd_1224 (.int (σ53.1 209 12)) (fun _ => rfl) ?_
      exact r_iret (S := []) C r dX5_append_58 (by decide) rfl h
    · have h := h.2 c28
      refine r_aload_n (j := 0) C 32 dX5_append_31 rfl rfl ?_
      refine r_iconst C 33 (v := 2) dX5_append_32 rfl (by decide) ?_
      refine r_cVI (as := [.int 2]) (S := []) C r.px 36 (ct_X5_raises _ _ _ _ h) dX5_append_33 rfl cl7 kd_209 wd_40 wd_1325 rfl wd_1323 wd_1326 wd_95 yd_X5_raises ⟨Nat.le_of_ble_eq_true rfl, Nat.le_of_ble_eq_true rfl⟩ (Nat.le_of_ble_eq_true rfl) (by decide) (fun r33 σ33 h => ?_)
      exact r_iret (S := []) C r dX5_append_36 (by decide) rfl h
  · have h := h.2 c13
    refine r_aload_n (j := 0) C 17 dX5_append_16 rfl rfl ?_
    refine r_iconst C 18 (v := 1) dX5_append_17 rfl (by decide) ?_
    refine r_cVI (as := [.int 1]) (S := []) C r.px 21 (ct_X5_raises _ _ _ _ h) dX5_append_18 rfl cl7 kd_209 wd_40 wd_1325 rfl wd_1323 wd_1326 wd_95 yd_X5_raises ⟨Nat.le_of_ble_eq_true rfl, Nat.le_of_ble_eq_true rfl⟩ (Nat.le_of_ble_eq_true rfl) (by decide) (fun r18 σ18 h => ?_)
    exact r_iret (S := []) C r dX5_append_21 (by decide) rfl h
theorem ct_X5_append (p0 : Int32) (σ : Mem) (K : Int32 → Mem → Prop) (X : String → Mem → Prop) (h : sp_X5_append p0 σ K X) : CtI yX5_append cX5_append 2 (some .int) 2 0 [.ref 209, .int p0] σ K X := by
  have h := h
  exact ctI_of (by decide +kernel) (Nat.le_of_ble_eq_true rfl) (fun x C r => sg_X5_append_0 C r p0  σ h)
/-! HeatNetworkModel.carries(IIJ)V: level 2, exceptions 0 -/
def sp_X5_carries (p0 : Int32) (p1 : Int32) (p2 : Int64) (σ : Mem) (K : Mem → Prop) (X : String → Mem → Prop) : Prop := (sp_X5_of p0 0 σ (fun r8 σ8 => (¬ r8 = p1 → (vp_in p0 10) ∧ (∀ σ22 : Mem, σ22 = wi σ8 228 p0.toNatClampNeg ((-p2)).toInt32 → K σ22)) ∧ (r8 = p1 → (vp_in p0 10) ∧ (∀ σ22 : Mem, σ22 = wi σ8 228 p0.toNatClampNeg (p2).toInt32 → K σ22))) X)
set_option maxRecDepth 4000 in
theorem sg_X5_carries_0 {x : Ctx} {K : Mem → Prop} {X : String → Mem → Prop} (C : Cx x RX5 cX5_carries 5) (r : RtV x 2 0 none K X) (p0 : Int32) (p1 : Int32) (p2 : Int64)  (σ : Mem) (h : sp_X5_of p0 0 σ (fun r8 σ8 => (¬ r8 = p1 → (vp_in p0 10) ∧ (∀ σ22 : Mem, σ22 = wi σ8 228 p0.toNatClampNeg ((-p2)).toInt32 → K σ22)) ∧ (r8 = p1 → (vp_in p0 10) ∧ (∀ σ22 : Mem, σ22 = wi σ8 228 p0.toNatClampNeg (p2).toInt32 → K σ22))) X) : Ws x 0 0 [(0, .ref 209), (1, .int p0), (2, .int p1), (3, .long p2)] [] σ := by
  refine r_aload_n (j := 0) C 1 dX5_carries_0 rfl rfl ?_
  refine r_get (k := 26) C cl7 4 dX5_carries_1 rfl kd_209 (by decide) wd_1238 (.ref 228) (fun _ => rfl) ?_
  refine r_iload_n (j := 1) C 5 dX5_carries_4 rfl rfl ?_
  refine r_aload_n (j := 0) C 6 dX5_carries_5 rfl rfl ?_
  refine r_iload_n (j := 1) C 7 dX5_carries_6 rfl rfl ?_
  refine r_iconst C 8 (v := 0) dX5_carries_7 rfl (by decide) ?_
  refine r_cVI (as := [.int p0, .int 0]) (S := [.int p0, .ref 228]) C r.px 11 (ct_X5_of _ _ _ _ _ h) dX5_carries_8 rfl cl7 kd_209 wd_47 wd_1368 rfl wd_1366 wd_1369 wd_95 yd_X5_of ⟨Nat.le_of_ble_eq_true rfl, Nat.le_of_ble_eq_true rfl⟩ (Nat.le_of_ble_eq_true rfl) (by decide) (fun r8 σ8 h => ?_)
  refine r_iload_n (j := 2) C 12 dX5_carries_11 rfl rfl ?_
  refine r_icmp_ne C 19 15 dX5_carries_12 (by decide) rfl (fun c12 => ?_) (fun c12 => ?_)
  · have h := h.1 c12
    refine r_lload_n (j := 3) C 20 dX5_carries_19 rfl rfl ?_
    refine r_lneg C 21 dX5_carries_20 rfl ?_
    refine r_l2i C 22 dX5_carries_21 rfl ?_
    obtain ⟨o22, h⟩ := h
    refine r_iast C 23 dX5_carries_22 rfl kd_228 o22 ?_
    refine r_nmS (fun σ22 e22 => ?_)
    have h := h σ22 e22
    exact r_vret (S := []) C r dX5_carries_23 (by decide) h
  · have h := h.2 c12
    refine r_lload_n (j := 3) C 16 dX5_carries_15 rfl rfl ?_
    refine r_goto C 21 dX5_carries_16 (by decide) ?_
    refine r_l2i C 22 dX5_carries_21 rfl ?_
    obtain ⟨o22, h⟩ := h
    refine r_iast C 23 dX5_carries_22 rfl kd_228 o22 ?_
    refine r_nmS (fun σ22 e22 => ?_)
    have h := h σ22 e22
    exact r_vret (S := []) C r dX5_carries_23 (by decide) h
theorem ct_X5_carries (p0 : Int32) (p1 : Int32) (p2 : Int64) (σ : Mem) (K : Mem → Prop) (X : String → Mem → Prop) (h : sp_X5_carries p0 p1 p2 σ K X) : CtV yX5_carries cX5_carries 5 none 2 0 [.ref 209, .int p0, .int p1, .long p2] σ K X := by
  have h := h
  exact ctV_of (by decide +kernel) (Nat.le_of_ble_eq_true rfl) (fun x C r => sg_X5_carries_0 C r p0 p1 p2  σ h)
/-! HeatNetworkModel.digit()I: level 2, exceptions 0 -/
def sp_X5_digit  (σ : Mem) (K : Int32 → Mem → Prop) (X : String → Mem → Prop) : Prop := (sp_X5_here  σ (fun r1 σ1 => sp_X5_in r1 48 57 σ1 (fun r8 σ8 => (r8 = 0 → K (-1) σ8) ∧ (¬ r8 = 0 → ∀ σ26 : Mem, σ26 = wi σ8 209 13 ((σ8.1 209 13) + 1) → (vp_in (σ8.1 209 13) 60) ∧ (K ((σ26.1 218 ((σ8.1 209 13)).toNatClampNeg) - 48) σ26))) X) X)
set_option maxRecDepth 4000 in
theorem sg_X5_digit_0 {x : Ctx} {K : Int32 → Mem → Prop} {X : String → Mem → Prop} (C : Cx x RX5 cX5_digit 1) (r : RtI x 2 0 (some .int) K X)   (σ : Mem) (h : sp_X5_here  σ (fun r1 σ1 => sp_X5_in r1 48 57 σ1 (fun r8 σ8 => (r8 = 0 → K (-1) σ8) ∧ (¬ r8 = 0 → ∀ σ26 : Mem, σ26 = wi σ8 209 13 ((σ8.1 209 13) + 1) → (vp_in (σ8.1 209 13) 60) ∧ (K ((σ26.1 218 ((σ8.1 209 13)).toNatClampNeg) - 48) σ26))) X) X) : Ws x 0 0 [(0, .ref 209)] [] σ := by
  refine r_aload_n (j := 0) C 1 dX5_digit_0 rfl rfl ?_
  refine r_cVI (as := []) (S := []) C r.px 4 (ct_X5_here  _ _ _ h) dX5_digit_1 rfl cl7 kd_209 wd_81 wd_1549 rfl wd_1547 wd_1550 wd_95 yd_X5_here ⟨Nat.le_of_ble_eq_true rfl, Nat.le_of_ble_eq_true rfl⟩ (Nat.le_of_ble_eq_true rfl) (by decide) (fun r1 σ1 h => ?_)
  refine r_bipush C 6 (v := 48) dX5_digit_4 rfl (by decide) ?_
  refine r_bipush C 8 (v := 57) dX5_digit_6 rfl (by decide) ?_
  refine r_cSI (b := 0) (as := [.int r1, .int 48, .int 57]) (S := []) C r.px 11 (ct_X5_in _ _ _ _ _ _ h) dX5_digit_8 rfl wd_1321 wd_1320 wd_1322 wd_95 yd_X5_in ⟨Nat.le_of_ble_eq_true rfl, Nat.le_of_ble_eq_true rfl⟩ (Nat.le_of_ble_eq_true rfl) (by decide) (fun r8 σ8 h => ?_)
  refine r_if_eq C 36 14 dX5_digit_11 (by decide) rfl (fun c11 => ?_) (fun c11 => ?_)
  · have h := h.1 c11
    refine r_iconst C 37 (v := (-1)) dX5_digit_36 rfl (by decide) ?_
    exact r_iret (S := []) C r dX5_digit_37 (by decide) rfl h
  · have h := h.2 c11
    refine r_aload_n (j := 0) C 15 dX5_digit_14 rfl rfl ?_
    refine r_get (k := 11) C cl7 18 dX5_digit_15 rfl kd_209 (by decide) wd_1223 (.ref 218) (fun _ => rfl) ?_
    refine r_aload_n (j := 0) C 19 dX5_digit_18 rfl rfl ?_
    refine r_dup C 20 dX5_digit_19 rfl rfl ?_
    refine r_get (k := 13) C cl7 23 dX5_digit_20 rfl kd_209 (by decide) wd_1225 (.int (σ8.1 209 13)) (fun _ => rfl) ?_
    refine r_dup_x1 C 24 dX5_digit_23 rfl rfl rfl ?_
    refine r_iconst C 25 (v := 1) dX5_digit_24 rfl (by decide) ?_
    refine r_iadd C 26 dX5_digit_25 rfl ?_
    refine r_putI (k := 13) C cl7 29 dX5_digit_26 rfl kd_209 (by decide) wd_1225 rfl rfl rfl rfl ?_
    refine r_nmS (fun σ26 e26 => ?_)
    have h := h σ26 e26
    obtain ⟨o29, h⟩ := h
    refine r_iald C 30 dX5_digit_29 rfl kd_218 o29 ?_
    refine r_bipush C 32 (v := 48) dX5_digit_30 rfl (by decide) ?_
    refine r_isub C 33 dX5_digit_32 rfl ?_
    refine r_goto C 37 dX5_digit_33 (by decide) ?_
    exact r_iret (S := []) C r dX5_digit_37 (by decide) rfl h
theorem ct_X5_digit  (σ : Mem) (K : Int32 → Mem → Prop) (X : String → Mem → Prop) (h : sp_X5_digit  σ K X) : CtI yX5_digit cX5_digit 1 (some .int) 2 0 [.ref 209] σ K X := by
  have h := h
  exact ctI_of (by decide +kernel) (Nat.le_of_ble_eq_true rfl) (fun x C r => sg_X5_digit_0 C r   σ h)
/-! HeatNetworkModel.drop(IJ)J: level 2, exceptions 0 -/
def sp_X5_drop (p0 : Int32) (p1 : Int64) (σ : Mem) (K : Int64 → Mem → Prop) (X : String → Mem → Prop) : Prop := (sp_X5_of p0 2 σ (fun r3 σ3 => sp_X5_of p0 3 σ3 (fun r10 σ10 => sp_J9_abs_067f4 p1 σ10 (fun r18 σ18 => K ((((r3).toInt64 * (r10).toInt64) * p1) * r18) σ18) X) X) X)
set_option maxRecDepth 4000 in
theorem sg_X5_drop_0 {x : Ctx} {K : Int64 → Mem → Prop} {X : String → Mem → Prop} (C : Cx x RX5 cX5_drop 4) (r : RtL x 2 0 (some .long) K X) (p0 : Int32) (p1 : Int64)  (σ : Mem) (h : sp_X5_of p0 2 σ (fun r3 σ3 => sp_X5_of p0 3 σ3 (fun r10 σ10 => sp_J9_abs_067f4 p1 σ10 (fun r18 σ18 => K ((((r3).toInt64 * (r10).toInt64) * p1) * r18) σ18) X) X) X) : Ws x 0 0 [(0, .ref 209), (1, .int p0), (2, .long p1)] [] σ := by
  refine r_aload_n (j := 0) C 1 dX5_drop_0 rfl rfl ?_
  refine r_iload_n (j := 1) C 2 dX5_drop_1 rfl rfl ?_
  refine r_iconst C 3 (v := 2) dX5_drop_2 rfl (by decide) ?_
  refine r_cVI (as := [.int p0, .int 2]) (S := []) C r.px 6 (ct_X5_of _ _ _ _ _ h) dX5_drop_3 rfl cl7 kd_209 wd_47 wd_1368 rfl wd_1366 wd_1369 wd_95 yd_X5_of ⟨Nat.le_of_ble_eq_true rfl, Nat.le_of_ble_eq_true rfl⟩ (Nat.le_of_ble_eq_true rfl) (by decide) (fun r3 σ3 h => ?_)
  refine r_i2l C 7 dX5_drop_6 rfl ?_
  refine r_aload_n (j := 0) C 8 dX5_drop_7 rfl rfl ?_
  refine r_iload_n (j := 1) C 9 dX5_drop_8 rfl rfl ?_
  refine r_iconst C 10 (v := 3) dX5_drop_9 rfl (by decide) ?_
  refine r_cVI (as := [.int p0, .int 3]) (S := [.long (r3).toInt64]) C r.px 13 (ct_X5_of _ _ _ _ _ h) dX5_drop_10 rfl cl7 kd_209 wd_47 wd_1368 rfl wd_1366 wd_1369 wd_95 yd_X5_of ⟨Nat.le_of_ble_eq_true rfl, Nat.le_of_ble_eq_true rfl⟩ (Nat.le_of_ble_eq_true rfl) (by decide) (fun r10 σ10 h => ?_)
  refine r_i2l C 14 dX5_drop_13 rfl ?_
  refine r_lmul C 15 dX5_drop_14 rfl ?_
  refine r_lload_n (j := 2) C 16 dX5_drop_15 rfl rfl ?_
  refine r_lmul C 17 dX5_drop_16 rfl ?_
  refine r_lload_n (j := 2) C 18 dX5_drop_17 rfl rfl ?_
  refine r_cSL (b := 0) (as := [.long p1]) (S := [.long (((r3).toInt64 * (r10).toInt64) * p1)]) C r.px 21 (ct_J9_abs_067f4 _ _ _ _ h) dX5_drop_18 rfl wd_1126 wd_1470 wd_1127 wd_104 yd_J9_abs_067f4 ⟨Nat.le_of_ble_eq_true rfl, Nat.le_of_ble_eq_true rfl⟩ (Nat.le_of_ble_eq_true rfl) (by decide) (fun r18 σ18 h => ?_)
  refine r_lmul C 22 dX5_drop_21 rfl ?_
  exact r_lret (S := []) C r dX5_drop_22 (by decide) h
theorem ct_X5_drop (p0 : Int32) (p1 : Int64) (σ : Mem) (K : Int64 → Mem → Prop) (X : String → Mem → Prop) (h : sp_X5_drop p0 p1 σ K X) : CtL yX5_drop cX5_drop 4 (some .long) 2 0 [.ref 209, .int p0, .long p1] σ K X := by
  have h := h
  exact ctL_of (by decide +kernel) (Nat.le_of_ble_eq_true rfl) (fun x C r => sg_X5_drop_0 C r p0 p1  σ h)
/-! HeatNetworkModel.from(I)I: level 2, exceptions 0 -/
def sp_X5_from (p0 : Int32) (σ : Mem) (K : Int32 → Mem → Prop) (X : String → Mem → Prop) : Prop := ((vp_in p0 10) ∧ (((σ.1 228 p0.toNatClampNeg) ≤ 0 → (vp_in p0 10) ∧ ((0 ≤ (σ.1 228 p0.toNatClampNeg) → K (-1) σ) ∧ (¬ 0 ≤ (σ.1 228 p0.toNatClampNeg) → sp_X5_of p0 1 σ (fun r30 σ30 => K r30 σ30) X))) ∧ (¬ (σ.1 228 p0.toNatClampNeg) ≤ 0 → sp_X5_of p0 0 σ (fun r12 σ12 => K r12 σ12) X)))
set_option maxRecDepth 4000 in
theorem sg_X5_from_0 {x : Ctx} {K : Int32 → Mem → Prop} {X : String → Mem → Prop} (C : Cx x RX5 cX5_from 2) (r : RtI x 2 0 (some .int) K X) (p0 : Int32)  (σ : Mem) (h : (vp_in p0 10) ∧ (((σ.1 228 p0.toNatClampNeg) ≤ 0 → (vp_in p0 10) ∧ ((0 ≤ (σ.1 228 p0.toNatClampNeg) → K (-1) σ) ∧ (¬ 0 ≤ (σ.1 228 p0.toNatClampNeg) → sp_X5_of p0 1 σ (fun r30 σ30 => K r30 σ30) X))) ∧ (¬ (σ.1 228 p0.toNatClampNeg) ≤ 0 → sp_X5_of p0 0 σ (fun r12 σ12 => K r12 σ12) X))) : Ws x 0 0 [(0, .ref 209), (1, .int p0)] [] σ := by
  refine r_aload_n (j := 0) C 1 dX5_from_0 rfl rfl ?_
  refine r_get (k := 26) C cl7 4 dX5_from_1 rfl kd_209 (by decide) wd_1238 (.ref 228) (fun _ => rfl) ?_
  refine r_iload_n (j := 1) C 5 dX5_from_4 rfl rfl ?_
  obtain ⟨o5, h⟩ := h
  refine r_iald C 6 dX5_from_5 rfl kd_228 o5 ?_
  refine r_if_le C 18 9 dX5_from_6 (by decide) rfl (fun c6 => ?_) (fun c6 => ?_)
  · have h := h.1 c6
    refine r_aload_n (j := 0) C 19 dX5_from_18 rfl rfl ?_
    refine r_get (k := 26) C cl7 22 dX5_from_19 rfl kd_209 (by decide) wd_1238 (.ref 228) (fun _ => rfl) ?_
    refine r_iload_n (j := 1) C 23 dX5_from_22 rfl rfl ?_
    obtain ⟨o23, h⟩ := h
    refine r_iald C 24 dX5_from_23 rfl kd_228 o23 ?_
    refine r_if_ge C 36 27 dX5_from_24 (by decide) rfl (fun c24 => ?_) (fun c24 => ?_)
    · have h := h.1 c24
      refine r_iconst C 37 (v := (-1)) dX5_from_36 rfl (by decide) ?_
      exact r_iret (S := []) C r dX5_from_37 (by decide) rfl h
    · have h := h.2 c24
      refine r_aload_n (j := 0) C 28 dX5_from_27 rfl rfl ?_
      refine r_iload_n (j := 1) C 29 dX5_from_28 rfl rfl ?_
      refine r_iconst C 30 (v := 1) dX5_from_29 rfl (by decide) ?_
      refine r_cVI (as := [.int p0, .int 1]) (S := []) C r.px 33 (ct_X5_of _ _ _ _ _ h) dX5_from_30 rfl cl7 kd_209 wd_47 wd_1368 rfl wd_1366 wd_1369 wd_95 yd_X5_of ⟨Nat.le_of_ble_eq_true rfl, Nat.le_of_ble_eq_true rfl⟩ (Nat.le_of_ble_eq_true rfl) (by decide) (fun r30 σ30 h => ?_)
      refine r_goto C 37 dX5_from_33 (by decide) ?_
      exact r_iret (S := []) C r dX5_from_37 (by decide) rfl h
  · have h := h.2 c6
    refine r_aload_n (j := 0) C 10 dX5_from_9 rfl rfl ?_
    refine r_iload_n (j := 1) C 11 dX5_from_10 rfl rfl ?_
    refine r_iconst C 12 (v := 0) dX5_from_11 rfl (by decide) ?_
    refine r_cVI (as := [.int p0, .int 0]) (S := []) C r.px 15 (ct_X5_of _ _ _ _ _ h) dX5_from_12 rfl cl7 kd_209 wd_47 wd_1368 rfl wd_1366 wd_1369 wd_95 yd_X5_of ⟨Nat.le_of_ble_eq_true rfl, Nat.le_of_ble_eq_true rfl⟩ (Nat.le_of_ble_eq_true rfl) (by decide) (fun r12 σ12 h => ?_)
    refine r_goto C 37 dX5_from_15 (by decide) ?_
    exact r_iret (S := []) C r dX5_from_37 (by decide) rfl h
theorem ct_X5_from (p0 : Int32) (σ : Mem) (K : Int32 → Mem → Prop) (X : String → Mem → Prop) (h : sp_X5_from p0 σ K X) : CtI yX5_from cX5_from 2 (some .int) 2 0 [.ref 209, .int p0] σ K X := by
  have h := h
  exact ctI_of (by decide +kernel) (Nat.le_of_ble_eq_true rfl) (fun x C r => sg_X5_from_0 C r p0  σ h)
/-! HeatNetworkModel.hasStation(I)Z: level 2, exceptions 0 -/
def sp_X5_hasStation (p0 : Int32) (σ : Mem) (K : Int32 → Mem → Prop) (X : String → Mem → Prop) : Prop := (sp_X5_in p0 1 9 σ (fun r4 σ4 => (r4 = 0 → K 0 σ4) ∧ (¬ r4 = 0 → (vp_in (48 + (6 * p0)) 108) ∧ ((¬ (σ4.1 210 ((48 + (6 * p0))).toNatClampNeg) = 1 → K 0 σ4) ∧ ((σ4.1 210 ((48 + (6 * p0))).toNatClampNeg) = 1 → K 1 σ4)))) X)
set_option maxRecDepth 4000 in
theorem sg_X5_hasStation_0 {x : Ctx} {K : Int32 → Mem → Prop} {X : String → Mem → Prop} (C : Cx x RX5 cX5_hasStation 2) (r : RtI x 2 0 (some .boolean) K X) (p0 : Int32)  (σ : Mem) (h : sp_X5_in p0 1 9 σ (fun r4 σ4 => (r4 = 0 → K 0 σ4) ∧ (¬ r4 = 0 → (vp_in (48 + (6 * p0)) 108) ∧ ((¬ (σ4.1 210 ((48 + (6 * p0))).toNatClampNeg) = 1 → K 0 σ4) ∧ ((σ4.1 210 ((48 + (6 * p0))).toNatClampNeg) = 1 → K 1 σ4)))) X) : Ws x 0 0 [(0, .ref 209), (1, .int p0)] [] σ := by
  refine r_iload_n (j := 1) C 1 dX5_hasStation_0 rfl rfl ?_
  refine r_iconst C 2 (v := 1) dX5_hasStation_1 rfl (by decide) ?_
  refine r_bipush C 4 (v := 9) dX5_hasStation_2 rfl (by decide) ?_
  refine r_cSI (b := 0) (as := [.int p0, .int 1, .int 9]) (S := []) C r.px 7 (ct_X5_in _ _ _ _ _ _ h) dX5_hasStation_4 rfl wd_1321 wd_1320 wd_1322 wd_95 yd_X5_in ⟨Nat.le_of_ble_eq_true rfl, Nat.le_of_ble_eq_true rfl⟩ (Nat.le_of_ble_eq_true rfl) (by decide) (fun r4 σ4 h => ?_)
  refine r_if_eq C 30 10 dX5_hasStation_7 (by decide) rfl (fun c7 => ?_) (fun c7 => ?_)
  · have h := h.1 c7
    refine r_iconst C 31 (v := 0) dX5_hasStation_30 rfl (by decide) ?_
    exact r_iret (S := []) C r dX5_hasStation_31 (by decide) (by decide) h
  · have h := h.2 c7
    refine r_aload_n (j := 0) C 11 dX5_hasStation_10 rfl rfl ?_
    refine r_get (k := 1) C cl7 14 dX5_hasStation_11 rfl kd_209 (by decide) wd_1213 (.ref 210) (fun _ => rfl) ?_
    refine r_bipush C 16 (v := 48) dX5_hasStation_14 rfl (by decide) ?_
    refine r_bipush C 18 (v := 6) dX5_hasStation_16 rfl (by decide) ?_
    refine r_iload_n (j := 1) C 19 dX5_hasStation_18 rfl rfl ?_
    refine r_imul C 20 dX5_hasStation_19 rfl ?_
    refine r_iadd C 21 dX5_hasStation_20 rfl ?_
    obtain ⟨o21, h⟩ := h
    refine r_iald C 22 dX5_hasStation_21 rfl kd_210 o21 ?_
    refine r_iconst C 23 (v := 1) dX5_hasStation_22 rfl (by decide) ?_
    refine r_icmp_ne C 30 26 dX5_hasStation_23 (by decide) rfl (fun c23 => ?_) (fun c23 => ?_)
    · have h := h.1 c23
      refine r_iconst C 31 (v := 0) dX5_hasStation_30 rfl (by decide) ?_
      exact r_iret (S := []) C r dX5_hasStation_31 (by decide) (by decide) h
    · have h := h.2 c23
      refine r_iconst C 27 (v := 1) dX5_hasStation_26 rfl (by decide) ?_
      refine r_goto C 31 dX5_hasStation_27 (by decide) ?_
      exact r_iret (S := []) C r dX5_hasStation_31 (by decide) (by decide) h
theorem ct_X5_hasStation (p0 : Int32) (σ : Mem) (K : Int32 → Mem → Prop) (X : String → Mem → Prop) (h : sp_X5_hasStation p0 σ K X) : CtI yX5_hasStation cX5_hasStation 2 (some .boolean) 2 0 [.ref 209, .int p0] σ K X := by
  have h := h
  exact ctI_of (by decide +kernel) (Nat.le_of_ble_eq_true rfl) (fun x C r => sg_X5_hasStation_0 C r p0  σ h)
/-! HeatNetworkModel.isNode(I)Z: level 2, exceptions 0 -/
def sp_X5_isNode (p0 : Int32) (σ : Mem) (K : Int32 → Mem → Prop) (X : String → Mem → Prop) : Prop := (sp_X5_in p0 0 9 σ (fun r4 σ4 => (narrow .boolean (.int r4) = .int r4) ∧ K r4 σ4) X)
set_option maxRecDepth 4000 in
theorem sg_X5_isNode_0 {x : Ctx} {K : Int32 → Mem → Prop} {X : String → Mem → Prop} (C : Cx x RX5 cX5_isNode 1) (r : RtI x 2 0 (some .boolean) K X) (p0 : Int32)  (σ : Mem) (h : sp_X5_in p0 0 9 σ (fun r4 σ4 => (narrow .boolean (.int r4) = .int r4) ∧ K r4 σ4) X) : Ws x 0 0 [(0, .int p0)] [] σ := by
  refine r_iload_n (j := 0) C 1 dX5_isNode_0 rfl rfl ?_
  refine r_iconst C 2 (v := 0) dX5_isNode_1 rfl (by decide) ?_
  refine r_bipush C 4 (v := 9) dX5_isNode_2 rfl (by decide) ?_
  refine r_cSI (b := 0) (as := [.int p0, .int 0, .int 9]) (S := []) C r.px 7 (ct_X5_in _ _ _ _ _ _ h) dX5_isNode_4 rfl wd_1321 wd_1320 wd_1322 wd_95 yd_X5_in ⟨Nat.le_of_ble_eq_true rfl, Nat.le_of_ble_eq_true rfl⟩ (Nat.le_of_ble_eq_true rfl) (by decide) (fun r4 σ4 h => ?_)
  exact r_iret (S := []) C r dX5_isNode_7 (by decide) h.1 h.2
theorem ct_X5_isNode (p0 : Int32) (σ : Mem) (K : Int32 → Mem → Prop) (X : String → Mem → Prop) (h : sp_X5_isNode p0 σ K X) : CtI yX5_isNode cX5_isNode 1 (some .boolean) 2 0 [.int p0] σ K X := by
  have h := h
  exact ctI_of (by decide +kernel) (Nat.le_of_ble_eq_true rfl) (fun x C r => sg_X5_isNode_0 C r p0  σ h)
/-! HeatNetworkModel.isPipe(I)Z: level 2, exceptions 0 -/
def sp_X5_isPipe (p0 : Int32) (σ : Mem) (K : Int32 → Mem → Prop) (X : String → Mem → Prop) : Prop := (sp_X5_pipes  σ (fun r3 σ3 => sp_X5_in p0 0 (r3 - 1) σ3 (fun r8 σ8 => (narrow .boolean (.int r8) = .int r8) ∧ K r8 σ8) X) X)
set_option maxRecDepth 4000 in
theorem sg_X5_isPipe_0 {x : Ctx} {K : Int32 → Mem → Prop} {X : String → Mem → Prop} (C : Cx x RX5 cX5_isPipe 2) (r : RtI x 2 0 (some .boolean) K X) (p0 : Int32)  (σ : Mem) (h : sp_X5_pipes  σ (fun r3 σ3 => sp_X5_in p0 0 (r3 - 1) σ3 (fun r8 σ8 => (narrow .boolean (.int r8) = .int r8) ∧ K r8 σ8) X) X) : Ws x 0 0 [(0, .ref 209), (1, .int p0)] [] σ := by
  refine r_iload_n (j := 1) C 1 dX5_isPipe_0 rfl rfl ?_
  refine r_iconst C 2 (v := 0) dX5_isPipe_1 rfl (by decide) ?_
  refine r_aload_n (j := 0) C 3 dX5_isPipe_2 rfl rfl ?_
  refine r_cVI (as := []) (S := [.int 0, .int p0]) C r.px 6 (ct_X5_pipes  _ _ _ h) dX5_isPipe_3 rfl cl7 kd_209 wd_45 wd_1360 rfl wd_1358 wd_1361 wd_95 yd_X5_pipes ⟨Nat.le_of_ble_eq_true rfl, Nat.le_of_ble_eq_true rfl⟩ (Nat.le_of_ble_eq_true rfl) (by decide) (fun r3 σ3 h => ?_)
  refine r_iconst C 7 (v := 1) dX5_isPipe_6 rfl (by decide) ?_
  refine r_isub C 8 dX5_isPipe_7 rfl ?_
  refine r_cSI (b := 0) (as := [.int p0, .int 0, .int (r3 - 1)]) (S := []) C r.px 11 (ct_X5_in _ _ _ _ _ _ h) dX5_isPipe_8 rfl wd_1321 wd_1320 wd_1322 wd_95 yd_X5_in ⟨Nat.le_of_ble_eq_true rfl, Nat.le_of_ble_eq_true rfl⟩ (Nat.le_of_ble_eq_true rfl) (by decide) (fun r8 σ8 h => ?_)
  exact r_iret (S := []) C r dX5_isPipe_11 (by decide) h.1 h.2
theorem ct_X5_isPipe (p0 : Int32) (σ : Mem) (K : Int32 → Mem → Prop) (X : String → Mem → Prop) (h : sp_X5_isPipe p0 σ K X) : CtI yX5_isPipe cX5_isPipe 2 (some .boolean) 2 0 [.ref 209, .int p0] σ K X := by
  have h := h
  exact ctI_of (by decide +kernel) (Nat.le_of_ble_eq_true rfl) (fun x C r => sg_X5_isPipe_0 C r p0  σ h)
/-! HeatNetworkModel.isSettingValue(II)Z: level 2, exceptions 0 -/
def sp_X5_isSettingValue (p0 : Int32) (p1 : Int32) (σ : Mem) (K : Int32 → Mem → Prop) (X : String → Mem → Prop) : Prop := ((p0 = 0 → sp_X5_in p1 600 1200 σ (fun r47 σ47 => (narrow .boolean (.int r47) = .int r47) ∧ K r47 σ47) X) ∧ (p0 = 1 → sp_X5_in p1 0 200 σ (fun r56 σ56 => (narrow .boolean (.int r56) = .int r56) ∧ K r56 σ56) X) ∧ (p0 = 2 → sp_X5_in p1 (-300) 300 σ (fun r67 σ67 => (narrow .boolean (.int r67) = .int r67) ∧ K r67 σ67) X) ∧ (p0 = 3 → sp_X5_in p1 0 99 σ (fun r75 σ75 => (narrow .boolean (.int r75) = .int r75) ∧ K r75 σ75) X) ∧ (p0 = 4 → sp_X5_in p1 1 999999999 σ (fun r83 σ83 => (narrow .boolean (.int r83) = .int r83) ∧ K r83 σ83) X) ∧ (p0 = 5 → sp_X5_in p1 0 999 σ (fun r92 σ92 => (narrow .boolean (.int r92) = .int r92) ∧ K r92 σ92) X) ∧ (¬ p0 = 0 → ¬ p0 = 1 → ¬ p0 = 2 → ¬ p0 = 3 → ¬ p0 = 4 → ¬ p0 = 5 → sp_X5_in p1 0 99 σ (fun r100 σ100 => (narrow .boolean (.int r100) = .int r100) ∧ K r100 σ100) X))
set_option maxRecDepth 4000 in
theorem sg_X5_isSettingValue_0 {x : Ctx} {K : Int32 → Mem → Prop} {X : String → Mem → Prop} (C : Cx x RX5 cX5_isSettingValue 2) (r : RtI x 2 0 (some .boolean) K X) (p0 : Int32) (p1 : Int32)  (σ : Mem) (h : (p0 = 0 → sp_X5_in p1 600 1200 σ (fun r47 σ47 => (narrow .boolean (.int r47) = .int r47) ∧ K r47 σ47) X) ∧ (p0 = 1 → sp_X5_in p1 0 200 σ (fun r56 σ56 => (narrow .boolean (.int r56) = .int r56) ∧ K r56 σ56) X) ∧ (p0 = 2 → sp_X5_in p1 (-300) 300 σ (fun r67 σ67 => (narrow .boolean (.int r67) = .int r67) ∧ K r67 σ67) X) ∧ (p0 = 3 → sp_X5_in p1 0 99 σ (fun r75 σ75 => (narrow .boolean (.int r75) = .int r75) ∧ K r75 σ75) X) ∧ (p0 = 4 → sp_X5_in p1 1 999999999 σ (fun r83 σ83 => (narrow .boolean (.int r83) = .int r83) ∧ K r83 σ83) X) ∧ (p0 = 5 → sp_X5_in p1 0 999 σ (fun r92 σ92 => (narrow .boolean (.int r92) = .int r92) ∧ K r92 σ92) X) ∧ (¬ p0 = 0 → ¬ p0 = 1 → ¬ p0 = 2 → ¬ p0 = 3 → ¬ p0 = 4 → ¬ p0 = 5 → sp_X5_in p1 0 99 σ (fun r100 σ100 => (narrow .boolean (.int r100) = .int r100) ∧ K r100 σ100) X)) : Ws x 0 0 [(0, .int p0), (1, .int p1)] [] σ := by
  refine r_iload_n (j := 0) C 1 dX5_isSettingValue_0 rfl rfl ?_
  by_cases c1_0 : p0 = 0
  · have h := h.1 c1_0
    refine r_tblIn C 40 (off := 39) dX5_isSettingValue_1 (by rw [c1_0]; decide) (by rw [c1_0]; decide) (by rw [c1_0] <;> rfl) (by decide) ?_
    refine r_iload_n (j := 1) C 41 dX5_isSettingValue_40 rfl rfl ?_
    refine r_sipush C 44 (v := 600) dX5_isSettingValue_41 rfl (by decide) ?_
    refine r_sipush C 47 (v := 1200) dX5_isSettingValue_44 rfl (by decide) ?_
    refine r_cSI (b := 0) (as := [.int p1, .int 600, .int 1200]) (S := []) C r.px 50 (ct_X5_in _ _ _ _ _ _ h) dX5_isSettingValue_47 rfl wd_1321 wd_1320 wd_1322 wd_95 yd_X5_in ⟨Nat.le_of_ble_eq_true rfl, Nat.le_of_ble_eq_true rfl⟩ (Nat.le_of_ble_eq_true rfl) (by decide) (fun r47 σ47 h => ?_)
    exact r_iret (S := []) C r dX5_isSettingValue_50 (by decide) h.1 h.2
  by_cases c1_1 : p0 = 1
  · have h := h.2.1 c1_1
    refine r_tblIn C 51 (off := 50) dX5_isSettingValue_1 (by rw [c1_1]; decide) (by rw [c1_1]; decide) (by rw [c1_1] <;> rfl) (by decide) ?_
    refine r_iload_n (j := 1) C 52 dX5_isSettingValue_51 rfl rfl ?_
    refine r_iconst C 53 (v := 0) dX5_isSettingValue_52 rfl (by decide) ?_
    refine r_sipush C 56 (v := 200) dX5_isSettingValue_53 rfl (by decide) ?_
    refine r_cSI (b := 0) (as := [.int p1, .int 0, .int 200]) (S := []) C r.px 59 (ct_X5_in _ _ _ _ _ _ h) dX5_isSettingValue_56 rfl wd_1321 wd_1320 wd_1322 wd_95 yd_X5_in ⟨Nat.le_of_ble_eq_true rfl, Nat.le_of_ble_eq_true rfl⟩ (Nat.le_of_ble_eq_true rfl) (by decide) (fun r56 σ56 h => ?_)
    exact r_iret (S := []) C r dX5_isSettingValue_59 (by decide) h.1 h.2
  by_cases c1_2 : p0 = 2
  · have h := h.2.2.1 c1_2
    refine r_tblIn C 60 (off := 59) dX5_isSettingValue_1 (by rw [c1_2]; decide) (by rw [c1_2]; decide) (by rw [c1_2] <;> rfl) (by decide) ?_
    refine r_iload_n (j := 1) C 61 dX5_isSettingValue_60 rfl rfl ?_
    refine r_sipush C 64 (v := (-300)) dX5_isSettingValue_61 rfl (by decide) ?_
    refine r_sipush C 67 (v := 300) dX5_isSettingValue_64 rfl (by decide) ?_
    refine r_cSI (b := 0) (as := [.int p1, .int (-300), .int 300]) (S := []) C r.px 70 (ct_X5_in _ _ _ _ _ _ h) dX5_isSettingValue_67 rfl wd_1321 wd_1320 wd_1322 wd_95 yd_X5_in ⟨Nat.le_of_ble_eq_true rfl, Nat.le_of_ble_eq_true rfl⟩ (Nat.le_of_ble_eq_true rfl) (by decide) (fun r67 σ67 h => ?_)
    exact r_iret (S := []) C r dX5_isSettingValue_70 (by decide) h.1 h.2
  by_cases c1_3 : p0 = 3
  · have h := h.2.2.2.1 c1_3
    refine r_tblIn C 71 (off := 70) dX5_isSettingValue_1 (by rw [c1_3]; decide) (by rw [c1_3]; decide) (by rw [c1_3] <;> rfl) (by decide) ?_
    refine r_iload_n (j := 1) C 72 dX5_isSettingValue_71 rfl rfl ?_
    refine r_iconst C 73 (v := 0) dX5_isSettingValue_72 rfl (by decide) ?_
    refine r_bipush C 75 (v := 99) dX5_isSettingValue_73 rfl (by decide) ?_
    refine r_cSI (b := 0) (as := [.int p1, .int 0, .int 99]) (S := []) C r.px 78 (ct_X5_in _ _ _ _ _ _ h) dX5_isSettingValue_75 rfl wd_1321 wd_1320 wd_1322 wd_95 yd_X5_in ⟨Nat.le_of_ble_eq_true rfl, Nat.le_of_ble_eq_true rfl⟩ (Nat.le_of_ble_eq_true rfl) (by decide) (fun r75 σ75 h => ?_)
    exact r_iret (S := []) C r dX5_isSettingValue_78 (by decide) h.1 h.2
  by_cases c1_4 : p0 = 4
  · have h := h.2.2.2.2.1 c1_4
    refine r_tblIn C 79 (off := 78) dX5_isSettingValue_1 (by rw [c1_4]; decide) (by rw [c1_4]; decide) (by rw [c1_4] <;> rfl) (by decide) ?_
    refine r_iload_n (j := 1) C 80 dX5_isSettingValue_79 rfl rfl ?_
    refine r_iconst C 81 (v := 1) dX5_isSettingValue_80 rfl (by decide) ?_
    refine r_ldc C 83 (v := 999999999) dX5_isSettingValue_81 rfl wd_1330 ?_
    refine r_cSI (b := 0) (as := [.int p1, .int 1, .int 999999999]) (S := []) C r.px 86 (ct_X5_in _ _ _ _ _ _ h) dX5_isSettingValue_83 rfl wd_1321 wd_1320 wd_1322 wd_95 yd_X5_in ⟨Nat.le_of_ble_eq_true rfl, Nat.le_of_ble_eq_true rfl⟩ (Nat.le_of_ble_eq_true rfl) (by decide) (fun r83 σ83 h => ?_)
    exact r_iret (S := []) C r dX5_isSettingValue_86 (by decide) h.1 h.2
  by_cases c1_5 : p0 = 5
  · have h := h.2.2.2.2.2.1 c1_5
    refine r_tblIn C 87 (off := 86) dX5_isSettingValue_1 (by rw [c1_5]; decide) (by rw [c1_5]; decide) (by rw [c1_5] <;> rfl) (by decide) ?_
    refine r_iload_n (j := 1) C 88 dX5_isSettingValue_87 rfl rfl ?_
    refine r_iconst C 89 (v := 0) dX5_isSettingValue_88 rfl (by decide) ?_
    refine r_sipush C 92 (v := 999) dX5_isSettingValue_89 rfl (by decide) ?_
    refine r_cSI (b := 0) (as := [.int p1, .int 0, .int 999]) (S := []) C r.px 95 (ct_X5_in _ _ _ _ _ _ h) dX5_isSettingValue_92 rfl wd_1321 wd_1320 wd_1322 wd_95 yd_X5_in ⟨Nat.le_of_ble_eq_true rfl, Nat.le_of_ble_eq_true rfl⟩ (Nat.le_of_ble_eq_true rfl) (by decide) (fun r92 σ92 h => ?_)
    exact r_iret (S := []) C r dX5_isSettingValue_95 (by decide) h.1 h.2
  have h := h.2.2.2.2.2.2 c1_0 c1_1 c1_2 c1_3 c1_4 c1_5
  refine r_tblOut C 96 dX5_isSettingValue_1 (tsw_out 6 (by decide) (fun k hk => by
    match k, hk with
    | 0, _ => exact c1_0
    | 1, _ => exact c1_1
    | 2, _ => exact c1_2
    | 3, _ => exact c1_3
    | 4, _ => exact c1_4
    | 5, _ => exact c1_5
    | k + 6, hk => exact absurd hk (by omega))) (by decide) ?_
  refine r_iload_n (j := 1) C 97 dX5_isSettingValue_96 rfl rfl ?_
  refine r_iconst C 98 (v := 0) dX5_isSettingValue_97 rfl (by decide) ?_
  refine r_bipush C 100 (v := 99) dX5_isSettingValue_98 rfl (by decide) ?_
  refine r_cSI (b := 0) (as := [.int p1, .int 0, .int 99]) (S := []) C r.px 103 (ct_X5_in _ _ _ _ _ _ h) dX5_isSettingValue_100 rfl wd_1321 wd_1320 wd_1322 wd_95 yd_X5_in ⟨Nat.le_of_ble_eq_true rfl, Nat.le_of_ble_eq_true rfl⟩ (Nat.le_of_ble_eq_true rfl) (by decide) (fun r100 σ100 h => ?_)
  exact r_iret (S := []) C r dX5_isSettingValue_103 (by decide) h.1 h.2
theorem ct_X5_isSettingValue (p0 : Int32) (p1 : Int32) (σ : Mem) (K : Int32 → Mem → Prop) (X : String → Mem → Prop) (h : sp_X5_isSettingValue p0 p1 σ K X) : CtI yX5_isSettingValue cX5_isSettingValue 2 (some .boolean) 2 0 [.int p0, .int p1] σ K X := by
  have h := h
  exact ctI_of (by decide +kernel) (Nat.le_of_ble_eq_true rfl) (fun x C r => sg_X5_isSettingValue_0 C r p0 p1  σ h)
/-! HeatNetworkModel.refusal()I: level 2, exceptions 0 -/
def sp_X5_refusal  (σ : Mem) (K : Int32 → Mem → Prop) (X : String → Mem → Prop) : Prop := (∀ σ2 : Mem, σ2 = wi σ 209 0 0 → (¬ (σ2.1 209 15) = 0 → K (σ2.1 209 15) σ2) ∧ ((σ2.1 209 15) = 0 → sp_X5_raises 1 σ2 (fun r14 σ14 => K r14 σ14) X))
set_option maxRecDepth 4000 in
theorem sg_X5_refusal_0 {x : Ctx} {K : Int32 → Mem → Prop} {X : String → Mem → Prop} (C : Cx x RX5 cX5_refusal 1) (r : RtI x 2 0 (some .int) K X)   (σ : Mem) (h : ∀ σ2 : Mem, σ2 = wi σ 209 0 0 → (¬ (σ2.1 209 15) = 0 → K (σ2.1 209 15) σ2) ∧ ((σ2.1 209 15) = 0 → sp_X5_raises 1 σ2 (fun r14 σ14 => K r14 σ14) X)) : Ws x 0 0 [(0, .ref 209)] [] σ := by
  refine r_aload_n (j := 0) C 1 dX5_refusal_0 rfl rfl ?_
  refine r_iconst C 2 (v := 0) dX5_refusal_1 rfl (by decide) ?_
  refine r_putI (k := 0) C cl7 5 dX5_refusal_2 rfl kd_209 (by decide) wd_1212 rfl rfl rfl rfl ?_
  refine r_nmS (fun σ2 e2 => ?_)
  have h := h σ2 e2
  refine r_aload_n (j := 0) C 6 dX5_refusal_5 rfl rfl ?_
  refine r_get (k := 15) C cl7 9 dX5_refusal_6 rfl kd_209 (by decide) wd_1227 (.int (σ2.1 209 15)) (fun _ => rfl) ?_
  refine r_if_ne C 20 12 dX5_refusal_9 (by decide) rfl (fun c9 => ?_) (fun c9 => ?_)
  · have h := h.1 c9
    refine r_aload_n (j := 0) C 21 dX5_refusal_20 rfl rfl ?_
    refine r_get (k := 15) C cl7 24 dX5_refusal_21 rfl kd_209 (by decide) wd_1227 (.int (σ2.1 209 15)) (fun _ => rfl) ?_
    exact r_iret (S := []) C r dX5_refusal_24 (by decide) rfl h
  · have h := h.2 c9
    refine r_aload_n (j := 0) C 13 dX5_refusal_12 rfl rfl ?_
    refine r_iconst C 14 (v := 1) dX5_refusal_13 rfl (by decide) ?_
    refine r_cVI (as := [.int 1]) (S := []) C r.px 17 (ct_X5_raises _ _ _ _ h) dX5_refusal_14 rfl cl7 kd_209 wd_40 wd_1325 rfl wd_1323 wd_1326 wd_95 yd_X5_raises ⟨Nat.le_of_ble_eq_true rfl, Nat.le_of_ble_eq_true rfl⟩ (Nat.le_of_ble_eq_true rfl) (by decide) (fun r14 σ14 h => ?_)
    refine r_goto C 24 dX5_refusal_17 (by decide) ?_
    exact r_iret (S := []) C r dX5_refusal_24 (by decide) rfl h
theorem ct_X5_refusal  (σ : Mem) (K : Int32 → Mem → Prop) (X : String → Mem → Prop) (h : sp_X5_refusal  σ K X) : CtI yX5_refusal cX5_refusal 1 (some .int) 2 0 [.ref 209] σ K X := by
  have h := h
  exact ctI_of (by decide +kernel) (Nat.le_of_ble_eq_true rfl) (fun x C r => sg_X5_refusal_0 C r   σ h)
/-! HeatNetworkModel.refuses(II)I: level 2, exceptions 0 -/
def sp_X5_refuses (p0 : Int32) (p1 : Int32) (σ : Mem) (K : Int32 → Mem → Prop) (X : String → Mem → Prop) : Prop := (∀ σ2 : Mem, σ2 = wi σ 209 15 p0 → sp_X5_raises p1 σ2 (fun r7 σ7 => K r7 σ7) X)
set_option maxRecDepth 4000 in
theorem sg_X5_refuses_0 {x : Ctx} {K : Int32 → Mem → Prop} {X : String → Mem → Prop} (C : Cx x RX5 cX5_refuses 3) (r : RtI x 2 0 (some .int) K X) (p0 : Int32) (p1 : Int32)  (σ : Mem) (h : ∀ σ2 : Mem, σ2 = wi σ 209 15 p0 → sp_X5_raises p1 σ2 (fun r7 σ7 => K r7 σ7) X) : Ws x 0 0 [(0, .ref 209), (1, .int p0), (2, .int p1)] [] σ := by
  refine r_aload_n (j := 0) C 1 dX5_refuses_0 rfl rfl ?_
  refine r_iload_n (j := 1) C 2 dX5_refuses_1 rfl rfl ?_
  refine r_putI (k := 15) C cl7 5 dX5_refuses_2 rfl kd_209 (by decide) wd_1227 rfl rfl rfl rfl ?_
  refine r_nmS (fun σ2 e2 => ?_)
  have h := h σ2 e2
  refine r_aload_n (j := 0) C 6 dX5_refuses_5 rfl rfl ?_
  refine r_iload_n (j := 2) C 7 dX5_refuses_6 rfl rfl ?_
  refine r_cVI (as := [.int p1]) (S := []) C r.px 10 (ct_X5_raises _ _ _ _ h) dX5_refuses_7 rfl cl7 kd_209 wd_40 wd_1325 rfl wd_1323 wd_1326 wd_95 yd_X5_raises ⟨Nat.le_of_ble_eq_true rfl, Nat.le_of_ble_eq_true rfl⟩ (Nat.le_of_ble_eq_true rfl) (by decide) (fun r7 σ7 h => ?_)
  exact r_iret (S := []) C r dX5_refuses_10 (by decide) rfl h
theorem ct_X5_refuses (p0 : Int32) (p1 : Int32) (σ : Mem) (K : Int32 → Mem → Prop) (X : String → Mem → Prop) (h : sp_X5_refuses p0 p1 σ K X) : CtI yX5_refuses cX5_refuses 3 (some .int) 2 0 [.ref 209, .int p0, .int p1] σ K X := by
  have h := h
  exact ctI_of (by decide +kernel) (Nat.le_of_ble_eq_true rfl) (fun x C r => sg_X5_refuses_0 C r p0 p1  σ h)
/-! HeatNetworkModel.setting(I)I: level 2, exceptions 0 -/
def sp_X5_setting (p0 : Int32) (σ : Mem) (K : Int32 → Mem → Prop) (X : String → Mem → Prop) : Prop := (∀ σ2 : Mem, σ2 = wi σ 209 0 0 → sp_X5_in p0 0 6 σ2 (fun r9 σ9 => (r9 = 0 → sp_X5_raises 1 σ9 (fun r26 σ26 => K r26 σ26) X) ∧ (¬ r9 = 0 → (vp_in p0 108) ∧ (K (σ9.1 210 p0.toNatClampNeg) σ9))) X)
set_option maxRecDepth 4000 in
theorem sg_X5_setting_0 {x : Ctx} {K : Int32 → Mem → Prop} {X : String → Mem → Prop} (C : Cx x RX5 cX5_setting 2) (r : RtI x 2 0 (some .int) K X) (p0 : Int32)  (σ : Mem) (h : ∀ σ2 : Mem, σ2 = wi σ 209 0 0 → sp_X5_in p0 0 6 σ2 (fun r9 σ9 => (r9 = 0 → sp_X5_raises 1 σ9 (fun r26 σ26 => K r26 σ26) X) ∧ (¬ r9 = 0 → (vp_in p0 108) ∧ (K (σ9.1 210 p0.toNatClampNeg) σ9))) X) : Ws x 0 0 [(0, .ref 209), (1, .int p0)] [] σ := by
  refine r_aload_n (j := 0) C 1 dX5_setting_0 rfl rfl ?_
  refine r_iconst C 2 (v := 0) dX5_setting_1 rfl (by decide) ?_
  refine r_putI (k := 0) C cl7 5 dX5_setting_2 rfl kd_209 (by decide) wd_1212 rfl rfl rfl rfl ?_
  refine r_nmS (fun σ2 e2 => ?_)
  have h := h σ2 e2
  refine r_iload_n (j := 1) C 6 dX5_setting_5 rfl rfl ?_
  refine r_iconst C 7 (v := 0) dX5_setting_6 rfl (by decide) ?_
  refine r_bipush C 9 (v := 6) dX5_setting_7 rfl (by decide) ?_
  refine r_cSI (b := 0) (as := [.int p0, .int 0, .int 6]) (S := []) C r.px 12 (ct_X5_in _ _ _ _ _ _ h) dX5_setting_9 rfl wd_1321 wd_1320 wd_1322 wd_95 yd_X5_in ⟨Nat.le_of_ble_eq_true rfl, Nat.le_of_ble_eq_true rfl⟩ (Nat.le_of_ble_eq_true rfl) (by decide) (fun r9 σ9 h => ?_)
  refine r_if_eq C 24 15 dX5_setting_12 (by decide) rfl (fun c12 => ?_) (fun c12 => ?_)
  · have h := h.1 c12
    refine r_aload_n (j := 0) C 25 dX5_setting_24 rfl rfl ?_
    refine r_iconst C 26 (v := 1) dX5_setting_25 rfl (by decide) ?_
    refine r_cVI (as := [.int 1]) (S := []) C r.px 29 (ct_X5_raises _ _ _ _ h) dX5_setting_26 rfl cl7 kd_209 wd_40 wd_1325 rfl wd_1323 wd_1326 wd_95 yd_X5_raises ⟨Nat.le_of_ble_eq_true rfl, Nat.le_of_ble_eq_true rfl⟩ (Nat.le_of_ble_eq_true rfl) (by decide) (fun r26 σ26 h => ?_)
    exact r_iret (S := []) C r dX5_setting_29 (by decide) rfl h
  · have h := h.2 c12
    refine r_aload_n (j := 0) C 16 dX5_setting_15 rfl rfl ?_
    refine r_get (k := 1) C cl7 19 dX5_setting_16 rfl kd_209 (by decide) wd_1213 (.ref 210) (fun _ => rfl) ?_
    refine r_iload_n (j := 1) C 20 dX5_setting_19 rfl rfl ?_
    obtain ⟨o20, h⟩ := h
    refine r_iald C 21 dX5_setting_20 rfl kd_210 o20 ?_
    refine r_goto C 29 dX5_setting_21 (by decide) ?_
    exact r_iret (S := []) C r dX5_setting_29 (by decide) rfl h
theorem ct_X5_setting (p0 : Int32) (σ : Mem) (K : Int32 → Mem → Prop) (X : String → Mem → Prop) (h : sp_X5_setting p0 σ K X) : CtI yX5_setting cX5_setting 2 (some .int) 2 0 [.ref 209, .int p0] σ K X := by
  have h := h
  exact ctI_of (by decide +kernel) (Nat.le_of_ble_eq_true rfl) (fun x C r => sg_X5_setting_0 C r p0  σ h)
/-! HeatNetworkModel.takes(I)Z: level 2, exceptions 0 -/
def sp_X5_takes (p0 : Int32) (σ : Mem) (K : Int32 → Mem → Prop) (X : String → Mem → Prop) : Prop := (sp_X5_here  σ (fun r1 σ1 => (r1 = p0 → ∀ σ17 : Mem, σ17 = wi σ1 209 13 ((σ1.1 209 13) + 1) → K 1 σ17) ∧ (¬ r1 = p0 → K 0 σ1)) X)
set_option maxRecDepth 4000 in
theorem sg_X5_takes_0 {x : Ctx} {K : Int32 → Mem → Prop} {X : String → Mem → Prop} (C : Cx x RX5 cX5_takes 2) (r : RtI x 2 0 (some .boolean) K X) (p0 : Int32)  (σ : Mem) (h : sp_X5_here  σ (fun r1 σ1 => (r1 = p0 → ∀ σ17 : Mem, σ17 = wi σ1 209 13 ((σ1.1 209 13) + 1) → K 1 σ17) ∧ (¬ r1 = p0 → K 0 σ1)) X) : Ws x 0 0 [(0, .ref 209), (1, .int p0)] [] σ := by
  refine r_aload_n (j := 0) C 1 dX5_takes_0 rfl rfl ?_
  refine r_cVI (as := []) (S := []) C r.px 4 (ct_X5_here  _ _ _ h) dX5_takes_1 rfl cl7 kd_209 wd_81 wd_1549 rfl wd_1547 wd_1550 wd_95 yd_X5_here ⟨Nat.le_of_ble_eq_true rfl, Nat.le_of_ble_eq_true rfl⟩ (Nat.le_of_ble_eq_true rfl) (by decide) (fun r1 σ1 h => ?_)
  refine r_iload_n (j := 1) C 5 dX5_takes_4 rfl rfl ?_
  refine r_icmp_eq C 10 8 dX5_takes_5 (by decide) rfl (fun c5 => ?_) (fun c5 => ?_)
  · have h := h.1 c5
    refine r_aload_n (j := 0) C 11 dX5_takes_10 rfl rfl ?_
    refine r_dup C 12 dX5_takes_11 rfl rfl ?_
    refine r_get (k := 13) C cl7 15 dX5_takes_12 rfl kd_209 (by decide) wd_1225 (.int (σ1.1 209 13)) (fun _ => rfl) ?_
    refine r_iconst C 16 (v := 1) dX5_takes_15 rfl (by decide) ?_
    refine r_iadd C 17 dX5_takes_16 rfl ?_
    refine r_putI (k := 13) C cl7 20 dX5_takes_17 rfl kd_209 (by decide) wd_1225 rfl rfl rfl rfl ?_
    refine r_nmS (fun σ17 e17 => ?_)
    have h := h σ17 e17
    refine r_iconst C 21 (v := 1) dX5_takes_20 rfl (by decide) ?_
    exact r_iret (S := []) C r dX5_takes_21 (by decide) (by decide) h
  · have h := h.2 c5
    refine r_iconst C 9 (v := 0) dX5_takes_8 rfl (by decide) ?_
    exact r_iret (S := []) C r dX5_takes_9 (by decide) (by decide) h
theorem ct_X5_takes (p0 : Int32) (σ : Mem) (K : Int32 → Mem → Prop) (X : String → Mem → Prop) (h : sp_X5_takes p0 σ K X) : CtI yX5_takes cX5_takes 2 (some .boolean) 2 0 [.ref 209, .int p0] σ K X := by
  have h := h
  exact ctI_of (by decide +kernel) (Nat.le_of_ble_eq_true rfl) (fun x C r => sg_X5_takes_0 C r p0  σ h)
/-! HeatNetworkModel.tariff(I)I: level 2, exceptions 0 -/
def sp_X5_tariff (p0 : Int32) (σ : Mem) (K : Int32 → Mem → Prop) (X : String → Mem → Prop) : Prop := ((vp_in ((48 + (6 * p0)) + 2) 108) ∧ (sp_J9_floorDiv_7cf53 ((σ.1 210 6) * ((σ.1 210 (((48 + (6 * p0)) + 2)).toNatClampNeg) - 400)) 10 σ (fun r35 σ35 => sp_J9_max_7cf53 0 ((σ.1 210 5) + r35) σ35 (fun r39 σ39 => K r39 σ39) X) X))
set_option maxRecDepth 4000 in
theorem sg_X5_tariff_0 {x : Ctx} {K : Int32 → Mem → Prop} {X : String → Mem → Prop} (C : Cx x RX5 cX5_tariff 2) (r : RtI x 2 0 (some .int) K X) (p0 : Int32)  (σ : Mem) (h : (vp_in ((48 + (6 * p0)) + 2) 108) ∧ (sp_J9_floorDiv_7cf53 ((σ.1 210 6) * ((σ.1 210 (((48 + (6 * p0)) + 2)).toNatClampNeg) - 400)) 10 σ (fun r35 σ35 => sp_J9_max_7cf53 0 ((σ.1 210 5) + r35) σ35 (fun r39 σ39 => K r39 σ39) X) X)) : Ws x 0 0 [(0, .ref 209), (1, .int p0)] [] σ := by
  refine r_iconst C 1 (v := 0) dX5_tariff_0 rfl (by decide) ?_
  refine r_aload_n (j := 0) C 2 dX5_tariff_1 rfl rfl ?_
  refine r_get (k := 1) C cl7 5 dX5_tariff_2 rfl kd_209 (by decide) wd_1213 (.ref 210) (fun _ => rfl) ?_
  refine r_iconst C 6 (v := 5) dX5_tariff_5 rfl (by decide) ?_
  refine r_iald C 7 dX5_tariff_6 rfl kd_210 (n_inR (n := 5) (by decide) (by decide)) ?_
  refine r_aload_n (j := 0) C 8 dX5_tariff_7 rfl rfl ?_
  refine r_get (k := 1) C cl7 11 dX5_tariff_8 rfl kd_209 (by decide) wd_1213 (.ref 210) (fun _ => rfl) ?_
  refine r_bipush C 13 (v := 6) dX5_tariff_11 rfl (by decide) ?_
  refine r_iald C 14 dX5_tariff_13 rfl kd_210 (n_inR (n := 6) (by decide) (by decide)) ?_
  refine r_aload_n (j := 0) C 15 dX5_tariff_14 rfl rfl ?_
  refine r_get (k := 1) C cl7 18 dX5_tariff_15 rfl kd_209 (by decide) wd_1213 (.ref 210) (fun _ => rfl) ?_
  refine r_bipush C 20 (v := 48) dX5_tariff_18 rfl (by decide) ?_
  refine r_bipush C 22 (v := 6) dX5_tariff_20 rfl (by decide) ?_
  refine r_iload_n (j := 1) C 23 dX5_tariff_22 rfl rfl ?_
  refine r_imul C 24 dX5_tariff_23 rfl ?_
  refine r_iadd C 25 dX5_tariff_24 rfl ?_
  refine r_iconst C 26 (v := 2) dX5_tariff_25 rfl (by decide) ?_
  refine r_iadd C 27 dX5_tariff_26 rfl ?_
  obtain ⟨o27, h⟩ := h
  refine r_iald C 28 dX5_tariff_27 rfl kd_210 o27 ?_
  refine r_sipush C 31 (v := 400) dX5_tariff_28 rfl (by decide) ?_
  refine r_isub C 32 dX5_tariff_31 rfl ?_
  refine r_imul C 33 dX5_tariff_32 rfl ?_
  refine r_bipush C 35 (v := 10) dX5_tariff_33 rfl (by decide) ?_
  refine r_cSI (b := 0) (as := [.int ((σ.1 210 6) * ((σ.1 210 (((48 + (6 * p0)) + 2)).toNatClampNeg) - 400)), .int 10]) (S := [.int (σ.1 210 5), .int 0]) C r.px 38 (ct_J9_floorDiv_7cf53 _ _ _ _ _ h) dX5_tariff_35 rfl wd_915 wd_1534 wd_916 wd_104 yd_J9_floorDiv_7cf53 ⟨Nat.le_of_ble_eq_true rfl, Nat.le_of_ble_eq_true rfl⟩ (Nat.le_of_ble_eq_true rfl) (by decide) (fun r35 σ35 h => ?_)
  refine r_iadd C 39 dX5_tariff_38 rfl ?_
  refine r_cSI (b := 0) (as := [.int 0, .int ((σ.1 210 5) + r35)]) (S := []) C r.px 42 (ct_J9_max_7cf53 _ _ _ _ _ h) dX5_tariff_39 rfl wd_480 wd_1442 wd_481 wd_104 yd_J9_max_7cf53 ⟨Nat.le_of_ble_eq_true rfl, Nat.le_of_ble_eq_true rfl⟩ (Nat.le_of_ble_eq_true rfl) (by decide) (fun r39 σ39 h => ?_)
  exact r_iret (S := []) C r dX5_tariff_42 (by decide) rfl h
theorem ct_X5_tariff (p0 : Int32) (σ : Mem) (K : Int32 → Mem → Prop) (X : String → Mem → Prop) (h : sp_X5_tariff p0 σ K X) : CtI yX5_tariff cX5_tariff 2 (some .int) 2 0 [.ref 209, .int p0] σ K X := by
  have h := h
  exact ctI_of (by decide +kernel) (Nat.le_of_ble_eq_true rfl) (fun x C r => sg_X5_tariff_0 C r p0  σ h)
/-! HeatNetworkModel.through(II)I: level 2, exceptions 0 -/
def sp_X5_through (p0 : Int32) (p1 : Int32) (σ : Mem) (K : Int32 → Mem → Prop) (X : String → Mem → Prop) : Prop := ((vp_in p0 10) ∧ (sp_J9_abs_0f7a4 (σ.1 228 p0.toNatClampNeg) σ (fun r6 σ6 => ∀ v10 : Int64, v10 = (r6).toInt64 → sp_X5_of p0 2 σ6 (fun r40 σ40 => sp_J9_floorDiv_f86c9 ((((p1 - (σ6.1 210 1))).toInt64 * 100) * v10) ((100 * v10) + ((r40).toInt64 * ((σ40.1 210 3)).toInt64)) σ40 (fun r53 σ53 => K ((σ6.1 210 1) + (r53).toInt32) σ53) X) X) X))
set_option maxRecDepth 4000 in
theorem sg_X5_through_0 {x : Ctx} {K : Int32 → Mem → Prop} {X : String → Mem → Prop} (C : Cx x RX5 cX5_through 5) (r : RtI x 2 0 (some .int) K X) (p0 : Int32) (p1 : Int32)  (σ : Mem) (h : (vp_in p0 10) ∧ (sp_J9_abs_0f7a4 (σ.1 228 p0.toNatClampNeg) σ (fun r6 σ6 => ∀ v10 : Int64, v10 = (r6).toInt64 → sp_X5_of p0 2 σ6 (fun r40 σ40 => sp_J9_floorDiv_f86c9 ((((p1 - (σ6.1 210 1))).toInt64 * 100) * v10) ((100 * v10) + ((r40).toInt64 * ((σ40.1 210 3)).toInt64)) σ40 (fun r53 σ53 => K ((σ6.1 210 1) + (r53).toInt32) σ53) X) X) X)) : Ws x 0 0 [(0, .ref 209), (1, .int p0), (2, .int p1)] [] σ := by
  refine r_aload_n (j := 0) C 1 dX5_through_0 rfl rfl ?_
  refine r_get (k := 26) C cl7 4 dX5_through_1 rfl kd_209 (by decide) wd_1238 (.ref 228) (fun _ => rfl) ?_
  refine r_iload_n (j := 1) C 5 dX5_through_4 rfl rfl ?_
  obtain ⟨o5, h⟩ := h
  refine r_iald C 6 dX5_through_5 rfl kd_228 o5 ?_
  refine r_cSI (b := 0) (as := [.int (σ.1 228 p0.toNatClampNeg)]) (S := []) C r.px 9 (ct_J9_abs_0f7a4 _ _ _ _ h) dX5_through_6 rfl wd_511 wd_1491 wd_512 wd_104 yd_J9_abs_0f7a4 ⟨Nat.le_of_ble_eq_true rfl, Nat.le_of_ble_eq_true rfl⟩ (Nat.le_of_ble_eq_true rfl) (by decide) (fun r6 σ6 h => ?_)
  refine r_i2l C 10 dX5_through_9 rfl ?_
  refine r_nmL (fun v10 e10 => ?_)
  have h := h v10 e10
  refine r_lstore_n C 11 [(3, .long v10), (0, .ref 209), (1, .int p0), (2, .int p1)] dX5_through_10 rfl (by decide) rfl ?_
  refine r_aload_n (j := 1) C 12 dX5_through_11 rfl rfl ?_
  refine r_get (k := 1) C cl7 15 dX5_through_12 rfl kd_209 (by decide) wd_1213 (.ref 210) (fun _ => rfl) ?_
  refine r_iconst C 16 (v := 1) dX5_through_15 rfl (by decide) ?_
  refine r_iald C 17 dX5_through_16 rfl kd_210 (n_inR (n := 1) (by decide) (by decide)) ?_
  refine r_iload_n (j := 3) C 18 dX5_through_17 rfl rfl ?_
  refine r_aload_n (j := 1) C 19 dX5_through_18 rfl rfl ?_
  refine r_get (k := 1) C cl7 22 dX5_through_19 rfl kd_209 (by decide) wd_1213 (.ref 210) (fun _ => rfl) ?_
  refine r_iconst C 23 (v := 1) dX5_through_22 rfl (by decide) ?_
  refine r_iald C 24 dX5_through_23 rfl kd_210 (n_inR (n := 1) (by decide) (by decide)) ?_
  refine r_isub C 25 dX5_through_24 rfl ?_
  refine r_i2l C 26 dX5_through_25 rfl ?_
  refine r_ldc2 C 29 (v := 100) dX5_through_26 rfl wd_1496 ?_
  refine r_lmul C 30 dX5_through_29 rfl ?_
  refine r_lload_n (j := 0) C 31 dX5_through_30 rfl rfl ?_
  refine r_lmul C 32 dX5_through_31 rfl ?_
  refine r_ldc2 C 35 (v := 100) dX5_through_32 rfl wd_1496 ?_
  refine r_lload_n (j := 0) C 36 dX5_through_35 rfl rfl ?_
  refine r_lmul C 37 dX5_through_36 rfl ?_
  refine r_aload_n (j := 1) C 38 dX5_through_37 rfl rfl ?_
  refine r_iload_n (j := 2) C 39 dX5_through_38 rfl rfl ?_
  refine r_iconst C 40 (v := 2) dX5_through_39 rfl (by decide) ?_
  refine r_cVI (as := [.int p0, .int 2]) (S := [.long (100 * v10), .long ((((p1 - (σ6.1 210 1))).toInt64 * 100) * v10), .int (σ6.1 210 1)]) C r.px 43 (ct_X5_of _ _ _ _ _ h) dX5_through_40 rfl cl7 kd_209 wd_47 wd_1368 rfl wd_1366 wd_1369 wd_95 yd_X5_of ⟨Nat.le_of_ble_eq_true rfl, Nat.le_of_ble_eq_true rfl⟩ (Nat.le_of_ble_eq_true rfl) (by decide) (fun r40 σ40 h => ?_)
  refine r_i2l C 44 dX5_through_43 rfl ?_
  refine r_aload_n (j := 1) C 45 dX5_through_44 rfl rfl ?_
  refine r_get (k := 1) C cl7 48 dX5_through_45 rfl kd_209 (by decide) wd_1213 (.ref 210) (fun _ => rfl) ?_
  refine r_iconst C 49 (v := 3) dX5_through_48 rfl (by decide) ?_
  refine r_iald C 50 dX5_through_49 rfl kd_210 (n_inR (n := 3) (by decide) (by decide)) ?_
  refine r_i2l C 51 dX5_through_50 rfl ?_
  refine r_lmul C 52 dX5_through_51 rfl ?_
  refine r_ladd C 53 dX5_through_52 rfl ?_
  refine r_cSL (b := 0) (as := [.long ((((p1 - (σ6.1 210 1))).toInt64 * 100) * v10), .long ((100 * v10) + ((r40).toInt64 * ((σ40.1 210 3)).toInt64))]) (S := [.int (σ6.1 210 1)]) C r.px 56 (ct_J9_floorDiv_f86c9 _ _ _ _ _ h) dX5_through_53 rfl wd_904 wd_1497 wd_905 wd_104 yd_J9_floorDiv_f86c9 ⟨Nat.le_of_ble_eq_true rfl, Nat.le_of_ble_eq_true rfl⟩ (Nat.le_of_ble_eq_true rfl) (by decide) (fun r53 σ53 h => ?_)
  refine r_l2i C 57 dX5_through_56 rfl ?_
  refine r_iadd C 58 dX5_through_57 rfl ?_
  exact r_iret (S := []) C r dX5_through_58 (by decide) rfl h
theorem ct_X5_through (p0 : Int32) (p1 : Int32) (σ : Mem) (K : Int32 → Mem → Prop) (X : String → Mem → Prop) (h : sp_X5_through p0 p1 σ K X) : CtI yX5_through cX5_through 5 (some .int) 2 0 [.ref 209, .int p0, .int p1] σ K X := by
  have h := h
  exact ctI_of (by decide +kernel) (Nat.le_of_ble_eq_true rfl) (fun x C r => sg_X5_through_0 C r p0 p1  σ h)
/-! HeatNetworkModel.to(I)I: level 2, exceptions 0 -/
def sp_X5_to (p0 : Int32) (σ : Mem) (K : Int32 → Mem → Prop) (X : String → Mem → Prop) : Prop := ((vp_in p0 10) ∧ (((σ.1 228 p0.toNatClampNeg) ≤ 0 → (vp_in p0 10) ∧ ((0 ≤ (σ.1 228 p0.toNatClampNeg) → K (-1) σ) ∧ (¬ 0 ≤ (σ.1 228 p0.toNatClampNeg) → sp_X5_of p0 0 σ (fun r30 σ30 => K r30 σ30) X))) ∧ (¬ (σ.1 228 p0.toNatClampNeg) ≤ 0 → sp_X5_of p0 1 σ (fun r12 σ12 => K r12 σ12) X)))
set_option maxRecDepth 4000 in
theorem sg_X5_to_0 {x : Ctx} {K : Int32 → Mem → Prop} {X : String → Mem → Prop} (C : Cx x RX5 cX5_to 2) (r : RtI x 2 0 (some .int) K X) (p0 : Int32)  (σ : Mem) (h : (vp_in p0 10) ∧ (((σ.1 228 p0.toNatClampNeg) ≤ 0 → (vp_in p0 10) ∧ ((0 ≤ (σ.1 228 p0.toNatClampNeg) → K (-1) σ) ∧ (¬ 0 ≤ (σ.1 228 p0.toNatClampNeg) → sp_X5_of p0 0 σ (fun r30 σ30 => K r30 σ30) X))) ∧ (¬ (σ.1 228 p0.toNatClampNeg) ≤ 0 → sp_X5_of p0 1 σ (fun r12 σ12 => K r12 σ12) X))) : Ws x 0 0 [(0, .ref 209), (1, .int p0)] [] σ := by
  refine r_aload_n (j := 0) C 1 dX5_to_0 rfl rfl ?_
  refine r_get (k := 26) C cl7 4 dX5_to_1 rfl kd_209 (by decide) wd_1238 (.ref 228) (fun _ => rfl) ?_
  refine r_iload_n (j := 1) C 5 dX5_to_4 rfl rfl ?_
  obtain ⟨o5, h⟩ := h
  refine r_iald C 6 dX5_to_5 rfl kd_228 o5 ?_
  refine r_if_le C 18 9 dX5_to_6 (by decide) rfl (fun c6 => ?_) (fun c6 => ?_)
  · have h := h.1 c6
    refine r_aload_n (j := 0) C 19 dX5_to_18 rfl rfl ?_
    refine r_get (k := 26) C cl7 22 dX5_to_19 rfl kd_209 (by decide) wd_1238 (.ref 228) (fun _ => rfl) ?_
    refine r_iload_n (j := 1) C 23 dX5_to_22 rfl rfl ?_
    obtain ⟨o23, h⟩ := h
    refine r_iald C 24 dX5_to_23 rfl kd_228 o23 ?_
    refine r_if_ge C 36 27 dX5_to_24 (by decide) rfl (fun c24 => ?_) (fun c24 => ?_)
    · have h := h.1 c24
      refine r_iconst C 37 (v := (-1)) dX5_to_36 rfl (by decide) ?_
      exact r_iret (S := []) C r dX5_to_37 (by decide) rfl h
    · have h := h.2 c24
      refine r_aload_n (j := 0) C 28 dX5_to_27 rfl rfl ?_
      refine r_iload_n (j := 1) C 29 dX5_to_28 rfl rfl ?_
      refine r_iconst C 30 (v := 0) dX5_to_29 rfl (by decide) ?_
      refine r_cVI (as := [.int p0, .int 0]) (S := []) C r.px 33 (ct_X5_of _ _ _ _ _ h) dX5_to_30 rfl cl7 kd_209 wd_47 wd_1368 rfl wd_1366 wd_1369 wd_95 yd_X5_of ⟨Nat.le_of_ble_eq_true rfl, Nat.le_of_ble_eq_true rfl⟩ (Nat.le_of_ble_eq_true rfl) (by decide) (fun r30 σ30 h => ?_)
      refine r_goto C 37 dX5_to_33 (by decide) ?_
      exact r_iret (S := []) C r dX5_to_37 (by decide) rfl h
  · have h := h.2 c6
    refine r_aload_n (j := 0) C 10 dX5_to_9 rfl rfl ?_
    refine r_iload_n (j := 1) C 11 dX5_to_10 rfl rfl ?_
    refine r_iconst C 12 (v := 1) dX5_to_11 rfl (by decide) ?_
    refine r_cVI (as := [.int p0, .int 1]) (S := []) C r.px 15 (ct_X5_of _ _ _ _ _ h) dX5_to_12 rfl cl7 kd_209 wd_47 wd_1368 rfl wd_1366 wd_1369 wd_95 yd_X5_of ⟨Nat.le_of_ble_eq_true rfl, Nat.le_of_ble_eq_true rfl⟩ (Nat.le_of_ble_eq_true rfl) (by decide) (fun r12 σ12 h => ?_)
    refine r_goto C 37 dX5_to_15 (by decide) ?_
    exact r_iret (S := []) C r dX5_to_37 (by decide) rfl h
theorem ct_X5_to (p0 : Int32) (σ : Mem) (K : Int32 → Mem → Prop) (X : String → Mem → Prop) (h : sp_X5_to p0 σ K X) : CtI yX5_to cX5_to 2 (some .int) 2 0 [.ref 209, .int p0] σ K X := by
  have h := h
  exact ctI_of (by decide +kernel) (Nat.le_of_ble_eq_true rfl) (fun x C r => sg_X5_to_0 C r p0  σ h)
/-! HeatNetworkModel.wants(I)I: level 2, exceptions 0 -/
def sp_X5_wants (p0 : Int32) (σ : Mem) (K : Int32 → Mem → Prop) (X : String → Mem → Prop) : Prop := ((vp_in ((48 + (6 * p0)) + 1) 108) ∧ (sp_J9_max_7cf53 0 (200 - (σ.1 210 2)) σ (fun r25 σ25 => K ((σ.1 210 (((48 + (6 * p0)) + 1)).toNatClampNeg) * r25) σ25) X))
set_option maxRecDepth 4000 in
theorem sg_X5_wants_0 {x : Ctx} {K : Int32 → Mem → Prop} {X : String → Mem → Prop} (C : Cx x RX5 cX5_wants 2) (r : RtI x 2 0 (some .int) K X) (p0 : Int32)  (σ : Mem) (h : (vp_in ((48 + (6 * p0)) + 1) 108) ∧ (sp_J9_max_7cf53 0 (200 - (σ.1 210 2)) σ (fun r25 σ25 => K ((σ.1 210 (((48 + (6 * p0)) + 1)).toNatClampNeg) * r25) σ25) X)) : Ws x 0 0 [(0, .ref 209), (1, .int p0)] [] σ := by
  refine r_aload_n (j := 0) C 1 dX5_wants_0 rfl rfl ?_
  refine r_get (k := 1) C cl7 4 dX5_wants_1 rfl kd_209 (by decide) wd_1213 (.ref 210) (fun _ => rfl) ?_
  refine r_bipush C 6 (v := 48) dX5_wants_4 rfl (by decide) ?_
  refine r_bipush C 8 (v := 6) dX5_wants_6 rfl (by decide) ?_
  refine r_iload_n (j := 1) C 9 dX5_wants_8 rfl rfl ?_
  refine r_imul C 10 dX5_wants_9 rfl ?_
  refine r_iadd C 11 dX5_wants_10 rfl ?_
  refine r_iconst C 12 (v := 1) dX5_wants_11 rfl (by decide) ?_
  refine r_iadd C 13 dX5_wants_12 rfl ?_
  obtain ⟨o13, h⟩ := h
  refine r_iald C 14 dX5_wants_13 rfl kd_210 o13 ?_
  refine r_iconst C 15 (v := 0) dX5_wants_14 rfl (by decide) ?_
  refine r_sipush C 18 (v := 200) dX5_wants_15 rfl (by decide) ?_
  refine r_aload_n (j := 0) C 19 dX5_wants_18 rfl rfl ?_
  refine r_get (k := 1) C cl7 22 dX5_wants_19 rfl kd_209 (by decide) wd_1213 (.ref 210) (fun _ => rfl) ?_
  refine r_iconst C 23 (v := 2) dX5_wants_22 rfl (by decide) ?_
  refine r_iald C 24 dX5_wants_23 rfl kd_210 (n_inR (n := 2) (by decide) (by decide)) ?_
  refine r_isub C 25 dX5_wants_24 rfl ?_
  refine r_cSI (b := 0) (as := [.int 0, .int (200 - (σ.1 210 2))]) (S := [.int (σ.1 210 (((48 + (6 * p0)) + 1)).toNatClampNeg)]) C r.px 28 (ct_J9_max_7cf53 _ _ _ _ _ h) dX5_wants_25 rfl wd_480 wd_1442 wd_481 wd_104 yd_J9_max_7cf53 ⟨Nat.le_of_ble_eq_true rfl, Nat.le_of_ble_eq_true rfl⟩ (Nat.le_of_ble_eq_true rfl) (by decide) (fun r25 σ25 h => ?_)
  refine r_imul C 29 dX5_wants_28 rfl ?_
  exact r_iret (S := []) C r dX5_wants_29 (by decide) rfl h
theorem ct_X5_wants (p0 : Int32) (σ : Mem) (K : Int32 → Mem → Prop) (X : String → Mem → Prop) (h : sp_X5_wants p0 σ K X) : CtI yX5_wants cX5_wants 2 (some .int) 2 0 [.ref 209, .int p0] σ K X := by
  have h := h
  exact ctI_of (by decide +kernel) (Nat.le_of_ble_eq_true rfl) (fun x C r => sg_X5_wants_0 C r p0  σ h)
/-! HeatNetwork$Network.hasStation(I)Z: level 3, exceptions 0 -/
def sp_X0_hasStation (a : Nat) (p0 : Int32) (σ : Mem) (K : Int32 → Mem → Prop) (X : String → Mem → Prop) : Prop := (NetA a) ∧ (sp_X4_isNode p0 σ (fun r1 σ1 => (r1 = 0 → K 0 σ1) ∧ (¬ r1 = 0 → (vp_in p0 10) ∧ (((σ1.1 (a + 6) p0.toNatClampNeg) ≤ 0 → K 0 σ1) ∧ (¬ (σ1.1 (a + 6) p0.toNatClampNeg) ≤ 0 → K 1 σ1)))) X)
set_option maxRecDepth 4000 in
theorem sg_X0_hasStation_0 {x : Ctx} {K : Int32 → Mem → Prop} {X : String → Mem → Prop} (C : Cx x RX0 cX0_hasStation 2) (r : RtI x 3 0 (some .boolean) K X) (a : Nat) (p0 : Int32) (ha : NetA a) (σ : Mem) (h : sp_X4_isNode p0 σ (fun r1 σ1 => (r1 = 0 → K 0 σ1) ∧ (¬ r1 = 0 → (vp_in p0 10) ∧ (((σ1.1 (a + 6) p0.toNatClampNeg) ≤ 0 → K 0 σ1) ∧ (¬ (σ1.1 (a + 6) p0.toNatClampNeg) ≤ 0 → K 1 σ1)))) X) : Ws x 0 0 [(0, .ref a), (1, .int p0)] [] σ := by
  refine r_iload_n (j := 1) C 1 dX0_hasStation_0 rfl rfl ?_
  refine r_cNI (b := 0) (as := [.int p0]) (S := []) C r.px 4 (ct_X4_isNode _ _ _ _ h) dX0_hasStation_1 rfl wd_429 (nbd_470) wd_430 wd_90 yd_X4_isNode ⟨Nat.le_of_ble_eq_true rfl, Nat.le_of_ble_eq_true rfl⟩ (Nat.le_of_ble_eq_true rfl) (by decide) (fun r1 σ1 h => ?_)
  refine r_if_eq C 20 7 dX0_hasStation_4 (by decide) rfl (fun c4 => ?_) (fun c4 => ?_)
  · have h := h.1 c4
    refine r_iconst C 21 (v := 0) dX0_hasStation_20 rfl (by decide) ?_
    exact r_iret (S := []) C r dX0_hasStation_21 (by decide) (by decide) h
  · have h := h.2 c4
    refine r_aload_n (j := 0) C 8 dX0_hasStation_7 rfl rfl ?_
    refine r_get (k := 6) C cl2 11 dX0_hasStation_8 rfl (net0 ha) (by decide) wd_152 (.ref (a + 6)) (fun _ => rfl) ?_
    refine r_iload_n (j := 1) C 12 dX0_hasStation_11 rfl rfl ?_
    obtain ⟨o12, h⟩ := h
    refine r_iald C 13 dX0_hasStation_12 rfl (net6 ha) o12 ?_
    refine r_if_le C 20 16 dX0_hasStation_13 (by decide) rfl (fun c13 => ?_) (fun c13 => ?_)
    · have h := h.1 c13
      refine r_iconst C 21 (v := 0) dX0_hasStation_20 rfl (by decide) ?_
      exact r_iret (S := []) C r dX0_hasStation_21 (by decide) (by decide) h
    · have h := h.2 c13
      refine r_iconst C 17 (v := 1) dX0_hasStation_16 rfl (by decide) ?_
      refine r_goto C 21 dX0_hasStation_17 (by decide) ?_
      exact r_iret (S := []) C r dX0_hasStation_21 (by decide) (by decide) h
theorem ct_X0_hasStation (a : Nat) (p0 : Int32) (σ : Mem) (K : Int32 → Mem → Prop) (X : String → Mem → Prop) (h : sp_X0_hasStation a p0 σ K X) : CtI yX0_hasStation cX0_hasStation 2 (some .boolean) 3 0 [.ref a, .int p0] σ K X := by
  obtain ⟨ha, h⟩ := h
  exact ctI_of (by decide +kernel) (Nat.le_of_ble_eq_true rfl) (fun x C r => sg_X0_hasStation_0 C r a p0 ha σ h)
/-! HeatNetwork$Network.paymentFor(IJ)J: level 3, exceptions 0 -/
def sp_X0_paymentFor (a : Nat) (p0 : Int32) (p1 : Int64) (σ : Mem) (K : Int64 → Mem → Prop) (X : String → Mem → Prop) : Prop := (NetA a) ∧ (sp_X0_tariffOf a p0 σ (fun r3 σ3 => sp_J9_floorDiv_f86c9 (p1 * (r3).toInt64) 1000 σ3 (fun r11 σ11 => K r11 σ11) X) X)
set_option maxRecDepth 4000 in
theorem sg_X0_paymentFor_0 {x : Ctx} {K : Int64 → Mem → Prop} {X : String → Mem → Prop} (C : Cx x RX0 cX0_paymentFor 4) (r : RtL x 3 0 (some .long) K X) (a : Nat) (p0 : Int32) (p1 : Int64) (ha : NetA a) (σ : Mem) (h : sp_X0_tariffOf a p0 σ (fun r3 σ3 => sp_J9_floorDiv_f86c9 (p1 * (r3).toInt64) 1000 σ3 (fun r11 σ11 => K r11 σ11) X) X) : Ws x 0 0 [(0, .ref a), (1, .int p0), (2, .long p1)] [] σ := by
  refine r_lload_n (j := 2) C 1 dX0_paymentFor_0 rfl rfl ?_
  refine r_aload_n (j := 0) C 2 dX0_paymentFor_1 rfl rfl ?_
  refine r_iload_n (j := 1) C 3 dX0_paymentFor_2 rfl rfl ?_
  refine r_cVI (as := [.int p0]) (S := [.long p1]) C r.px 6 (ct_X0_tariffOf _ _ _ _ _ h) dX0_paymentFor_3 rfl cl2 (net0 ha) wd_912 wd_911 rfl wd_910 wd_913 wd_91 yd_X0_tariffOf ⟨Nat.le_of_ble_eq_true rfl, Nat.le_of_ble_eq_true rfl⟩ (Nat.le_of_ble_eq_true rfl) (by decide) (fun r3 σ3 h => ?_)
  refine r_i2l C 7 dX0_paymentFor_6 rfl ?_
  refine r_lmul C 8 dX0_paymentFor_7 rfl ?_
  refine r_ldc2 C 11 (v := 1000) dX0_paymentFor_8 rfl wd_902 ?_
  refine r_cSL (b := 0) (as := [.long (p1 * (r3).toInt64), .long 1000]) (S := []) C r.px 14 (ct_J9_floorDiv_f86c9 _ _ _ _ _ h) dX0_paymentFor_11 rfl wd_904 wd_903 wd_905 wd_104 yd_J9_floorDiv_f86c9 ⟨Nat.le_of_ble_eq_true rfl, Nat.le_of_ble_eq_true rfl⟩ (Nat.le_of_ble_eq_true rfl) (by decide) (fun r11 σ11 h => ?_)
  exact r_lret (S := []) C r dX0_paymentFor_14 (by decide) h
theorem ct_X0_paymentFor (a : Nat) (p0 : Int32) (p1 : Int64) (σ : Mem) (K : Int64 → Mem → Prop) (X : String → Mem → Prop) (h : sp_X0_paymentFor a p0 p1 σ K X) : CtL yX0_paymentFor cX0_paymentFor 4 (some .long) 3 0 [.ref a, .int p0, .long p1] σ K X := by
  obtain ⟨ha, h⟩ := h
  exact ctL_of (by decide +kernel) (Nat.le_of_ble_eq_true rfl) (fun x C r => sg_X0_paymentFor_0 C r a p0 p1 ha σ h)
/-! HeatNetwork$State.bring(LHeatNetwork$Network;II)J: level 3, exceptions 0 -/
def sp_X2_bring (t : Nat) (a : Nat) (p1 : Int32) (p2 : Int32) (σ : Mem) (K : Int64 → Mem → Prop) (X : String → Mem → Prop) : Prop := (StaA t) ∧ (NetA a) ∧ (sp_X2_flowTo t a p1 p2 σ (fun r4 σ4 => (¬ r4 = 0 → sp_X0_farEnd a p1 p2 σ4 (fun r21 σ21 => sp_X4_isNode r21 σ21 (fun r28 σ28 => (¬ r28 = 0 → (vp_in r21 10) ∧ (∀ v43 : Int32, v43 = (σ28.1 (t + 6) r21.toNatClampNeg) → sp_X0_cooled a p1 r4 v43 σ28 (fun r51 σ51 => (vp_in p1 10) ∧ (∀ σ71 : Mem, σ71 = wl σ51 (t + 11) p1.toNatClampNeg ((r4).toInt64 * ((v43 - r51)).toInt64) → K ((r4).toInt64 * (r51).toInt64) σ71)) X)) ∧ (r28 = 0 → K 0 σ28)) X) X) ∧ (r4 = 0 → sp_X4_isNode (-1) σ4 (fun r28 σ28 => (¬ r28 = 0 → (vp_in (-1 : Int32) 10) ∧ (∀ v43 : Int32, v43 = (σ28.1 (t + 6) ((-1 : Int32)).toNatClampNeg) → sp_X0_cooled a p1 r4 v43 σ28 (fun r51 σ51 => (vp_in p1 10) ∧ (∀ σ71 : Mem, σ71 = wl σ51 (t + 11) p1.toNatClampNeg ((r4).toInt64 * ((v43 - r51)).toInt64) → K ((r4).toInt64 * (r51).toInt64) σ71)) X)) ∧ (r28 = 0 → K 0 σ28)) X)) X)
set_option maxRecDepth 4000 in
theorem sg_X2_bring_0 {x : Ctx} {K : Int64 → Mem → Prop} {X : String → Mem → Prop} (C : Cx x RX2 cX2_bring 8) (r : RtL x 3 0 (some .long) K X) (t : Nat) (a : Nat) (p1 : Int32) (p2 : Int32) (ht : StaA t) (ha : NetA a) (σ : Mem) (h : sp_X2_flowTo t a p1 p2 σ (fun r4 σ4 => (¬ r4 = 0 → sp_X0_farEnd a p1 p2 σ4 (fun r21 σ21 => sp_X4_isNode r21 σ21 (fun r28 σ28 => (¬ r28 = 0 → (vp_in r21 10) ∧ (∀ v43 : Int32, v43 = (σ28.1 (t + 6) r21.toNatClampNeg) → sp_X0_cooled a p1 r4 v43 σ28 (fun r51 σ51 => (vp_in p1 10) ∧ (∀ σ71 : Mem, σ71 = wl σ51 (t + 11) p1.toNatClampNeg ((r4).toInt64 * ((v43 - r51)).toInt64) → K ((r4).toInt64 * (r51).toInt64) σ71)) X)) ∧ (r28 = 0 → K 0 σ28)) X) X) ∧ (r4 = 0 → sp_X4_isNode (-1) σ4 (fun r28 σ28 => (¬ r28 = 0 → (vp_in (-1 : Int32) 10) ∧ (∀ v43 : Int32, v43 = (σ28.1 (t + 6) ((-1 : Int32)).toNatClampNeg) → sp_X0_cooled a p1 r4 v43 σ28 (fun r51 σ51 => (vp_in p1 10) ∧ (∀ σ71 : Mem, σ71 = wl σ51 (t + 11) p1.toNatClampNeg ((r4).toInt64 * ((v43 - r51)).toInt64) → K ((r4).toInt64 * (r51).toInt64) σ71)) X)) ∧ (r28 = 0 → K 0 σ28)) X)) X) : Ws x 0 0 [(0, .ref t), (1, .ref a), (2, .int p1), (3, .int p2)] [] σ := by
  refine r_aload_n (j := 0) C 1 dX2_bring_0 rfl rfl ?_
  refine r_aload_n (j := 1) C 2 dX2_bring_1 rfl rfl ?_
  refine r_iload_n (j := 2) C 3 dX2_bring_2 rfl rfl ?_
  refine r_iload_n (j := 3) C 4 dX2_bring_3 rfl rfl ?_
  refine r_cVI (as := [.ref a, .int p1, .int p2]) (S := []) C r.px 7 (ct_X2_flowTo _ _ _ _ _ _ _ h) dX2_bring_4 rfl cl4 (sta0 ht) wd_18 wd_542 rfl wd_540 wd_543 wd_93 yd_X2_flowTo ⟨Nat.le_of_ble_eq_true rfl, Nat.le_of_ble_eq_true rfl⟩ (Nat.le_of_ble_eq_true rfl) (by decide) (fun r4 σ4 h => ?_)
  refine r_istore C 9 [(4, .int r4), (0, .ref t), (1, .ref a), (2, .int p1), (3, .int p2)] dX2_bring_7 rfl (by decide) rfl ?_
  refine r_iload (j := 0) C 11 dX2_bring_9 rfl rfl ?_
  refine r_if_ne C 18 14 dX2_bring_11 (by decide) rfl (fun c11 => ?_) (fun c11 => ?_)
  · have h := h.1 c11
    refine r_aload_n (j := 2) C 19 dX2_bring_18 rfl rfl ?_
    refine r_iload_n (j := 3) C 20 dX2_bring_19 rfl rfl ?_
    refine r_iload_n (j := 4) C 21 dX2_bring_20 rfl rfl ?_
    refine r_cVI (as := [.int p1, .int p2]) (S := []) C r.px 24 (ct_X0_farEnd _ _ _ _ _ _ h) dX2_bring_21 rfl cl2 (net0 ha) wd_426 wd_425 rfl wd_545 wd_427 wd_91 yd_X0_farEnd ⟨Nat.le_of_ble_eq_true rfl, Nat.le_of_ble_eq_true rfl⟩ (Nat.le_of_ble_eq_true rfl) (by decide) (fun r21 σ21 h => ?_)
    refine r_istore C 26 [(5, .int r21), (4, .int r4), (0, .ref t), (1, .ref a), (2, .int p1), (3, .int p2)] dX2_bring_24 rfl (by decide) rfl ?_
    refine r_iload (j := 0) C 28 dX2_bring_26 rfl rfl ?_
    refine r_cNI (b := 0) (as := [.int r21]) (S := []) C r.px 31 (ct_X4_isNode _ _ _ _ h) dX2_bring_28 rfl wd_429 (nbd_492) wd_430 wd_90 yd_X4_isNode ⟨Nat.le_of_ble_eq_true rfl, Nat.le_of_ble_eq_true rfl⟩ (Nat.le_of_ble_eq_true rfl) (by decide) (fun r28 σ28 h => ?_)
    refine r_if_ne C 36 34 dX2_bring_31 (by decide) rfl (fun c31 => ?_) (fun c31 => ?_)
    · have h := h.1 c31
      refine r_aload_n (j := 2) C 37 dX2_bring_36 rfl rfl ?_
      refine r_get (k := 5) C cl4 40 dX2_bring_37 rfl (sta0 ht) (by decide) wd_283 (.ref (t + 6)) (fun _ => rfl) ?_
      refine r_iload (j := 0) C 42 dX2_bring_40 rfl rfl ?_
      obtain ⟨o42, h⟩ := h
      refine r_iald C 43 dX2_bring_42 rfl (sta6 ht) o42 ?_
      refine r_nmI (fun v43 e43 => ?_)
      have h := h v43 e43
      refine r_istore C 45 [(6, .int v43), (5, .int r21), (4, .int r4), (0, .ref t), (1, .ref a), (2, .int p1), (3, .int p2)] dX2_bring_43 rfl (by decide) rfl ?_
      refine r_aload_n (j := 4) C 46 dX2_bring_45 rfl rfl ?_
      refine r_iload_n (j := 5) C 47 dX2_bring_46 rfl rfl ?_
      refine r_iload (j := 2) C 49 dX2_bring_47 rfl rfl ?_
      refine r_iload (j := 0) C 51 dX2_bring_49 rfl rfl ?_
      refine r_cVI (as := [.int p1, .int r4, .int v43]) (S := []) C r.px 54 (ct_X0_cooled _ _ _ _ _ _ _ h) dX2_bring_51 rfl cl2 (net0 ha) wd_548 wd_547 rfl wd_546 wd_549 wd_91 yd_X0_cooled ⟨Nat.le_of_ble_eq_true rfl, Nat.le_of_ble_eq_true rfl⟩ (Nat.le_of_ble_eq_true rfl) (by decide) (fun r51 σ51 h => ?_)
      refine r_istore C 56 [(7, .int r51), (6, .int v43), (5, .int r21), (4, .int r4), (0, .ref t), (1, .ref a), (2, .int p1), (3, .int p2)] dX2_bring_54 rfl (by decide) rfl ?_
      refine r_aload_n (j := 4) C 57 dX2_bring_56 rfl rfl ?_
      refine r_get (k := 10) C cl4 60 dX2_bring_57 rfl (sta0 ht) (by decide) wd_291 (.ref (t + 11)) (fun _ => rfl) ?_
      refine r_iload_n (j := 6) C 61 dX2_bring_60 rfl rfl ?_
      refine r_iload (j := 3) C 63 dX2_bring_61 rfl rfl ?_
      refine r_i2l C 64 dX2_bring_63 rfl ?_
      refine r_iload (j := 1) C 66 dX2_bring_64 rfl rfl ?_
      refine r_iload (j := 0) C 68 dX2_bring_66 rfl rfl ?_
      refine r_isub C 69 dX2_bring_68 rfl ?_
      refine r_i2l C 70 dX2_bring_69 rfl ?_
      refine r_lmul C 71 dX2_bring_70 rfl ?_
      obtain ⟨o71, h⟩ := h
      refine r_last C 72 dX2_bring_71 rfl (sta11 ht) o71 ?_
      refine r_nmS (fun σ71 e71 => ?_)
      have h := h σ71 e71
      refine r_iload (j := 3) C 74 dX2_bring_72 rfl rfl ?_
      refine r_i2l C 75 dX2_bring_74 rfl ?_
      refine r_iload (j := 0) C 77 dX2_bring_75 rfl rfl ?_
      refine r_i2l C 78 dX2_bring_77 rfl ?_
      refine r_lmul C 79 dX2_bring_78 rfl ?_
      exact r_lret (S := []) C r dX2_bring_79 (by decide) h
    · have h := h.2 c31
      refine r_lconst C 35 (v := 0) dX2_bring_34 rfl rfl ?_
      exact r_lret (S := []) C r dX2_bring_35 (by decide) h
  · have h := h.2 c11
    refine r_iconst C 15 (v := (-1)) dX2_bring_14 rfl (by decide) ?_
    refine r_goto C 24 dX2_bring_15 (by decide) ?_
    refine r_istore C 26 [(5, .int (-1)), (4, .int r4), (0, .ref t), (1, .ref a), (2, .int p1), (3, .int p2)] dX2_bring_24 rfl (by decide) rfl ?_
    refine r_iload (j := 0) C 28 dX2_bring_26 rfl rfl ?_
    refine r_cNI (b := 0) (as := [.int (-1)]) (S := []) C r.px 31 (ct_X4_isNode _ _ _ _ h) dX2_bring_28 rfl wd_429 (nbd_492) wd_430 wd_90 yd_X4_isNode ⟨Nat.le_of_ble_eq_true rfl, Nat.le_of_ble_eq_true rfl⟩ (Nat.le_of_ble_eq_true rfl) (by decide) (fun r28 σ28 h => ?_)
    refine r_if_ne C 36 34 dX2_bring_31 (by decide) rfl (fun c31 => ?_) (fun c31 => ?_)
    · have h := h.1 c31
      refine r_aload_n (j := 2) C 37 dX2_bring_36 rfl rfl ?_
      refine r_get (k := 5) C cl4 40 dX2_bring_37 rfl (sta0 ht) (by decide) wd_283 (.ref (t + 6)) (fun _ => rfl) ?_
      refine r_iload (j := 0) C 42 dX2_bring_40 rfl rfl ?_
      obtain ⟨o42, h⟩ := h
      refine r_iald C 43 dX2_bring_42 rfl (sta6 ht) o42 ?_
      refine r_nmI (fun v43 e43 => ?_)
      have h := h v43 e43
      refine r_istore C 45 [(6, .int v43), (5, .int (-1)), (4, .int r4), (0, .ref t), (1, .ref a), (2, .int p1), (3, .int p2)] dX2_bring_43 rfl (by decide) rfl ?_
      refine r_aload_n (j := 4) C 46 dX2_bring_45 rfl rfl ?_
      refine r_iload_n (j := 5) C 47 dX2_bring_46 rfl rfl ?_
      refine r_iload (j := 2) C 49 dX2_bring_47 rfl rfl ?_
      refine r_iload (j := 0) C 51 dX2_bring_49 rfl rfl ?_
      refine r_cVI (as := [.int p1, .int r4, .int v43]) (S := []) C r.px 54 (ct_X0_cooled _ _ _ _ _ _ _ h) dX2_bring_51 rfl cl2 (net0 ha) wd_548 wd_547 rfl wd_546 wd_549 wd_91 yd_X0_cooled ⟨Nat.le_of_ble_eq_true rfl, Nat.le_of_ble_eq_true rfl⟩ (Nat.le_of_ble_eq_true rfl) (by decide) (fun r51 σ51 h => ?_)
      refine r_istore C 56 [(7, .int r51), (6, .int v43), (5, .int (-1)), (4, .int r4), (0, .ref t), (1, .ref a), (2, .int p1), (3, .int p2)] dX2_bring_54 rfl (by decide) rfl ?_
      refine r_aload_n (j := 4) C 57 dX2_bring_56 rfl rfl ?_
      refine r_get (k := 10) C cl4 60 dX2_bring_57 rfl (sta0 ht) (by decide) wd_291 (.ref (t + 11)) (fun _ => rfl) ?_
      refine r_iload_n (j := 6) C 61 dX2_bring_60 rfl rfl ?_
      refine r_iload (j := 3) C 63 dX2_bring_61 rfl rfl ?_
      refine r_i2l C 64 dX2_bring_63 rfl ?_
      refine r_iload (j := 1) C 66 dX2_bring_64 rfl rfl ?_
      refine r_iload (j := 0) C 68 dX2_bring_66 rfl rfl ?_
      refine r_isub C 69 dX2_bring_68 rfl ?_
      refine r_i2l C 70 dX2_bring_69 rfl ?_
      refine r_lmul C 71 dX2_bring_70 rfl ?_
      obtain ⟨o71, h⟩ := h
      refine r_last C 72 dX2_bring_71 rfl (sta11 ht) o71 ?_
      refine r_nmS (fun σ71 e71 => ?_)
      have h := h σ71 e71
      refine r_iload (j := 3) C 74 dX2_bring_72 rfl rfl ?_
      refine r_i2l C 75 dX2_bring_74 rfl ?_
      refine r_iload (j := 0) C 77 dX2_bring_75 rfl rfl ?_
      refine r_i2l C 78 dX2_bring_77 rfl ?_
      refine r_lmul C 79 dX2_bring_78 rfl ?_
      exact r_lret (S := []) C r dX2_bring_79 (by decide) h
    · have h := h.2 c31
      refine r_lconst C 35 (v := 0) dX2_bring_34 rfl rfl ?_
      exact r_lret (S := []) C r dX2_bring_35 (by decide) h
theorem ct_X2_bring (t : Nat) (a : Nat) (p1 : Int32) (p2 : Int32) (σ : Mem) (K : Int64 → Mem → Prop) (X : String → Mem → Prop) (h : sp_X2_bring t a p1 p2 σ K X) : CtL yX2_bring cX2_bring 8 (some .long) 3 0 [.ref t, .ref a, .int p1, .int p2] σ K X := by
  obtain ⟨ht, ha, h⟩ := h
  exact ctL_of (by decide +kernel) (Nat.le_of_ble_eq_true rfl) (fun x C r => sg_X2_bring_0 C r t a p1 p2 ht ha σ h)
/-! HeatNetwork$State.drawnFlow(LHeatNetwork$Network;I)I: level 3, exceptions 0 -/
def sp_X2_drawnFlow (t : Nat) (a : Nat) (p1 : Int32) (σ : Mem) (K : Int32 → Mem → Prop) (X : String → Mem → Prop) : Prop := (StaA t) ∧ (NetA a) ∧ ((vp_in p1 10) ∧ ((vp_in p1 10) ∧ (∀ v13 : Int32, v13 = ((σ.1 (t + 6) p1.toNatClampNeg) - (σ.1 (a + 7) p1.toNatClampNeg)) → (50 ≤ v13 → sp_X0_wantedHeat a p1 σ (fun r24 σ24 => (¬ v13 = (0 : Int32)) ∧ (∀ v33 : Int32, v33 = (((r24 + v13) - 1) / v13) → (vp_in p1 10) ∧ (sp_J9_min_7cf53 v33 (σ24.1 (a + 8) p1.toNatClampNeg) σ24 (fun r43 σ43 => K r43 σ43) X))) X) ∧ (¬ 50 ≤ v13 → K 0 σ))))
set_option maxRecDepth 4000 in
theorem sg_X2_drawnFlow_0 {x : Ctx} {K : Int32 → Mem → Prop} {X : String → Mem → Prop} (C : Cx x RX2 cX2_drawnFlow 5) (r : RtI x 3 0 (some .int) K X) (t : Nat) (a : Nat) (p1 : Int32) (ht : StaA t) (ha : NetA a) (σ : Mem) (h : (vp_in p1 10) ∧ ((vp_in p1 10) ∧ (∀ v13 : Int32, v13 = ((σ.1 (t + 6) p1.toNatClampNeg) - (σ.1 (a + 7) p1.toNatClampNeg)) → (50 ≤ v13 → sp_X0_wantedHeat a p1 σ (fun r24 σ24 => (¬ v13 = (0 : Int32)) ∧ (∀ v33 : Int32, v33 = (((r24 + v13) - 1) / v13) → (vp_in p1 10) ∧ (sp_J9_min_7cf53 v33 (σ24.1 (a + 8) p1.toNatClampNeg) σ24 (fun r43 σ43 => K r43 σ43) X))) X) ∧ (¬ 50 ≤ v13 → K 0 σ)))) : Ws x 0 0 [(0, .ref t), (1, .ref a), (2, .int p1)] [] σ := by
  refine r_aload_n (j := 0) C 1 dX2_drawnFlow_0 rfl rfl ?_
  refine r_get (k := 5) C cl4 4 dX2_drawnFlow_1 rfl (sta0 ht) (by decide) wd_283 (.ref (t + 6)) (fun _ => rfl) ?_
  refine r_iload_n (j := 2) C 5 dX2_drawnFlow_4 rfl rfl ?_
  obtain ⟨o5, h⟩ := h
  refine r_iald C 6 dX2_drawnFlow_5 rfl (sta6 ht) o5 ?_
  refine r_aload_n (j := 1) C 7 dX2_drawnFlow_6 rfl rfl ?_
  refine r_get (k := 7) C cl2 10 dX2_drawnFlow_7 rfl (net0 ha) (by decide) wd_155 (.ref (a + 7)) (fun _ => rfl) ?_
  refine r_iload_n (j := 2) C 11 dX2_drawnFlow_10 rfl rfl ?_
  obtain ⟨o11, h⟩ := h
  refine r_iald C 12 dX2_drawnFlow_11 rfl (net7 ha) o11 ?_
  refine r_isub C 13 dX2_drawnFlow_12 rfl ?_
  refine r_nmI (fun v13 e13 => ?_)
  have h := h v13 e13
  refine r_istore_n C 14 [(3, .int v13), (0, .ref t), (1, .ref a), (2, .int p1)] dX2_drawnFlow_13 rfl (by decide) rfl ?_
  refine r_iload_n (j := 0) C 15 dX2_drawnFlow_14 rfl rfl ?_
  refine r_bipush C 17 (v := 50) dX2_drawnFlow_15 rfl (by decide) ?_
  refine r_icmp_ge C 22 20 dX2_drawnFlow_17 (by decide) rfl (fun c17 => ?_) (fun c17 => ?_)
  · have h := h.1 c17
    refine r_aload_n (j := 2) C 23 dX2_drawnFlow_22 rfl rfl ?_
    refine r_iload_n (j := 3) C 24 dX2_drawnFlow_23 rfl rfl ?_
    refine r_cVI (as := [.int p1]) (S := []) C r.px 27 (ct_X0_wantedHeat _ _ _ _ _ h) dX2_drawnFlow_24 rfl cl2 (net0 ha) wd_477 wd_476 rfl wd_475 wd_478 wd_91 yd_X0_wantedHeat ⟨Nat.le_of_ble_eq_true rfl, Nat.le_of_ble_eq_true rfl⟩ (Nat.le_of_ble_eq_true rfl) (by decide) (fun r24 σ24 h => ?_)
    refine r_iload_n (j := 0) C 28 dX2_drawnFlow_27 rfl rfl ?_
    refine r_iadd C 29 dX2_drawnFlow_28 rfl ?_
    refine r_iconst C 30 (v := 1) dX2_drawnFlow_29 rfl (by decide) ?_
    refine r_isub C 31 dX2_drawnFlow_30 rfl ?_
    refine r_iload_n (j := 0) C 32 dX2_drawnFlow_31 rfl rfl ?_
    obtain ⟨o32, h⟩ := h
    refine r_idiv C 33 dX2_drawnFlow_32 rfl o32 ?_
    refine r_nmI (fun v33 e33 => ?_)
    have h := h v33 e33
    refine r_istore C 35 [(4, .int v33), (3, .int v13), (0, .ref t), (1, .ref a), (2, .int p1)] dX2_drawnFlow_33 rfl (by decide) rfl ?_
    refine r_iload (j := 0) C 37 dX2_drawnFlow_35 rfl rfl ?_
    refine r_aload_n (j := 3) C 38 dX2_drawnFlow_37 rfl rfl ?_
    refine r_get (k := 8) C cl2 41 dX2_drawnFlow_38 rfl (net0 ha) (by decide) wd_158 (.ref (a + 8)) (fun _ => rfl) ?_
    refine r_iload_n (j := 4) C 42 dX2_drawnFlow_41 rfl rfl ?_
    obtain ⟨o42, h⟩ := h
    refine r_iald C 43 dX2_drawnFlow_42 rfl (net8 ha) o42 ?_
    refine r_cSI (b := 0) (as := [.int v33, .int (σ24.1 (a + 8) p1.toNatClampNeg)]) (S := []) C r.px 46 (ct_J9_min_7cf53 _ _ _ _ _ h) dX2_drawnFlow_43 rfl wd_483 wd_482 wd_484 wd_104 yd_J9_min_7cf53 ⟨Nat.le_of_ble_eq_true rfl, Nat.le_of_ble_eq_true rfl⟩ (Nat.le_of_ble_eq_true rfl) (by decide) (fun r43 σ43 h => ?_)
    exact r_iret (S := []) C r dX2_drawnFlow_46 (by decide) rfl h
  · have h := h.2 c17
    refine r_iconst C 21 (v := 0) dX2_drawnFlow_20 rfl (by decide) ?_
    exact r_iret (S := []) C r dX2_drawnFlow_21 (by decide) rfl h
theorem ct_X2_drawnFlow (t : Nat) (a : Nat) (p1 : Int32) (σ : Mem) (K : Int32 → Mem → Prop) (X : String → Mem → Prop) (h : sp_X2_drawnFlow t a p1 σ K X) : CtI yX2_drawnFlow cX2_drawnFlow 5 (some .int) 3 0 [.ref t, .ref a, .int p1] σ K X := by
  obtain ⟨ht, ha, h⟩ := h
  exact ctI_of (by decide +kernel) (Nat.le_of_ble_eq_true rfl) (fun x C r => sg_X2_drawnFlow_0 C r t a p1 ht ha σ h)
