/-! HeatNetworkModel.comesBack()V: level 1, exceptions 0 -/
def sp_X5_comesBack (σ : Mem) (K : Mem → Prop) (X : String → Mem → Prop) : Prop := K (cl (ci σ 216 210 0 0 108) 217 211 0 0 34)
set_option maxRecDepth 4000 in
theorem sg_X5_comesBack_0 {x : Ctx} {K : Mem → Prop} {X : String → Mem → Prop} (C : Cx x RX5 cX5_comesBack 2) (r : RtV x 1 0 none K X)   (σ : Mem) (h : Ws x 0 2 [(0, .ref 209), (1, .int 0)] [] σ) : Ws x 0 0 [(0, .ref 209)] [] σ := by
  refine r_iconst C 1 (v := 0) dX5_comesBack_0 rfl (by decide) ?_
  refine r_istore_n C 2 [(1, .int 0), (0, .ref 209)] dX5_comesBack_1 rfl (by decide) rfl ?_
  exact Ws_pick [1, 0] rfl h
set_option maxRecDepth 4000 in
theorem sg_X5_comesBack_2 {x : Ctx} {K : Mem → Prop} {X : String → Mem → Prop} (C : Cx x RX5 cX5_comesBack 2) (r : RtV x 1 0 none K X) (i1 : Int32)  (σ : Mem) (h : (108 ≤ i1 → Ws x 0 28 [(0, .ref 209), (1, .int 0)] [] σ) ∧ (¬ 108 ≤ i1 → (vp_in i1 108) ∧ ((vp_in i1 108) ∧ (∀ σ19 : Mem, σ19 = wi σ 210 i1.toNatClampNeg (σ.1 216 i1.toNatClampNeg) → ∀ v20 : Int32, v20 = i1 + 1 → Ws x 0 2 [(0, .ref 209), (1, .int v20)] [] σ19)))) : Ws x 0 2 [(0, .ref 209), (1, .int i1)] [] σ := by
  refine r_iload_n (j := 1) C 3 dX5_comesBack_2 rfl rfl ?_
  refine r_bipush C 5 (v := 108) dX5_comesBack_3 rfl (by decide) ?_
  refine r_icmp_ge C 26 8 dX5_comesBack_5 (by decide) rfl (fun c5 => ?_) (fun c5 => ?_)
  · have h := h.1 c5
    refine r_iconst C 27 (v := 0) dX5_comesBack_26 rfl (by decide) ?_
    refine r_istore_n C 28 [(1, .int 0), (0, .ref 209)] dX5_comesBack_27 rfl (by decide) rfl ?_
    exact Ws_pick [1, 0] rfl h
  · have h := h.2 c5
    refine r_aload_n (j := 0) C 9 dX5_comesBack_8 rfl rfl ?_
    refine r_get (k := 1) C cl7 12 dX5_comesBack_9 rfl kd_209 (by decide) wd_1213 (.ref 210) (fun _ => rfl) ?_
    refine r_iload_n (j := 1) C 13 dX5_comesBack_12 rfl rfl ?_
    refine r_aload_n (j := 0) C 14 dX5_comesBack_13 rfl rfl ?_
    refine r_get (k := 9) C cl7 17 dX5_comesBack_14 rfl kd_209 (by decide) wd_1221 (.ref 216) (fun _ => rfl) ?_
    refine r_iload_n (j := 1) C 18 dX5_comesBack_17 rfl rfl ?_
    obtain ⟨o18, h⟩ := h
    refine r_iald C 19 dX5_comesBack_18 rfl kd_216 o18 ?_
    obtain ⟨o19, h⟩ := h
    refine r_iast C 20 dX5_comesBack_19 rfl kd_210 o19 ?_
    refine r_nmS (fun σ19 e19 => ?_)
    have h := h σ19 e19
    obtain ⟨v20, e20⟩ : ∃ y : Int32, y = i1 + 1 := ⟨_, rfl⟩
    have h := h v20 e20
    refine r_iinc (j := 1) C 23 [(1, .int v20), (0, .ref 209)] dX5_comesBack_20 rfl rfl (by rw [e20]; rfl) (by decide) rfl ?_
    refine r_goto C 2 dX5_comesBack_23 (by decide) ?_
    exact Ws_pick [1, 0] rfl h
set_option maxRecDepth 4000 in
theorem sg_X5_comesBack_28 {x : Ctx} {K : Mem → Prop} {X : String → Mem → Prop} (C : Cx x RX5 cX5_comesBack 2) (r : RtV x 1 0 none K X) (i1 : Int32)  (σ : Mem) (h : (34 ≤ i1 → K σ) ∧ (¬ 34 ≤ i1 → (vp_in i1 34) ∧ ((vp_in i1 34) ∧ (∀ σ45 : Mem, σ45 = wl σ 211 i1.toNatClampNeg (σ.2.1 217 i1.toNatClampNeg) → ∀ v46 : Int32, v46 = i1 + 1 → Ws x 0 28 [(0, .ref 209), (1, .int v46)] [] σ45)))) : Ws x 0 28 [(0, .ref 209), (1, .int i1)] [] σ := by
  refine r_iload_n (j := 1) C 29 dX5_comesBack_28 rfl rfl ?_
  refine r_bipush C 31 (v := 34) dX5_comesBack_29 rfl (by decide) ?_
  refine r_icmp_ge C 52 34 dX5_comesBack_31 (by decide) rfl (fun c31 => ?_) (fun c31 => ?_)
  · have h := h.1 c31
    exact r_vret (S := []) C r dX5_comesBack_52 (by decide) h
  · have h := h.2 c31
    refine r_aload_n (j := 0) C 35 dX5_comesBack_34 rfl rfl ?_
    refine r_get (k := 2) C cl7 38 dX5_comesBack_35 rfl kd_209 (by decide) wd_1214 (.ref 211) (fun _ => rfl) ?_
    refine r_iload_n (j := 1) C 39 dX5_comesBack_38 rfl rfl ?_
    refine r_aload_n (j := 0) C 40 dX5_comesBack_39 rfl rfl ?_
    refine r_get (k := 10) C cl7 43 dX5_comesBack_40 rfl kd_209 (by decide) wd_1222 (.ref 217) (fun _ => rfl) ?_
    refine r_iload_n (j := 1) C 44 dX5_comesBack_43 rfl rfl ?_
    obtain ⟨o44, h⟩ := h
    refine r_lald C 45 dX5_comesBack_44 rfl kd_217 o44 ?_
    obtain ⟨o45, h⟩ := h
    refine r_last C 46 dX5_comesBack_45 rfl kd_211 o45 ?_
    refine r_nmS (fun σ45 e45 => ?_)
    have h := h σ45 e45
    obtain ⟨v46, e46⟩ : ∃ y : Int32, y = i1 + 1 := ⟨_, rfl⟩
    have h := h v46 e46
    refine r_iinc (j := 1) C 49 [(1, .int v46), (0, .ref 209)] dX5_comesBack_46 rfl rfl (by rw [e46]; rfl) (by decide) rfl ?_
    refine r_goto C 28 dX5_comesBack_49 (by decide) ?_
    exact Ws_pick [1, 0] rfl h
theorem vc_X5_comesBack {x : Ctx} {K : Mem → Prop} {X : String → Mem → Prop} (C : Cx x RX5 cX5_comesBack 2) (r : RtV x 1 0 none K X) (σ : Mem) (h : sp_X5_comesBack σ K X) : Ws x 0 0 [(0, .ref 209)] [] σ := by
  refine sg_X5_comesBack_0 C r σ ?_
  refine copyI (fun k τ => Ws x 0 2 [(0, .ref 209), (1, .int (nI k))] [] τ) 108 216 210 0 0 σ (Or.inl (by decide)) ?_ ?_
  · refine sg_X5_comesBack_2 C r (nI 108) _ ⟨fun _ => ?_, fun c => (lit_lt (by decide) (Nat.le_refl 108) (by decide) c).elim⟩
    refine copyL (fun k τ => Ws x 0 28 [(0, .ref 209), (1, .int (nI k))] [] τ) 34 217 211 0 0 _ (Or.inl (by decide)) ?_ ?_
    · exact sg_X5_comesBack_28 C r (nI 34) _ ⟨fun _ => h, fun c => (lit_lt (by decide) (Nat.le_refl 34) (by decide) c).elim⟩
    · intro k hk H
      refine sg_X5_comesBack_28 C r (nI k) _ ⟨fun c => (lit_ge (by decide) hk c).elim, fun _ => ⟨n_inR hk (by decide), n_inR hk (by decide), fun σ' e1 v e2 => ?_⟩⟩
      rw [n_cl (by omega)] at e1
      rw [Nat.zero_add] at H
      rw [e1, e2, nI_1]; exact H
  · intro k hk H
    refine sg_X5_comesBack_2 C r (nI k) _ ⟨fun c => (lit_ge (by decide) hk c).elim, fun _ => ⟨n_inR hk (by decide), n_inR hk (by decide), fun σ' e1 v e2 => ?_⟩⟩
    rw [n_cl (by omega)] at e1
    rw [Nat.zero_add] at H
    rw [e1, e2, nI_1]; exact H
theorem ct_X5_comesBack  (σ : Mem) (K : Mem → Prop) (X : String → Mem → Prop) (h : sp_X5_comesBack  σ K X) : CtV yX5_comesBack cX5_comesBack 2 none 1 0 [.ref 209] σ K X :=
  ctV_of (by decide +kernel) (Nat.le_of_ble_eq_true rfl) (fun x C r => vc_X5_comesBack C r  σ h)
/-! HeatNetworkModel.restore()I: level 2, exceptions 0 -/
def rs_X5 (σ : Mem) : Mem := wi (cl (ci (wi σ 209 0 0) 214 210 0 0 108) 215 211 0 0 34) 209 5 0
def sp_X5_restore (σ : Mem) (K : Int32 → Mem → Prop) (X : String → Mem → Prop) : Prop := (σ.1 209 8 = 0 → K 0 (wi (wi σ 209 0 0) 209 0 1)) ∧ (¬ σ.1 209 8 = 0 → K ((rs_X5 σ).1 210 7) (rs_X5 σ))
set_option maxRecDepth 4000 in
theorem sg_X5_restore_0 {x : Ctx} {K : Int32 → Mem → Prop} {X : String → Mem → Prop} (C : Cx x RX5 cX5_restore 2) (r : RtI x 2 0 (some .int) K X)   (σ : Mem) (h : ∀ σ2 : Mem, σ2 = wi σ 209 0 0 → (¬ (σ2.1 209 8) = 0 → Ws x 0 20 [(0, .ref 209), (1, .int 0)] [] σ2) ∧ ((σ2.1 209 8) = 0 → sp_X5_raises 1 σ2 (fun r14 σ14 => K r14 σ14) X)) : Ws x 0 0 [(0, .ref 209)] [] σ := by
  refine r_aload_n (j := 0) C 1 dX5_restore_0 rfl rfl ?_
  refine r_iconst C 2 (v := 0) dX5_restore_1 rfl (by decide) ?_
  refine r_putI (k := 0) C cl7 5 dX5_restore_2 rfl kd_209 (by decide) wd_1212 rfl rfl rfl rfl ?_
  refine r_nmS (fun σ2 e2 => ?_)
  have h := h σ2 e2
  refine r_aload_n (j := 0) C 6 dX5_restore_5 rfl rfl ?_
  refine r_get (k := 8) C cl7 9 dX5_restore_6 rfl kd_209 (by decide) wd_1220 (.int (σ2.1 209 8)) (fun _ => rfl) ?_
  refine r_if_ne C 18 12 dX5_restore_9 (by decide) rfl (fun c9 => ?_) (fun c9 => ?_)
  · have h := h.1 c9
    refine r_iconst C 19 (v := 0) dX5_restore_18 rfl (by decide) ?_
    refine r_istore_n C 20 [(1, .int 0), (0, .ref 209)] dX5_restore_19 rfl (by decide) rfl ?_
    exact Ws_pick [1, 0] rfl h
  · have h := h.2 c9
    refine r_aload_n (j := 0) C 13 dX5_restore_12 rfl rfl ?_
    refine r_iconst C 14 (v := 1) dX5_restore_13 rfl (by decide) ?_
    refine r_cVI (as := [.int 1]) (S := []) C r.px 17 (ct_X5_raises _ _ _ _ h) dX5_restore_14 rfl cl7 kd_209 wd_40 wd_1325 rfl wd_1323 wd_1326 wd_95 yd_X5_raises ⟨Nat.le_of_ble_eq_true rfl, Nat.le_of_ble_eq_true rfl⟩ (Nat.le_of_ble_eq_true rfl) (by decide) (fun r14 σ14 h => ?_)
    exact r_iret (S := []) C r dX5_restore_17 (by decide) rfl h
set_option maxRecDepth 4000 in
theorem sg_X5_restore_20 {x : Ctx} {K : Int32 → Mem → Prop} {X : String → Mem → Prop} (C : Cx x RX5 cX5_restore 2) (r : RtI x 2 0 (some .int) K X) (i1 : Int32)  (σ : Mem) (h : (108 ≤ i1 → Ws x 0 46 [(0, .ref 209), (1, .int 0)] [] σ) ∧ (¬ 108 ≤ i1 → (vp_in i1 108) ∧ ((vp_in i1 108) ∧ (∀ σ37 : Mem, σ37 = wi σ 210 i1.toNatClampNeg (σ.1 214 i1.toNatClampNeg) → ∀ v38 : Int32, v38 = i1 + 1 → Ws x 0 20 [(0, .ref 209), (1, .int v38)] [] σ37)))) : Ws x 0 20 [(0, .ref 209), (1, .int i1)] [] σ := by
  refine r_iload_n (j := 1) C 21 dX5_restore_20 rfl rfl ?_
  refine r_bipush C 23 (v := 108) dX5_restore_21 rfl (by decide) ?_
  refine r_icmp_ge C 44 26 dX5_restore_23 (by decide) rfl (fun c23 => ?_) (fun c23 => ?_)
  · have h := h.1 c23
    refine r_iconst C 45 (v := 0) dX5_restore_44 rfl (by decide) ?_
    refine r_istore_n C 46 [(1, .int 0), (0, .ref 209)] dX5_restore_45 rfl (by decide) rfl ?_
    exact Ws_pick [1, 0] rfl h
  · have h := h.2 c23
    refine r_aload_n (j := 0) C 27 dX5_restore_26 rfl rfl ?_
    refine r_get (k := 1) C cl7 30 dX5_restore_27 rfl kd_209 (by decide) wd_1213 (.ref 210) (fun _ => rfl) ?_
    refine r_iload_n (j := 1) C 31 dX5_restore_30 rfl rfl ?_
    refine r_aload_n (j := 0) C 32 dX5_restore_31 rfl rfl ?_
    refine r_get (k := 6) C cl7 35 dX5_restore_32 rfl kd_209 (by decide) wd_1218 (.ref 214) (fun _ => rfl) ?_
    refine r_iload_n (j := 1) C 36 dX5_restore_35 rfl rfl ?_
    obtain ⟨o36, h⟩ := h
    refine r_iald C 37 dX5_restore_36 rfl kd_214 o36 ?_
    obtain ⟨o37, h⟩ := h
    refine r_iast C 38 dX5_restore_37 rfl kd_210 o37 ?_
    refine r_nmS (fun σ37 e37 => ?_)
    have h := h σ37 e37
    obtain ⟨v38, e38⟩ : ∃ y : Int32, y = i1 + 1 := ⟨_, rfl⟩
    have h := h v38 e38
    refine r_iinc (j := 1) C 41 [(1, .int v38), (0, .ref 209)] dX5_restore_38 rfl rfl (by rw [e38]; rfl) (by decide) rfl ?_
    refine r_goto C 20 dX5_restore_41 (by decide) ?_
    exact Ws_pick [1, 0] rfl h
set_option maxRecDepth 4000 in
theorem sg_X5_restore_46 {x : Ctx} {K : Int32 → Mem → Prop} {X : String → Mem → Prop} (C : Cx x RX5 cX5_restore 2) (r : RtI x 2 0 (some .int) K X) (i1 : Int32)  (σ : Mem) (h : (34 ≤ i1 → ∀ σ72 : Mem, σ72 = wi σ 209 5 0 → sp_X5_pipes  σ72 (fun r76 σ76 => K r76 σ76) X) ∧ (¬ 34 ≤ i1 → (vp_in i1 34) ∧ ((vp_in i1 34) ∧ (∀ σ63 : Mem, σ63 = wl σ 211 i1.toNatClampNeg (σ.2.1 215 i1.toNatClampNeg) → ∀ v64 : Int32, v64 = i1 + 1 → Ws x 0 46 [(0, .ref 209), (1, .int v64)] [] σ63)))) : Ws x 0 46 [(0, .ref 209), (1, .int i1)] [] σ := by
  refine r_iload_n (j := 1) C 47 dX5_restore_46 rfl rfl ?_
  refine r_bipush C 49 (v := 34) dX5_restore_47 rfl (by decide) ?_
  refine r_icmp_ge C 70 52 dX5_restore_49 (by decide) rfl (fun c49 => ?_) (fun c49 => ?_)
  · have h := h.1 c49
    refine r_aload_n (j := 0) C 71 dX5_restore_70 rfl rfl ?_
    refine r_iconst C 72 (v := 0) dX5_restore_71 rfl (by decide) ?_
    refine r_putI (k := 5) C cl7 75 dX5_restore_72 rfl kd_209 (by decide) wd_1217 rfl rfl rfl rfl ?_
    refine r_nmS (fun σ72 e72 => ?_)
    have h := h σ72 e72
    refine r_aload_n (j := 0) C 76 dX5_restore_75 rfl rfl ?_
    refine r_cVI (as := []) (S := []) C r.px 79 (ct_X5_pipes  _ _ _ h) dX5_restore_76 rfl cl7 kd_209 wd_45 wd_1360 rfl wd_1358 wd_1361 wd_95 yd_X5_pipes ⟨Nat.le_of_ble_eq_true rfl, Nat.le_of_ble_eq_true rfl⟩ (Nat.le_of_ble_eq_true rfl) (by decide) (fun r76 σ76 h => ?_)
    exact r_iret (S := []) C r dX5_restore_79 (by decide) rfl h
  · have h := h.2 c49
    refine r_aload_n (j := 0) C 53 dX5_restore_52 rfl rfl ?_
    refine r_get (k := 2) C cl7 56 dX5_restore_53 rfl kd_209 (by decide) wd_1214 (.ref 211) (fun _ => rfl) ?_
    refine r_iload_n (j := 1) C 57 dX5_restore_56 rfl rfl ?_
    refine r_aload_n (j := 0) C 58 dX5_restore_57 rfl rfl ?_
    refine r_get (k := 7) C cl7 61 dX5_restore_58 rfl kd_209 (by decide) wd_1219 (.ref 215) (fun _ => rfl) ?_
    refine r_iload_n (j := 1) C 62 dX5_restore_61 rfl rfl ?_
    obtain ⟨o62, h⟩ := h
    refine r_lald C 63 dX5_restore_62 rfl kd_215 o62 ?_
    obtain ⟨o63, h⟩ := h
    refine r_last C 64 dX5_restore_63 rfl kd_211 o63 ?_
    refine r_nmS (fun σ63 e63 => ?_)
    have h := h σ63 e63
    obtain ⟨v64, e64⟩ : ∃ y : Int32, y = i1 + 1 := ⟨_, rfl⟩
    have h := h v64 e64
    refine r_iinc (j := 1) C 67 [(1, .int v64), (0, .ref 209)] dX5_restore_64 rfl rfl (by rw [e64]; rfl) (by decide) rfl ?_
    refine r_goto C 46 dX5_restore_67 (by decide) ?_
    exact Ws_pick [1, 0] rfl h
theorem vc_X5_restore {x : Ctx} {K : Int32 → Mem → Prop} {X : String → Mem → Prop} (C : Cx x RX5 cX5_restore 2) (r : RtI x 2 0 (some .int) K X) (σ : Mem) (h : sp_X5_restore σ K X) : Ws x 0 0 [(0, .ref 209)] [] σ := by
  refine sg_X5_restore_0 C r σ (fun σ2 e2 => ?_)
  have e0 : σ2.1 209 8 = σ.1 209 8 := by rw [e2]; rfl
  refine ⟨fun c => ?_, fun c => i_X5_raises (by rw [e2]; exact h.1 (e0.symm.trans c))⟩
  have h := h.2 (fun q => c (e0.trans q))
  subst e2
  refine copyI (fun k τ => Ws x 0 20 [(0, .ref 209), (1, .int (nI k))] [] τ) 108 214 210 0 0 _ (Or.inl (by decide)) ?_ ?_
  · refine sg_X5_restore_20 C r (nI 108) _ ⟨fun _ => ?_, fun c => (lit_lt (by decide) (Nat.le_refl 108) (by decide) c).elim⟩
    refine copyL (fun k τ => Ws x 0 46 [(0, .ref 209), (1, .int (nI k))] [] τ) 34 215 211 0 0 _ (Or.inl (by decide)) ?_ ?_
    · exact sg_X5_restore_46 C r (nI 34) _ ⟨fun _ σ72 e72 => by rw [e72]; exact h, fun c => (lit_lt (by decide) (Nat.le_refl 34) (by decide) c).elim⟩
    · intro k hk H
      refine sg_X5_restore_46 C r (nI k) _ ⟨fun c => (lit_ge (by decide) hk c).elim, fun _ => ⟨n_inR hk (by decide), n_inR hk (by decide), fun σ' e1 v e2 => ?_⟩⟩
      rw [n_cl (by omega)] at e1
      rw [Nat.zero_add] at H
      rw [e1, e2, nI_1]; exact H
  · intro k hk H
    refine sg_X5_restore_20 C r (nI k) _ ⟨fun c => (lit_ge (by decide) hk c).elim, fun _ => ⟨n_inR hk (by decide), n_inR hk (by decide), fun σ' e1 v e2 => ?_⟩⟩
    rw [n_cl (by omega)] at e1
    rw [Nat.zero_add] at H
    rw [e1, e2, nI_1]; exact H
theorem ct_X5_restore  (σ : Mem) (K : Int32 → Mem → Prop) (X : String → Mem → Prop) (h : sp_X5_restore  σ K X) : CtI yX5_restore cX5_restore 2 (some .int) 2 0 [.ref 209] σ K X :=
  ctI_of (by decide +kernel) (Nat.le_of_ble_eq_true rfl) (fun x C r => vc_X5_restore C r  σ h)
/-! HeatNetworkModel.save()I: level 2, exceptions 0 -/
def sv_X5 (σ : Mem) : Mem := cl (ci (wi (wi σ 209 0 0) 209 8 1) 210 214 0 0 108) 211 215 0 0 34
def sp_X5_save (σ : Mem) (K : Int32 → Mem → Prop) (X : String → Mem → Prop) : Prop := K (σ.1 210 7) (sv_X5 σ)
set_option maxRecDepth 4000 in
theorem sg_X5_save_0 {x : Ctx} {K : Int32 → Mem → Prop} {X : String → Mem → Prop} (C : Cx x RX5 cX5_save 2) (r : RtI x 2 0 (some .int) K X)   (σ : Mem) (h : ∀ σ2 : Mem, σ2 = wi σ 209 0 0 → ∀ σ7 : Mem, σ7 = wi σ2 209 8 1 → Ws x 0 12 [(0, .ref 209), (1, .int 0)] [] σ7) : Ws x 0 0 [(0, .ref 209)] [] σ := by
  refine r_aload_n (j := 0) C 1 dX5_save_0 rfl rfl ?_
  refine r_iconst C 2 (v := 0) dX5_save_1 rfl (by decide) ?_
  refine r_putI (k := 0) C cl7 5 dX5_save_2 rfl kd_209 (by decide) wd_1212 rfl rfl rfl rfl ?_
  refine r_nmS (fun σ2 e2 => ?_)
  have h := h σ2 e2
  refine r_aload_n (j := 0) C 6 dX5_save_5 rfl rfl ?_
  refine r_iconst C 7 (v := 1) dX5_save_6 rfl (by decide) ?_
  refine r_putI (k := 8) C cl7 10 dX5_save_7 rfl kd_209 (by decide) wd_1220 rfl rfl rfl rfl ?_
  refine r_nmS (fun σ7 e7 => ?_)
  have h := h σ7 e7
  refine r_iconst C 11 (v := 0) dX5_save_10 rfl (by decide) ?_
  refine r_istore_n C 12 [(1, .int 0), (0, .ref 209)] dX5_save_11 rfl (by decide) rfl ?_
  exact Ws_pick [1, 0] rfl h
set_option maxRecDepth 4000 in
theorem sg_X5_save_12 {x : Ctx} {K : Int32 → Mem → Prop} {X : String → Mem → Prop} (C : Cx x RX5 cX5_save 2) (r : RtI x 2 0 (some .int) K X) (i1 : Int32)  (σ : Mem) (h : (108 ≤ i1 → Ws x 0 38 [(0, .ref 209), (1, .int 0)] [] σ) ∧ (¬ 108 ≤ i1 → (vp_in i1 108) ∧ ((vp_in i1 108) ∧ (∀ σ29 : Mem, σ29 = wi σ 214 i1.toNatClampNeg (σ.1 210 i1.toNatClampNeg) → ∀ v30 : Int32, v30 = i1 + 1 → Ws x 0 12 [(0, .ref 209), (1, .int v30)] [] σ29)))) : Ws x 0 12 [(0, .ref 209), (1, .int i1)] [] σ := by
  refine r_iload_n (j := 1) C 13 dX5_save_12 rfl rfl ?_
  refine r_bipush C 15 (v := 108) dX5_save_13 rfl (by decide) ?_
  refine r_icmp_ge C 36 18 dX5_save_15 (by decide) rfl (fun c15 => ?_) (fun c15 => ?_)
  · have h := h.1 c15
    refine r_iconst C 37 (v := 0) dX5_save_36 rfl (by decide) ?_
    refine r_istore_n C 38 [(1, .int 0), (0, .ref 209)] dX5_save_37 rfl (by decide) rfl ?_
    exact Ws_pick [1, 0] rfl h
  · have h := h.2 c15
    refine r_aload_n (j := 0) C 19 dX5_save_18 rfl rfl ?_
    refine r_get (k := 6) C cl7 22 dX5_save_19 rfl kd_209 (by decide) wd_1218 (.ref 214) (fun _ => rfl) ?_
    refine r_iload_n (j := 1) C 23 dX5_save_22 rfl rfl ?_
    refine r_aload_n (j := 0) C 24 dX5_save_23 rfl rfl ?_
    refine r_get (k := 1) C cl7 27 dX5_save_24 rfl kd_209 (by decide) wd_1213 (.ref 210) (fun _ => rfl) ?_
    refine r_iload_n (j := 1) C 28 dX5_save_27 rfl rfl ?_
    obtain ⟨o28, h⟩ := h
    refine r_iald C 29 dX5_save_28 rfl kd_210 o28 ?_
    obtain ⟨o29, h⟩ := h
    refine r_iast C 30 dX5_save_29 rfl kd_214 o29 ?_
    refine r_nmS (fun σ29 e29 => ?_)
    have h := h σ29 e29
    obtain ⟨v30, e30⟩ : ∃ y : Int32, y = i1 + 1 := ⟨_, rfl⟩
    have h := h v30 e30
    refine r_iinc (j := 1) C 33 [(1, .int v30), (0, .ref 209)] dX5_save_30 rfl rfl (by rw [e30]; rfl) (by decide) rfl ?_
    refine r_goto C 12 dX5_save_33 (by decide) ?_
    exact Ws_pick [1, 0] rfl h
set_option maxRecDepth 4000 in
theorem sg_X5_save_38 {x : Ctx} {K : Int32 → Mem → Prop} {X : String → Mem → Prop} (C : Cx x RX5 cX5_save 2) (r : RtI x 2 0 (some .int) K X) (i1 : Int32)  (σ : Mem) (h : (34 ≤ i1 → sp_X5_pipes  σ (fun r63 σ63 => K r63 σ63) X) ∧ (¬ 34 ≤ i1 → (vp_in i1 34) ∧ ((vp_in i1 34) ∧ (∀ σ55 : Mem, σ55 = wl σ 215 i1.toNatClampNeg (σ.2.1 211 i1.toNatClampNeg) → ∀ v56 : Int32, v56 = i1 + 1 → Ws x 0 38 [(0, .ref 209), (1, .int v56)] [] σ55)))) : Ws x 0 38 [(0, .ref 209), (1, .int i1)] [] σ := by
  refine r_iload_n (j := 1) C 39 dX5_save_38 rfl rfl ?_
  refine r_bipush C 41 (v := 34) dX5_save_39 rfl (by decide) ?_
  refine r_icmp_ge C 62 44 dX5_save_41 (by decide) rfl (fun c41 => ?_) (fun c41 => ?_)
  · have h := h.1 c41
    refine r_aload_n (j := 0) C 63 dX5_save_62 rfl rfl ?_
    refine r_cVI (as := []) (S := []) C r.px 66 (ct_X5_pipes  _ _ _ h) dX5_save_63 rfl cl7 kd_209 wd_45 wd_1360 rfl wd_1358 wd_1361 wd_95 yd_X5_pipes ⟨Nat.le_of_ble_eq_true rfl, Nat.le_of_ble_eq_true rfl⟩ (Nat.le_of_ble_eq_true rfl) (by decide) (fun r63 σ63 h => ?_)
    exact r_iret (S := []) C r dX5_save_66 (by decide) rfl h
  · have h := h.2 c41
    refine r_aload_n (j := 0) C 45 dX5_save_44 rfl rfl ?_
    refine r_get (k := 7) C cl7 48 dX5_save_45 rfl kd_209 (by decide) wd_1219 (.ref 215) (fun _ => rfl) ?_
    refine r_iload_n (j := 1) C 49 dX5_save_48 rfl rfl ?_
    refine r_aload_n (j := 0) C 50 dX5_save_49 rfl rfl ?_
    refine r_get (k := 2) C cl7 53 dX5_save_50 rfl kd_209 (by decide) wd_1214 (.ref 211) (fun _ => rfl) ?_
    refine r_iload_n (j := 1) C 54 dX5_save_53 rfl rfl ?_
    obtain ⟨o54, h⟩ := h
    refine r_lald C 55 dX5_save_54 rfl kd_211 o54 ?_
    obtain ⟨o55, h⟩ := h
    refine r_last C 56 dX5_save_55 rfl kd_215 o55 ?_
    refine r_nmS (fun σ55 e55 => ?_)
    have h := h σ55 e55
    obtain ⟨v56, e56⟩ : ∃ y : Int32, y = i1 + 1 := ⟨_, rfl⟩
    have h := h v56 e56
    refine r_iinc (j := 1) C 59 [(1, .int v56), (0, .ref 209)] dX5_save_56 rfl rfl (by rw [e56]; rfl) (by decide) rfl ?_
    refine r_goto C 38 dX5_save_59 (by decide) ?_
    exact Ws_pick [1, 0] rfl h
theorem vc_X5_save {x : Ctx} {K : Int32 → Mem → Prop} {X : String → Mem → Prop} (C : Cx x RX5 cX5_save 2) (r : RtI x 2 0 (some .int) K X) (σ : Mem) (h : sp_X5_save σ K X) : Ws x 0 0 [(0, .ref 209)] [] σ := by
  refine sg_X5_save_0 C r σ (fun σ2 e2 σ7 e7 => ?_)
  subst e2; subst e7
  refine copyI (fun k τ => Ws x 0 12 [(0, .ref 209), (1, .int (nI k))] [] τ) 108 210 214 0 0 _ (Or.inl (by decide)) ?_ ?_
  · refine sg_X5_save_12 C r (nI 108) _ ⟨fun _ => ?_, fun c => (lit_lt (by decide) (Nat.le_refl 108) (by decide) c).elim⟩
    refine copyL (fun k τ => Ws x 0 38 [(0, .ref 209), (1, .int (nI k))] [] τ) 34 211 215 0 0 _ (Or.inl (by decide)) ?_ ?_
    · exact sg_X5_save_38 C r (nI 34) _ ⟨fun _ => h, fun c => (lit_lt (by decide) (Nat.le_refl 34) (by decide) c).elim⟩
    · intro k hk H
      refine sg_X5_save_38 C r (nI k) _ ⟨fun c => (lit_ge (by decide) hk c).elim, fun _ => ⟨n_inR hk (by decide), n_inR hk (by decide), fun σ' e1 v e2 => ?_⟩⟩
      rw [n_cl (by omega)] at e1
      rw [Nat.zero_add] at H
      rw [e1, e2, nI_1]; exact H
  · intro k hk H
    refine sg_X5_save_12 C r (nI k) _ ⟨fun c => (lit_ge (by decide) hk c).elim, fun _ => ⟨n_inR hk (by decide), n_inR hk (by decide), fun σ' e1 v e2 => ?_⟩⟩
    rw [n_cl (by omega)] at e1
    rw [Nat.zero_add] at H
    rw [e1, e2, nI_1]; exact H
theorem ct_X5_save  (σ : Mem) (K : Int32 → Mem → Prop) (X : String → Mem → Prop) (h : sp_X5_save  σ K X) : CtI yX5_save cX5_save 2 (some .int) 2 0 [.ref 209] σ K X :=
  ctI_of (by decide +kernel) (Nat.le_of_ble_eq_true rfl) (fun x C r => vc_X5_save C r  σ h)
/-! HeatNetworkModel.undo()I: level 2, exceptions 0 -/
def un_X5 (σ : Mem) (u : Nat) : Mem := cl (ci (wi (wi σ 209 0 0) 209 5 (nI u)) 212 210 (108 * u) 0 108) 213 211 (34 * u) 0 34
def sp_X5_undo (σ : Mem) (K : Int32 → Mem → Prop) (X : String → Mem → Prop) : Prop := ∃ u : Nat, u ≤ 8 ∧ σ.1 209 5 = nI u ∧ (u = 0 → K 0 (wi (wi σ 209 0 0) 209 0 1)) ∧ (0 < u → K (nI (u - 1)) (un_X5 σ (u - 1)))
set_option maxRecDepth 4000 in
theorem sg_X5_undo_0 {x : Ctx} {K : Int32 → Mem → Prop} {X : String → Mem → Prop} (C : Cx x RX5 cX5_undo 2) (r : RtI x 2 0 (some .int) K X)   (σ : Mem) (h : ∀ σ2 : Mem, σ2 = wi σ 209 0 0 → (¬ (σ2.1 209 5) = 0 → ∀ σ25 : Mem, σ25 = wi σ2 209 5 ((σ2.1 209 5) - 1) → Ws x 0 30 [(0, .ref 209), (1, .int 0)] [] σ25) ∧ ((σ2.1 209 5) = 0 → sp_X5_raises 1 σ2 (fun r14 σ14 => K r14 σ14) X)) : Ws x 0 0 [(0, .ref 209)] [] σ := by
  refine r_aload_n (j := 0) C 1 dX5_undo_0 rfl rfl ?_
  refine r_iconst C 2 (v := 0) dX5_undo_1 rfl (by decide) ?_
  refine r_putI (k := 0) C cl7 5 dX5_undo_2 rfl kd_209 (by decide) wd_1212 rfl rfl rfl rfl ?_
  refine r_nmS (fun σ2 e2 => ?_)
  have h := h σ2 e2
  refine r_aload_n (j := 0) C 6 dX5_undo_5 rfl rfl ?_
  refine r_get (k := 5) C cl7 9 dX5_undo_6 rfl kd_209 (by decide) wd_1217 (.int (σ2.1 209 5)) (fun _ => rfl) ?_
  refine r_if_ne C 18 12 dX5_undo_9 (by decide) rfl (fun c9 => ?_) (fun c9 => ?_)
  · have h := h.1 c9
    refine r_aload_n (j := 0) C 19 dX5_undo_18 rfl rfl ?_
    refine r_dup C 20 dX5_undo_19 rfl rfl ?_
    refine r_get (k := 5) C cl7 23 dX5_undo_20 rfl kd_209 (by decide) wd_1217 (.int (σ2.1 209 5)) (fun _ => rfl) ?_
    refine r_iconst C 24 (v := 1) dX5_undo_23 rfl (by decide) ?_
    refine r_isub C 25 dX5_undo_24 rfl ?_
    refine r_putI (k := 5) C cl7 28 dX5_undo_25 rfl kd_209 (by decide) wd_1217 rfl rfl rfl rfl ?_
    refine r_nmS (fun σ25 e25 => ?_)
    have h := h σ25 e25
    refine r_iconst C 29 (v := 0) dX5_undo_28 rfl (by decide) ?_
    refine r_istore_n C 30 [(1, .int 0), (0, .ref 209)] dX5_undo_29 rfl (by decide) rfl ?_
    exact Ws_pick [1, 0] rfl h
  · have h := h.2 c9
    refine r_aload_n (j := 0) C 13 dX5_undo_12 rfl rfl ?_
    refine r_iconst C 14 (v := 1) dX5_undo_13 rfl (by decide) ?_
    refine r_cVI (as := [.int 1]) (S := []) C r.px 17 (ct_X5_raises _ _ _ _ h) dX5_undo_14 rfl cl7 kd_209 wd_40 wd_1325 rfl wd_1323 wd_1326 wd_95 yd_X5_raises ⟨Nat.le_of_ble_eq_true rfl, Nat.le_of_ble_eq_true rfl⟩ (Nat.le_of_ble_eq_true rfl) (by decide) (fun r14 σ14 h => ?_)
    exact r_iret (S := []) C r dX5_undo_17 (by decide) rfl h
set_option maxRecDepth 4000 in
theorem sg_X5_undo_30 {x : Ctx} {K : Int32 → Mem → Prop} {X : String → Mem → Prop} (C : Cx x RX5 cX5_undo 2) (r : RtI x 2 0 (some .int) K X) (i1 : Int32)  (σ : Mem) (h : (108 ≤ i1 → Ws x 0 64 [(0, .ref 209), (1, .int 0)] [] σ) ∧ (¬ 108 ≤ i1 → (vp_in ((108 * (σ.1 209 5)) + i1) 864) ∧ ((vp_in i1 108) ∧ (∀ σ55 : Mem, σ55 = wi σ 210 i1.toNatClampNeg (σ.1 212 (((108 * (σ.1 209 5)) + i1)).toNatClampNeg) → ∀ v56 : Int32, v56 = i1 + 1 → Ws x 0 30 [(0, .ref 209), (1, .int v56)] [] σ55)))) : Ws x 0 30 [(0, .ref 209), (1, .int i1)] [] σ := by
  refine r_iload_n (j := 1) C 31 dX5_undo_30 rfl rfl ?_
  refine r_bipush C 33 (v := 108) dX5_undo_31 rfl (by decide) ?_
  refine r_icmp_ge C 62 36 dX5_undo_33 (by decide) rfl (fun c33 => ?_) (fun c33 => ?_)
  · have h := h.1 c33
    refine r_iconst C 63 (v := 0) dX5_undo_62 rfl (by decide) ?_
    refine r_istore_n C 64 [(1, .int 0), (0, .ref 209)] dX5_undo_63 rfl (by decide) rfl ?_
    exact Ws_pick [1, 0] rfl h
  · have h := h.2 c33
    refine r_aload_n (j := 0) C 37 dX5_undo_36 rfl rfl ?_
    refine r_get (k := 1) C cl7 40 dX5_undo_37 rfl kd_209 (by decide) wd_1213 (.ref 210) (fun _ => rfl) ?_
    refine r_iload_n (j := 1) C 41 dX5_undo_40 rfl rfl ?_
    refine r_aload_n (j := 0) C 42 dX5_undo_41 rfl rfl ?_
    refine r_get (k := 3) C cl7 45 dX5_undo_42 rfl kd_209 (by decide) wd_1215 (.ref 212) (fun _ => rfl) ?_
    refine r_bipush C 47 (v := 108) dX5_undo_45 rfl (by decide) ?_
    refine r_aload_n (j := 0) C 48 dX5_undo_47 rfl rfl ?_
    refine r_get (k := 5) C cl7 51 dX5_undo_48 rfl kd_209 (by decide) wd_1217 (.int (σ.1 209 5)) (fun _ => rfl) ?_
    refine r_imul C 52 dX5_undo_51 rfl ?_
    refine r_iload_n (j := 1) C 53 dX5_undo_52 rfl rfl ?_
    refine r_iadd C 54 dX5_undo_53 rfl ?_
    obtain ⟨o54, h⟩ := h
    refine r_iald C 55 dX5_undo_54 rfl kd_212 o54 ?_
    obtain ⟨o55, h⟩ := h
    refine r_iast C 56 dX5_undo_55 rfl kd_210 o55 ?_
    refine r_nmS (fun σ55 e55 => ?_)
    have h := h σ55 e55
    obtain ⟨v56, e56⟩ : ∃ y : Int32, y = i1 + 1 := ⟨_, rfl⟩
    have h := h v56 e56
    refine r_iinc (j := 1) C 59 [(1, .int v56), (0, .ref 209)] dX5_undo_56 rfl rfl (by rw [e56]; rfl) (by decide) rfl ?_
    refine r_goto C 30 dX5_undo_59 (by decide) ?_
    exact Ws_pick [1, 0] rfl h
set_option maxRecDepth 4000 in
theorem sg_X5_undo_64 {x : Ctx} {K : Int32 → Mem → Prop} {X : String → Mem → Prop} (C : Cx x RX5 cX5_undo 2) (r : RtI x 2 0 (some .int) K X) (i1 : Int32)  (σ : Mem) (h : (34 ≤ i1 → K (σ.1 209 5) σ) ∧ (¬ 34 ≤ i1 → (vp_in ((34 * (σ.1 209 5)) + i1) 272) ∧ ((vp_in i1 34) ∧ (∀ σ89 : Mem, σ89 = wl σ 211 i1.toNatClampNeg (σ.2.1 213 (((34 * (σ.1 209 5)) + i1)).toNatClampNeg) → ∀ v90 : Int32, v90 = i1 + 1 → Ws x 0 64 [(0, .ref 209), (1, .int v90)] [] σ89)))) : Ws x 0 64 [(0, .ref 209), (1, .int i1)] [] σ := by
  refine r_iload_n (j := 1) C 65 dX5_undo_64 rfl rfl ?_
  refine r_bipush C 67 (v := 34) dX5_undo_65 rfl (by decide) ?_
  refine r_icmp_ge C 96 70 dX5_undo_67 (by decide) rfl (fun c67 => ?_) (fun c67 => ?_)
  · have h := h.1 c67
    refine r_aload_n (j := 0) C 97 dX5_undo_96 rfl rfl ?_
    refine r_get (k := 5) C cl7 100 dX5_undo_97 rfl kd_209 (by decide) wd_1217 (.int (σ.1 209 5)) (fun _ => rfl) ?_
    exact r_iret (S := []) C r dX5_undo_100 (by decide) rfl h
  · have h := h.2 c67
    refine r_aload_n (j := 0) C 71 dX5_undo_70 rfl rfl ?_
    refine r_get (k := 2) C cl7 74 dX5_undo_71 rfl kd_209 (by decide) wd_1214 (.ref 211) (fun _ => rfl) ?_
    refine r_iload_n (j := 1) C 75 dX5_undo_74 rfl rfl ?_
    refine r_aload_n (j := 0) C 76 dX5_undo_75 rfl rfl ?_
    refine r_get (k := 4) C cl7 79 dX5_undo_76 rfl kd_209 (by decide) wd_1216 (.ref 213) (fun _ => rfl) ?_
    refine r_bipush C 81 (v := 34) dX5_undo_79 rfl (by decide) ?_
    refine r_aload_n (j := 0) C 82 dX5_undo_81 rfl rfl ?_
    refine r_get (k := 5) C cl7 85 dX5_undo_82 rfl kd_209 (by decide) wd_1217 (.int (σ.1 209 5)) (fun _ => rfl) ?_
    refine r_imul C 86 dX5_undo_85 rfl ?_
    refine r_iload_n (j := 1) C 87 dX5_undo_86 rfl rfl ?_
    refine r_iadd C 88 dX5_undo_87 rfl ?_
    obtain ⟨o88, h⟩ := h
    refine r_lald C 89 dX5_undo_88 rfl kd_213 o88 ?_
    obtain ⟨o89, h⟩ := h
    refine r_last C 90 dX5_undo_89 rfl kd_211 o89 ?_
    refine r_nmS (fun σ89 e89 => ?_)
    have h := h σ89 e89
    obtain ⟨v90, e90⟩ : ∃ y : Int32, y = i1 + 1 := ⟨_, rfl⟩
    have h := h v90 e90
    refine r_iinc (j := 1) C 93 [(1, .int v90), (0, .ref 209)] dX5_undo_90 rfl rfl (by rw [e90]; rfl) (by decide) rfl ?_
    refine r_goto C 64 dX5_undo_93 (by decide) ?_
    exact Ws_pick [1, 0] rfl h
theorem ix_m {m u k : Nat} : (nI m * nI u) + nI k = nI (m * u + k) := by rw [nI_mul, nI_add]
theorem vc_X5_undo {x : Ctx} {K : Int32 → Mem → Prop} {X : String → Mem → Prop} (C : Cx x RX5 cX5_undo 2) (r : RtI x 2 0 (some .int) K X) (σ : Mem) (h : sp_X5_undo σ K X) : Ws x 0 0 [(0, .ref 209)] [] σ := by
  obtain ⟨u, hu, eu, h0, h1⟩ := h
  refine sg_X5_undo_0 C r σ (fun σ2 e2 => ?_)
  have e0 : σ2.1 209 5 = nI u := by rw [e2]; exact eu
  rw [e0]
  refine ⟨fun c σ25 e25 => ?_, fun c => i_X5_raises (by rw [e2]; exact h0 ((nI_eq (a := u) (b := 0) (by omega) (by decide)).mp c))⟩
  obtain ⟨w, rfl⟩ : ∃ w, u = w + 1 := ⟨u - 1, by have : u ≠ 0 := fun q => c (by rw [q]; rfl); omega⟩
  have h := h1 (by omega)
  rw [nI_pred] at e25
  subst e2; subst e25
  have hr : ∀ τ : Mem, (∀ k, τ.1 209 k = (wi (wi σ 209 0 0) 209 5 (nI w)).1 209 k) → τ.1 209 5 = nI w := fun τ hτ => by rw [hτ 5]; rfl
  refine copyI (fun k τ => Ws x 0 30 [(0, .ref 209), (1, .int (nI k))] [] τ) 108 212 210 (108 * w) 0 _ (Or.inl (by decide)) ?_ ?_
  · refine sg_X5_undo_30 C r (nI 108) _ ⟨fun _ => ?_, fun c => (lit_lt (by decide) (Nat.le_refl 108) (by decide) c).elim⟩
    refine copyL (fun k τ => Ws x 0 64 [(0, .ref 209), (1, .int (nI k))] [] τ) 34 213 211 (34 * w) 0 _ (Or.inl (by decide)) ?_ ?_
    · refine sg_X5_undo_64 C r (nI 34) _ ⟨fun _ => ?_, fun c => (lit_lt (by decide) (Nat.le_refl 34) (by decide) c).elim⟩
      exact h
    · intro k hk H
      have er := hr (cl (ci (wi (wi σ 209 0 0) 209 5 (nI w)) 212 210 (108 * w) 0 108) 213 211 (34 * w) 0 k) (fun j => rfl)
      refine sg_X5_undo_64 C r (nI k) _ ⟨fun c => (lit_ge (by decide) hk c).elim, fun _ => ?_⟩
      rw [er, show (34 : Int32) * nI w + nI k = nI (34 * w + k) from ix_m]
      refine ⟨n_inR (by omega) (by decide), n_inR hk (by decide), fun σ' e1 v e2 => ?_⟩
      rw [n_cl (by omega), n_cl (by omega)] at e1
      rw [Nat.zero_add] at H
      rw [e1, e2, nI_1]; exact H
  · intro k hk H
    have er := hr (ci (wi (wi σ 209 0 0) 209 5 (nI w)) 212 210 (108 * w) 0 k) (fun j => rfl)
    refine sg_X5_undo_30 C r (nI k) _ ⟨fun c => (lit_ge (by decide) hk c).elim, fun _ => ?_⟩
    rw [er, show (108 : Int32) * nI w + nI k = nI (108 * w + k) from ix_m]
    refine ⟨n_inR (by omega) (by decide), n_inR hk (by decide), fun σ' e1 v e2 => ?_⟩
    rw [n_cl (by omega), n_cl (by omega)] at e1
    rw [Nat.zero_add] at H
    rw [e1, e2, nI_1]; exact H
theorem ct_X5_undo  (σ : Mem) (K : Int32 → Mem → Prop) (X : String → Mem → Prop) (h : sp_X5_undo  σ K X) : CtI yX5_undo cX5_undo 2 (some .int) 2 0 [.ref 209] σ K X :=
  ctI_of (by decide +kernel) (Nat.le_of_ble_eq_true rfl) (fun x C r => vc_X5_undo C r  σ h)
