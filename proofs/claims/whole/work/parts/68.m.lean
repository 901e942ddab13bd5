/-! HeatNetwork$Text.findFault()I: level 5, exceptions 0 -/
/-- the whole text is read -/
def sp_X3_findFault (σ : Mem) (K : Int32 → Mem → Prop) (X : String → Mem → Prop) : Prop := ∃ (s : Nat → Nat) (n : Nat), TxC s n σ ∧ (∀ (τ : Mem) (j : Nat) (l : List Df), pT s n 20 0 [] = (false, j, l) → j ≤ n → TxC s n τ → FrC 0 σ τ → K (nI j) τ) ∧ (∀ (τ : Mem) (l : List Df), pT s n 20 0 [] = (true, n, l) → l.length ≤ 20 → TxC s n τ → FrC 0 σ τ → DsC l τ → τ.1 79 3 = nI l.length → K (-1) τ)
set_option maxRecDepth 4000 in
theorem sg_X3_findFault_0 {x : Ctx} {K : Int32 → Mem → Prop} {X : String → Mem → Prop} (C : Cx x RX3 cX3_findFault 1) (r : RtI x 5 0 (some .int) K X)   (σ : Mem) (h : ∀ σ2 : Mem, σ2 = wi σ 79 2 0 → ∀ σ7 : Mem, σ7 = wi σ2 79 3 0 → Ws x 0 10 [(0, .ref 79)] [] σ7) : Ws x 0 0 [(0, .ref 79)] [] σ := by
  refine r_aload_n (j := 0) C 1 dX3_findFault_0 rfl rfl ?_
  refine r_iconst C 2 (v := 0) dX3_findFault_1 rfl (by decide) ?_
  refine r_putI (k := 2) C cl5 5 dX3_findFault_2 rfl kd_79 (by decide) wd_338 rfl rfl rfl rfl ?_
  refine r_nmS (fun σ2 e2 => ?_)
  have h := h σ2 e2
  refine r_aload_n (j := 0) C 6 dX3_findFault_5 rfl rfl ?_
  refine r_iconst C 7 (v := 0) dX3_findFault_6 rfl (by decide) ?_
  refine r_putI (k := 3) C cl5 10 dX3_findFault_7 rfl kd_79 (by decide) wd_339 rfl rfl rfl rfl ?_
  refine r_nmS (fun σ7 e7 => ?_)
  have h := h σ7 e7
  exact Ws_pick [0] rfl h
set_option maxRecDepth 4000 in
theorem sg_X3_findFault_10 {x : Ctx} {K : Int32 → Mem → Prop} {X : String → Mem → Prop} (C : Cx x RX3 cX3_findFault 1) (r : RtI x 5 0 (some .int) K X)   (σ : Mem) (h : (20 ≤ (σ.1 79 3) → K (σ.1 79 2) σ) ∧ (¬ 20 ≤ (σ.1 79 3) → sp_X3_readDefinition  σ (fun r20 σ20 => (r20 = 0 → K (σ20.1 79 2) σ20) ∧ (¬ r20 = 0 → sp_X3_take 59 σ20 (fun r29 σ29 => (¬ r29 = 0 → ∀ σ47 : Mem, σ47 = wi σ29 79 3 ((σ29.1 79 3) + 1) → (¬ (σ47.1 79 2) = (σ47.1 79 1) → Ws x 0 10 [(0, .ref 79)] [] σ47) ∧ ((σ47.1 79 2) = (σ47.1 79 1) → K (-1) σ47)) ∧ (r29 = 0 → K (σ29.1 79 2) σ29)) X)) X)) : Ws x 0 10 [(0, .ref 79)] [] σ := by
  refine r_aload_n (j := 0) C 11 dX3_findFault_10 rfl rfl ?_
  refine r_get (k := 3) C cl5 14 dX3_findFault_11 rfl kd_79 (by decide) wd_339 (.int (σ.1 79 3)) (fun _ => rfl) ?_
  refine r_bipush C 16 (v := 20) dX3_findFault_14 rfl (by decide) ?_
  refine r_icmp_ge C 63 19 dX3_findFault_16 (by decide) rfl (fun c16 => ?_) (fun c16 => ?_)
  · have h := h.1 c16
    refine r_aload_n (j := 0) C 64 dX3_findFault_63 rfl rfl ?_
    refine r_get (k := 2) C cl5 67 dX3_findFault_64 rfl kd_79 (by decide) wd_338 (.int (σ.1 79 2)) (fun _ => rfl) ?_
    exact r_iret (S := []) C r dX3_findFault_67 (by decide) rfl h
  · have h := h.2 c16
    refine r_aload_n (j := 0) C 20 dX3_findFault_19 rfl rfl ?_
    refine r_cVI (as := []) (S := []) C r.px 23 (ct_X3_readDefinition  _ _ _ h) dX3_findFault_20 rfl cl5 kd_79 wd_31 wd_963 rfl wd_961 wd_964 wd_94 yd_X3_readDefinition ⟨Nat.le_of_ble_eq_true rfl, Nat.le_of_ble_eq_true rfl⟩ (Nat.le_of_ble_eq_true rfl) (by decide) (fun r20 σ20 h => ?_)
    refine r_if_eq C 35 26 dX3_findFault_23 (by decide) rfl (fun c23 => ?_) (fun c23 => ?_)
    · have h := h.1 c23
      refine r_aload_n (j := 0) C 36 dX3_findFault_35 rfl rfl ?_
      refine r_get (k := 2) C cl5 39 dX3_findFault_36 rfl kd_79 (by decide) wd_338 (.int (σ20.1 79 2)) (fun _ => rfl) ?_
      exact r_iret (S := []) C r dX3_findFault_39 (by decide) rfl h
    · have h := h.2 c23
      refine r_aload_n (j := 0) C 27 dX3_findFault_26 rfl rfl ?_
      refine r_bipush C 29 (v := 59) dX3_findFault_27 rfl (by decide) ?_
      refine r_cVI (as := [.int 59]) (S := []) C r.px 32 (ct_X3_take _ _ _ _ h) dX3_findFault_29 rfl cl5 kd_79 wd_33 wd_971 rfl wd_969 wd_972 wd_94 yd_X3_take ⟨Nat.le_of_ble_eq_true rfl, Nat.le_of_ble_eq_true rfl⟩ (Nat.le_of_ble_eq_true rfl) (by decide) (fun r29 σ29 h => ?_)
      refine r_if_ne C 40 35 dX3_findFault_32 (by decide) rfl (fun c32 => ?_) (fun c32 => ?_)
      · have h := h.1 c32
        refine r_aload_n (j := 0) C 41 dX3_findFault_40 rfl rfl ?_
        refine r_dup C 42 dX3_findFault_41 rfl rfl ?_
        refine r_get (k := 3) C cl5 45 dX3_findFault_42 rfl kd_79 (by decide) wd_339 (.int (σ29.1 79 3)) (fun _ => rfl) ?_
        refine r_iconst C 46 (v := 1) dX3_findFault_45 rfl (by decide) ?_
        refine r_iadd C 47 dX3_findFault_46 rfl ?_
        refine r_putI (k := 3) C cl5 50 dX3_findFault_47 rfl kd_79 (by decide) wd_339 rfl rfl rfl rfl ?_
        refine r_nmS (fun σ47 e47 => ?_)
        have h := h σ47 e47
        refine r_aload_n (j := 0) C 51 dX3_findFault_50 rfl rfl ?_
        refine r_get (k := 2) C cl5 54 dX3_findFault_51 rfl kd_79 (by decide) wd_338 (.int (σ47.1 79 2)) (fun _ => rfl) ?_
        refine r_aload_n (j := 0) C 55 dX3_findFault_54 rfl rfl ?_
        refine r_get (k := 1) C cl5 58 dX3_findFault_55 rfl kd_79 (by decide) wd_336 (.int (σ47.1 79 1)) (fun _ => rfl) ?_
        refine r_icmp_ne C 10 61 dX3_findFault_58 (by decide) rfl (fun c58 => ?_) (fun c58 => ?_)
        · have h := h.1 c58
          exact Ws_pick [0] rfl h
        · have h := h.2 c58
          refine r_iconst C 62 (v := (-1)) dX3_findFault_61 rfl (by decide) ?_
          exact r_iret (S := []) C r dX3_findFault_62 (by decide) rfl h
      · have h := h.2 c32
        refine r_aload_n (j := 0) C 36 dX3_findFault_35 rfl rfl ?_
        refine r_get (k := 2) C cl5 39 dX3_findFault_36 rfl kd_79 (by decide) wd_338 (.int (σ29.1 79 2)) (fun _ => rfl) ?_
        exact r_iret (S := []) C r dX3_findFault_39 (by decide) rfl h
theorem vc_X3_findFault {x : Ctx} {K : Int32 → Mem → Prop} {X : String → Mem → Prop} (C : Cx x RX3 cX3_findFault 1) (r : RtI x 5 0 (some .int) K X) (σ : Mem) (h : sp_X3_findFault σ K X) : Ws x 0 0 [(0, .ref 79)] [] σ := by
  obtain ⟨s, n, hT, h0, h1⟩ := h
  have h60 := hT.1
  have H : ∀ (f i : Nat) (l : List Df) (τ : Mem), f + l.length = 20 → i ≤ n → TxC s n τ → τ.1 79 2 = nI i → τ.1 79 3 = nI l.length → FrC 0 σ τ → DsC l τ → pT s n f i l = pT s n 20 0 [] → Ws x 0 10 [(0, .ref 79)] [] τ := by
    intro f
    induction f with
    | zero =>
      intro i l τ hf hin hT hi hd hF hD hp
      refine sg_X3_findFault_10 C r τ ⟨fun _ => ?_, fun c => absurd (by rw [hd, show l.length = 20 by omega]; decide) c⟩
      rw [hi]
      exact h0 τ i l (by rw [← hp]; rfl) hin hT hF
    | succ f ih =>
      intro i l τ hf hin hT hi hd hF hD hp
      refine sg_X3_findFault_10 C r τ ⟨fun c => ?_, fun _ => i_X3_readDefinition hT hi hin hd (by omega) (fun υ j v hq hR => ⟨fun _ => ?_, fun q => absurd rfl q⟩) (fun υ j v hb hq hR => ⟨fun q => absurd q (by decide), fun _ => i_X3_take (c := 59) hR.1 hR.2.1 (Nat.le_trans hR.2.2.1 h60) (by decide) (fun e => ⟨fun _ σ47 e47 => ?_, fun q => absurd q (by decide)⟩) (fun e => ⟨fun q => absurd rfl q, fun _ => ?_⟩)⟩)⟩
      · rw [hd] at c
        exact absurd c (nI_ge (a := l.length) (b := 20) (by omega) (by decide))
      · rw [hR.2.1]
        refine h0 υ j l ?_ hR.2.2.1 hR.1 (hF.trans hR.2.2.2.2.2.2.2 (Nat.zero_le _))
        rw [← hp, pT, hq]
        exact if_neg (fun q => by cases q)
      · have hlt : j + 1 ≤ n := chT_lt (by rw [e]; decide)
        have hq' : pD s n i = (true, j + 1, v) := by rw [hq, pI_0y e]; rfl
        have hR2 := hR.pos (i' := j + 1) hlt
        have hD2 := hD.add rfl hin hq' hR2
        rw [hR2.2.2.2.1, nI_1] at e47
        have hF3 : FrC (l.length + 1) (wi υ 79 2 (nI (j + 1))) σ47 := by rw [e47]; exact (FrC.rfl' _ _).wi (.inl ⟨rfl, .inr rfl⟩)
        have hlen : (l ++ [dfO (chT s n i) v]).length = l.length + 1 := by simp
        have hD3 := hD2.fr hF3 (by omega)
        have hF4 : FrC 0 σ σ47 := (hF.trans hR2.2.2.2.2.2.2.2 (Nat.zero_le _)).trans hF3 (Nat.zero_le _)
        have t1 : σ47.1 79 1 = nI n := by rw [hF3.1 79 1 (by omega) (by omega) (by omega)]; exact hR2.1.2.1
        have t2 : σ47.1 79 2 = nI (j + 1) := by rw [e47, wi_i, if_neg (by omega)]; exact hR2.2.1
        have t3 : σ47.1 79 3 = nI (l.length + 1) := by rw [e47]; exact wi_at _ _ _ _
        have hT3 : TxC s n σ47 := hR2.1.of (by rw [t1]; exact hR2.1.2.1.symm) (fun k => hF3.1 80 k (by omega) (by omega) (by omega))
        rw [t1, t2, nI_eq (by omega) (by omega)]
        refine ⟨fun c => ?_, fun c => ?_⟩
        · refine ih (j + 1) (l ++ [dfO (chT s n i) v]) σ47 (by omega) hlt hT3 t2 (by rw [hlen]; exact t3) hF4 hD3 ?_
          rw [← hp, pT, hq', if_pos rfl, if_neg c]
        · refine h1 σ47 (l ++ [dfO (chT s n i) v]) ?_ (by omega) hT3 hF4 hD3 (by rw [hlen]; exact t3)
          rw [← hp, pT, hq', if_pos rfl, if_pos c]
      · rw [hR.2.1]
        refine h0 υ j l ?_ hR.2.2.1 hR.1 (hF.trans hR.2.2.2.2.2.2.2 (Nat.zero_le _))
        rw [← hp, pT, hq, pI_0n e]
        exact if_neg (fun q => by cases q)
  refine sg_X3_findFault_0 C r σ (fun σ2 e2 σ7 e7 => ?_)
  have hF : FrC 0 σ σ7 := by rw [e7, e2]; exact ((FrC.rfl' 0 σ).wi (.inl ⟨rfl, .inl rfl⟩)).wi (.inl ⟨rfl, .inr rfl⟩)
  refine H 20 0 [] σ7 rfl (Nat.zero_le n) (hT.of (hF.1 79 1 (by omega) (by omega) (by omega)) (fun k => hF.1 80 k (by omega) (by omega) (by omega))) ?_ ?_ hF (fun j d hj => by cases hj) rfl
  · rw [e7, wi_i, if_neg (by omega), e2]; exact wi_at _ _ _ _
  · rw [e7]; exact wi_at _ _ _ _
theorem ct_X3_findFault  (σ : Mem) (K : Int32 → Mem → Prop) (X : String → Mem → Prop) (h : sp_X3_findFault  σ K X) : CtI yX3_findFault cX3_findFault 1 (some .int) 5 0 [.ref 79] σ K X :=
  ctI_of (by decide +kernel) (Nat.le_of_ble_eq_true rfl) (fun x C r => vc_X3_findFault C r  σ h)
/-! HeatNetworkModel.definition(Z)I: level 8, exceptions 0 -/
/-- what a definition does -/
def spBy (k : Nat) (v : Nat → Int32) (σ : Mem) (K : Int32 → Mem → Prop) (X : String → Mem → Prop) : Prop := (k = 112 → sp_X5_pipeBy (v 0) (v 1) (v 2) (v 3) σ K X) ∧ (k = 115 → sp_X5_stationBy (v 0) (v 1) (v 2) (v 3) σ K X) ∧ (k = 120 → sp_X5_goneBy (v 0) σ K X) ∧ (k = 116 → sp_X5_settingBy (v 0) (v 1) σ K X) ∧ (k = 104 → sp_X5_hoursBy (v 0) σ K X)
def sp_X5_definition (p0 : Int32) (σ : Mem) (K : Int32 → Mem → Prop) (X : String → Mem → Prop) : Prop := ∃ (s : Nat → Nat) (n i : Nat), TxM s n σ ∧ σ.1 209 13 = nI i ∧ i ≤ n ∧ (∀ j v, pD s n i = (false, j, v) → K (-1) (wi σ 209 13 (nI j))) ∧ (∀ j v, pD s n i = (true, j, v) → (p0 = 0 → K 0 (wi σ 209 13 (nI j))) ∧ (¬ p0 = 0 → spBy (chT s n i) (dfO (chT s n i) v).2 (wi σ 209 13 (nI j)) K X))
set_option maxRecDepth 4000 in
theorem sg_X5_definition_0 {x : Ctx} {K : Int32 → Mem → Prop} {X : String → Mem → Prop} (C : Cx x RX5 cX5_definition 9) (r : RtI x 8 0 (some .int) K X) (p0 : Int32)  (σ : Mem) (h : sp_X5_here  σ (fun r1 σ1 => (r1 = 112 → Ws x 0 37 [(0, .ref 209), (1, .int p0), (2, .int r1)] [] σ1) ∧ (¬ r1 = 112 → (r1 = 115 → Ws x 0 37 [(0, .ref 209), (1, .int p0), (2, .int r1)] [] σ1) ∧ (¬ r1 = 115 → (r1 = 120 → Ws x 0 37 [(0, .ref 209), (1, .int p0), (2, .int r1)] [] σ1) ∧ (¬ r1 = 120 → (r1 = 116 → Ws x 0 37 [(0, .ref 209), (1, .int p0), (2, .int r1)] [] σ1) ∧ (¬ r1 = 116 → (r1 = 104 → Ws x 0 37 [(0, .ref 209), (1, .int p0), (2, .int r1)] [] σ1) ∧ (¬ r1 = 104 → K (-1) σ1)))))) X) : Ws x 0 0 [(0, .ref 209), (1, .int p0)] [] σ := by
  refine r_aload_n (j := 0) C 1 dX5_definition_0 rfl rfl ?_
  refine r_cVI (as := []) (S := []) C r.px 4 (ct_X5_here  _ _ _ h) dX5_definition_1 rfl cl7 kd_209 wd_81 wd_1549 rfl wd_1547 wd_1550 wd_95 yd_X5_here ⟨Nat.le_of_ble_eq_true rfl, Nat.le_of_ble_eq_true rfl⟩ (Nat.le_of_ble_eq_true rfl) (by decide) (fun r1 σ1 h => ?_)
  refine r_istore_n C 5 [(2, .int r1), (0, .ref 209), (1, .int p0)] dX5_definition_4 rfl (by decide) rfl ?_
  refine r_iload_n (j := 0) C 6 dX5_definition_5 rfl rfl ?_
  refine r_bipush C 8 (v := 112) dX5_definition_6 rfl (by decide) ?_
  refine r_icmp_eq C 37 11 dX5_definition_8 (by decide) rfl (fun c8 => ?_) (fun c8 => ?_)
  · have h := h.1 c8
    exact Ws_pick [1, 2, 0] rfl h
  · have h := h.2 c8
    refine r_iload_n (j := 0) C 12 dX5_definition_11 rfl rfl ?_
    refine r_bipush C 14 (v := 115) dX5_definition_12 rfl (by decide) ?_
    refine r_icmp_eq C 37 17 dX5_definition_14 (by decide) rfl (fun c14 => ?_) (fun c14 => ?_)
    · have h := h.1 c14
      exact Ws_pick [1, 2, 0] rfl h
    · have h := h.2 c14
      refine r_iload_n (j := 0) C 18 dX5_definition_17 rfl rfl ?_
      refine r_bipush C 20 (v := 120) dX5_definition_18 rfl (by decide) ?_
      refine r_icmp_eq C 37 23 dX5_definition_20 (by decide) rfl (fun c20 => ?_) (fun c20 => ?_)
      · have h := h.1 c20
        exact Ws_pick [1, 2, 0] rfl h
      · have h := h.2 c20
        refine r_iload_n (j := 0) C 24 dX5_definition_23 rfl rfl ?_
        refine r_bipush C 26 (v := 116) dX5_definition_24 rfl (by decide) ?_
        refine r_icmp_eq C 37 29 dX5_definition_26 (by decide) rfl (fun c26 => ?_) (fun c26 => ?_)
        · have h := h.1 c26
          exact Ws_pick [1, 2, 0] rfl h
        · have h := h.2 c26
          refine r_iload_n (j := 0) C 30 dX5_definition_29 rfl rfl ?_
          refine r_bipush C 32 (v := 104) dX5_definition_30 rfl (by decide) ?_
          refine r_icmp_eq C 37 35 dX5_definition_32 (by decide) rfl (fun c32 => ?_) (fun c32 => ?_)
          · have h := h.1 c32
            exact Ws_pick [1, 2, 0] rfl h
          · have h := h.2 c32
            refine r_iconst C 36 (v := (-1)) dX5_definition_35 rfl (by decide) ?_
            exact r_iret (S := []) C r dX5_definition_36 (by decide) rfl h
set_option maxRecDepth 4000 in
theorem sg_X5_definition_37 {x : Ctx} {K : Int32 → Mem → Prop} {X : String → Mem → Prop} (C : Cx x RX5 cX5_definition 9) (r : RtI x 8 0 (some .int) K X) (i1 : Int32) (i2 : Int32)  (σ : Mem) (h : ∀ σ44 : Mem, σ44 = wi σ 209 13 ((σ.1 209 13) + 1) → (¬ i2 = 104 → sp_X5_digit  σ44 (fun r61 σ61 => (0 ≤ r61 → Ws x 0 71 [(0, .ref 209), (1, .int i1), (2, .int i2), (3, .int r61)] [] σ61) ∧ (¬ 0 ≤ r61 → K (-1) σ61)) X) ∧ (i2 = 104 → sp_X5_number  σ44 (fun r54 σ54 => (0 ≤ r54 → Ws x 0 71 [(0, .ref 209), (1, .int i1), (2, .int i2), (3, .int r54)] [] σ54) ∧ (¬ 0 ≤ r54 → K (-1) σ54)) X)) : Ws x 0 37 [(0, .ref 209), (1, .int i1), (2, .int i2)] [] σ := by
  refine r_aload_n (j := 0) C 38 dX5_definition_37 rfl rfl ?_
  refine r_dup C 39 dX5_definition_38 rfl rfl ?_
  refine r_get (k := 13) C cl7 42 dX5_definition_39 rfl kd_209 (by decide) wd_1225 (.int (σ.1 209 13)) (fun _ => rfl) ?_
  refine r_iconst C 43 (v := 1) dX5_definition_42 rfl (by decide) ?_
  refine r_iadd C 44 dX5_definition_43 rfl ?_
  refine r_putI (k := 13) C cl7 47 dX5_definition_44 rfl kd_209 (by decide) wd_1225 rfl rfl rfl rfl ?_
  refine r_nmS (fun σ44 e44 => ?_)
  have h := h σ44 e44
  refine r_iload_n (j := 2) C 48 dX5_definition_47 rfl rfl ?_
  refine r_bipush C 50 (v := 104) dX5_definition_48 rfl (by decide) ?_
  refine r_icmp_ne C 60 53 dX5_definition_50 (by decide) rfl (fun c50 => ?_) (fun c50 => ?_)
  · have h := h.1 c50
    refine r_aload_n (j := 0) C 61 dX5_definition_60 rfl rfl ?_
    refine r_cVI (as := []) (S := []) C r.px 64 (ct_X5_digit  _ _ _ h) dX5_definition_61 rfl cl7 kd_209 wd_83 wd_1557 rfl wd_1555 wd_1558 wd_95 yd_X5_digit ⟨Nat.le_of_ble_eq_true rfl, Nat.le_of_ble_eq_true rfl⟩ (Nat.le_of_ble_eq_true rfl) (by decide) (fun r61 σ61 h => ?_)
    refine r_istore_n C 65 [(3, .int r61), (0, .ref 209), (1, .int i1), (2, .int i2)] dX5_definition_64 rfl (by decide) rfl ?_
    refine r_iload_n (j := 0) C 66 dX5_definition_65 rfl rfl ?_
    refine r_if_ge C 71 69 dX5_definition_66 (by decide) rfl (fun c66 => ?_) (fun c66 => ?_)
    · have h := h.1 c66
      exact Ws_pick [1, 2, 3, 0] rfl h
    · have h := h.2 c66
      refine r_iconst C 70 (v := (-1)) dX5_definition_69 rfl (by decide) ?_
      exact r_iret (S := []) C r dX5_definition_70 (by decide) rfl h
  · have h := h.2 c50
    refine r_aload_n (j := 0) C 54 dX5_definition_53 rfl rfl ?_
    refine r_cVI (as := []) (S := []) C r.px 57 (ct_X5_number  _ _ _ h) dX5_definition_54 rfl cl7 kd_209 wd_82 wd_1553 rfl wd_1551 wd_1554 wd_95 yd_X5_number ⟨Nat.le_of_ble_eq_true rfl, Nat.le_of_ble_eq_true rfl⟩ (Nat.le_of_ble_eq_true rfl) (by decide) (fun r54 σ54 h => ?_)
    refine r_goto C 64 dX5_definition_57 (by decide) ?_
    refine r_istore_n C 65 [(3, .int r54), (0, .ref 209), (1, .int i1), (2, .int i2)] dX5_definition_64 rfl (by decide) rfl ?_
    refine r_iload_n (j := 0) C 66 dX5_definition_65 rfl rfl ?_
    refine r_if_ge C 71 69 dX5_definition_66 (by decide) rfl (fun c66 => ?_) (fun c66 => ?_)
    · have h := h.1 c66
      exact Ws_pick [1, 2, 3, 0] rfl h
    · have h := h.2 c66
      refine r_iconst C 70 (v := (-1)) dX5_definition_69 rfl (by decide) ?_
      exact r_iret (S := []) C r dX5_definition_70 (by decide) rfl h
set_option maxRecDepth 4000 in
theorem sg_X5_definition_71 {x : Ctx} {K : Int32 → Mem → Prop} {X : String → Mem → Prop} (C : Cx x RX5 cX5_definition 9) (r : RtI x 8 0 (some .int) K X) (i1 : Int32) (i2 : Int32) (i3 : Int32)  (σ : Mem) (h : (¬ i2 = 112 → Ws x 0 112 [(0, .ref 209), (1, .int i1), (2, .int i2), (3, .int i3), (4, .int 0), (5, .int 0), (6, .int 0)] [] σ) ∧ (i2 = 112 → sp_X5_takes 45 σ (fun r89 σ89 => (r89 = 0 → (0 ≤ (-1 : Int32) → Ws x 0 112 [(0, .ref 209), (1, .int i1), (2, .int i2), (3, .int i3), (4, .int (-1)), (5, .int 0), (6, .int 0)] [] σ89) ∧ (¬ 0 ≤ (-1 : Int32) → K (-1) σ89)) ∧ (¬ r89 = 0 → sp_X5_digit  σ89 (fun r96 σ96 => (0 ≤ r96 → Ws x 0 112 [(0, .ref 209), (1, .int i1), (2, .int i2), (3, .int i3), (4, .int r96), (5, .int 0), (6, .int 0)] [] σ96) ∧ (¬ 0 ≤ r96 → K (-1) σ96)) X)) X)) : Ws x 0 71 [(0, .ref 209), (1, .int i1), (2, .int i2), (3, .int i3)] [] σ := by
  refine r_iconst C 72 (v := 0) dX5_definition_71 rfl (by decide) ?_
  refine r_istore C 74 [(4, .int 0), (0, .ref 209), (1, .int i1), (2, .int i2), (3, .int i3)] dX5_definition_72 rfl (by decide) rfl ?_
  refine r_iconst C 75 (v := 0) dX5_definition_74 rfl (by decide) ?_
  refine r_istore C 77 [(5, .int 0), (4, .int 0), (0, .ref 209), (1, .int i1), (2, .int i2), (3, .int i3)] dX5_definition_75 rfl (by decide) rfl ?_
  refine r_iconst C 78 (v := 0) dX5_definition_77 rfl (by decide) ?_
  refine r_istore C 80 [(6, .int 0), (5, .int 0), (4, .int 0), (0, .ref 209), (1, .int i1), (2, .int i2), (3, .int i3)] dX5_definition_78 rfl (by decide) rfl ?_
  refine r_iload_n (j := 5) C 81 dX5_definition_80 rfl rfl ?_
  refine r_bipush C 83 (v := 112) dX5_definition_81 rfl (by decide) ?_
  refine r_icmp_ne C 112 86 dX5_definition_83 (by decide) rfl (fun c83 => ?_) (fun c83 => ?_)
  · have h := h.1 c83
    exact Ws_pick [3, 4, 5, 6, 2, 1, 0] rfl h
  · have h := h.2 c83
    refine r_aload_n (j := 3) C 87 dX5_definition_86 rfl rfl ?_
    refine r_bipush C 89 (v := 45) dX5_definition_87 rfl (by decide) ?_
    refine r_cVI (as := [.int 45]) (S := []) C r.px 92 (ct_X5_takes _ _ _ _ h) dX5_definition_89 rfl cl7 kd_209 wd_84 wd_1561 rfl wd_1559 wd_1562 wd_95 yd_X5_takes ⟨Nat.le_of_ble_eq_true rfl, Nat.le_of_ble_eq_true rfl⟩ (Nat.le_of_ble_eq_true rfl) (by decide) (fun r89 σ89 h => ?_)
    refine r_if_eq C 102 95 dX5_definition_92 (by decide) rfl (fun c92 => ?_) (fun c92 => ?_)
    · have h := h.1 c92
      refine r_iconst C 103 (v := (-1)) dX5_definition_102 rfl (by decide) ?_
      refine r_istore C 105 [(4, .int (-1)), (6, .int 0), (5, .int 0), (0, .ref 209), (1, .int i1), (2, .int i2), (3, .int i3)] dX5_definition_103 rfl (by decide) rfl ?_
      refine r_iload (j := 0) C 107 dX5_definition_105 rfl rfl ?_
      refine r_if_ge C 112 110 dX5_definition_107 (by decide) rfl (fun c107 => ?_) (fun c107 => ?_)
      · have h := h.1 c107
        exact Ws_pick [3, 4, 5, 6, 0, 2, 1] rfl h
      · have h := h.2 c107
        refine r_iconst C 111 (v := (-1)) dX5_definition_110 rfl (by decide) ?_
        exact r_iret (S := []) C r dX5_definition_111 (by decide) rfl h
    · have h := h.2 c92
      refine r_aload_n (j := 3) C 96 dX5_definition_95 rfl rfl ?_
      refine r_cVI (as := []) (S := []) C r.px 99 (ct_X5_digit  _ _ _ h) dX5_definition_96 rfl cl7 kd_209 wd_83 wd_1557 rfl wd_1555 wd_1558 wd_95 yd_X5_digit ⟨Nat.le_of_ble_eq_true rfl, Nat.le_of_ble_eq_true rfl⟩ (Nat.le_of_ble_eq_true rfl) (by decide) (fun r96 σ96 h => ?_)
      refine r_goto C 103 dX5_definition_99 (by decide) ?_
      refine r_istore C 105 [(4, .int r96), (6, .int 0), (5, .int 0), (0, .ref 209), (1, .int i1), (2, .int i2), (3, .int i3)] dX5_definition_103 rfl (by decide) rfl ?_
      refine r_iload (j := 0) C 107 dX5_definition_105 rfl rfl ?_
      refine r_if_ge C 112 110 dX5_definition_107 (by decide) rfl (fun c107 => ?_) (fun c107 => ?_)
      · have h := h.1 c107
        exact Ws_pick [3, 4, 5, 6, 0, 2, 1] rfl h
      · have h := h.2 c107
        refine r_iconst C 111 (v := (-1)) dX5_definition_110 rfl (by decide) ?_
        exact r_iret (S := []) C r dX5_definition_111 (by decide) rfl h
set_option maxRecDepth 4000 in
theorem sg_X5_definition_112 {x : Ctx} {K : Int32 → Mem → Prop} {X : String → Mem → Prop} (C : Cx x RX5 cX5_definition 9) (r : RtI x 8 0 (some .int) K X) (i1 : Int32) (i2 : Int32) (i3 : Int32) (i4 : Int32) (i5 : Int32) (i6 : Int32)  (σ : Mem) (h : (i2 = 112 → sp_X5_takes 58 σ (fun r127 σ127 => (r127 = 0 → (0 ≤ (-1 : Int32) → Ws x 0 150 [(0, .ref 209), (1, .int i1), (2, .int i2), (3, .int i3), (4, .int i4), (5, .int (-1))] [] σ127) ∧ (¬ 0 ≤ (-1 : Int32) → K (-1) σ127)) ∧ (¬ r127 = 0 → sp_X5_number  σ127 (fun r134 σ134 => (0 ≤ r134 → Ws x 0 150 [(0, .ref 209), (1, .int i1), (2, .int i2), (3, .int i3), (4, .int i4), (5, .int r134)] [] σ134) ∧ (¬ 0 ≤ r134 → K (-1) σ134)) X)) X) ∧ (¬ i2 = 112 → (¬ i2 = 115 → Ws x 0 176 [(0, .ref 209), (1, .int i1), (2, .int i2), (3, .int i3), (4, .int i4), (5, .int i5), (6, .int i6)] [] σ) ∧ (i2 = 115 → sp_X5_takes 58 σ (fun r127 σ127 => (r127 = 0 → (0 ≤ (-1 : Int32) → Ws x 0 150 [(0, .ref 209), (1, .int i1), (2, .int i2), (3, .int i3), (4, .int i4), (5, .int (-1))] [] σ127) ∧ (¬ 0 ≤ (-1 : Int32) → K (-1) σ127)) ∧ (¬ r127 = 0 → sp_X5_number  σ127 (fun r134 σ134 => (0 ≤ r134 → Ws x 0 150 [(0, .ref 209), (1, .int i1), (2, .int i2), (3, .int i3), (4, .int i4), (5, .int r134)] [] σ134) ∧ (¬ 0 ≤ r134 → K (-1) σ134)) X)) X))) : Ws x 0 112 [(0, .ref 209), (1, .int i1), (2, .int i2), (3, .int i3), (4, .int i4), (5, .int i5), (6, .int i6)] [] σ := by
  refine r_iload_n (j := 2) C 113 dX5_definition_112 rfl rfl ?_
  refine r_bipush C 115 (v := 112) dX5_definition_113 rfl (by decide) ?_
  refine r_icmp_eq C 124 118 dX5_definition_115 (by decide) rfl (fun c115 => ?_) (fun c115 => ?_)
  · have h := h.1 c115
    refine r_aload_n (j := 0) C 125 dX5_definition_124 rfl rfl ?_
    refine r_bipush C 127 (v := 58) dX5_definition_125 rfl (by decide) ?_
    refine r_cVI (as := [.int 58]) (S := []) C r.px 130 (ct_X5_takes _ _ _ _ h) dX5_definition_127 rfl cl7 kd_209 wd_84 wd_1561 rfl wd_1559 wd_1562 wd_95 yd_X5_takes ⟨Nat.le_of_ble_eq_true rfl, Nat.le_of_ble_eq_true rfl⟩ (Nat.le_of_ble_eq_true rfl) (by decide) (fun r127 σ127 h => ?_)
    refine r_if_eq C 140 133 dX5_definition_130 (by decide) rfl (fun c130 => ?_) (fun c130 => ?_)
    · have h := h.1 c130
      refine r_iconst C 141 (v := (-1)) dX5_definition_140 rfl (by decide) ?_
      refine r_istore C 143 [(5, .int (-1)), (0, .ref 209), (1, .int i1), (2, .int i2), (3, .int i3), (4, .int i4), (6, .int i6)] dX5_definition_141 rfl (by decide) rfl ?_
      refine r_iload (j := 0) C 145 dX5_definition_143 rfl rfl ?_
      refine r_if_ge C 150 148 dX5_definition_145 (by decide) rfl (fun c145 => ?_) (fun c145 => ?_)
      · have h := h.1 c145
        exact Ws_pick [1, 2, 3, 4, 5, 0] rfl h
      · have h := h.2 c145
        refine r_iconst C 149 (v := (-1)) dX5_definition_148 rfl (by decide) ?_
        exact r_iret (S := []) C r dX5_definition_149 (by decide) rfl h
    · have h := h.2 c130
      refine r_aload_n (j := 0) C 134 dX5_definition_133 rfl rfl ?_
      refine r_cVI (as := []) (S := []) C r.px 137 (ct_X5_number  _ _ _ h) dX5_definition_134 rfl cl7 kd_209 wd_82 wd_1553 rfl wd_1551 wd_1554 wd_95 yd_X5_number ⟨Nat.le_of_ble_eq_true rfl, Nat.le_of_ble_eq_true rfl⟩ (Nat.le_of_ble_eq_true rfl) (by decide) (fun r134 σ134 h => ?_)
      refine r_goto C 141 dX5_definition_137 (by decide) ?_
      refine r_istore C 143 [(5, .int r134), (0, .ref 209), (1, .int i1), (2, .int i2), (3, .int i3), (4, .int i4), (6, .int i6)] dX5_definition_141 rfl (by decide) rfl ?_
      refine r_iload (j := 0) C 145 dX5_definition_143 rfl rfl ?_
      refine r_if_ge C 150 148 dX5_definition_145 (by decide) rfl (fun c145 => ?_) (fun c145 => ?_)
      · have h := h.1 c145
        exact Ws_pick [1, 2, 3, 4, 5, 0] rfl h
      · have h := h.2 c145
        refine r_iconst C 149 (v := (-1)) dX5_definition_148 rfl (by decide) ?_
        exact r_iret (S := []) C r dX5_definition_149 (by decide) rfl h
  · have h := h.2 c115
    refine r_iload_n (j := 2) C 119 dX5_definition_118 rfl rfl ?_
    refine r_bipush C 121 (v := 115) dX5_definition_119 rfl (by decide) ?_
    refine r_icmp_ne C 176 124 dX5_definition_121 (by decide) rfl (fun c121 => ?_) (fun c121 => ?_)
    · have h := h.1 c121
      exact Ws_pick [0, 1, 2, 3, 4, 5, 6] rfl h
    · have h := h.2 c121
      refine r_aload_n (j := 0) C 125 dX5_definition_124 rfl rfl ?_
      refine r_bipush C 127 (v := 58) dX5_definition_125 rfl (by decide) ?_
      refine r_cVI (as := [.int 58]) (S := []) C r.px 130 (ct_X5_takes _ _ _ _ h) dX5_definition_127 rfl cl7 kd_209 wd_84 wd_1561 rfl wd_1559 wd_1562 wd_95 yd_X5_takes ⟨Nat.le_of_ble_eq_true rfl, Nat.le_of_ble_eq_true rfl⟩ (Nat.le_of_ble_eq_true rfl) (by decide) (fun r127 σ127 h => ?_)
      refine r_if_eq C 140 133 dX5_definition_130 (by decide) rfl (fun c130 => ?_) (fun c130 => ?_)
      · have h := h.1 c130
        refine r_iconst C 141 (v := (-1)) dX5_definition_140 rfl (by decide) ?_
        refine r_istore C 143 [(5, .int (-1)), (0, .ref 209), (1, .int i1), (2, .int i2), (3, .int i3), (4, .int i4), (6, .int i6)] dX5_definition_141 rfl (by decide) rfl ?_
        refine r_iload (j := 0) C 145 dX5_definition_143 rfl rfl ?_
        refine r_if_ge C 150 148 dX5_definition_145 (by decide) rfl (fun c145 => ?_) (fun c145 => ?_)
        · have h := h.1 c145
          exact Ws_pick [1, 2, 3, 4, 5, 0] rfl h
        · have h := h.2 c145
          refine r_iconst C 149 (v := (-1)) dX5_definition_148 rfl (by decide) ?_
          exact r_iret (S := []) C r dX5_definition_149 (by decide) rfl h
      · have h := h.2 c130
        refine r_aload_n (j := 0) C 134 dX5_definition_133 rfl rfl ?_
        refine r_cVI (as := []) (S := []) C r.px 137 (ct_X5_number  _ _ _ h) dX5_definition_134 rfl cl7 kd_209 wd_82 wd_1553 rfl wd_1551 wd_1554 wd_95 yd_X5_number ⟨Nat.le_of_ble_eq_true rfl, Nat.le_of_ble_eq_true rfl⟩ (Nat.le_of_ble_eq_true rfl) (by decide) (fun r134 σ134 h => ?_)
        refine r_goto C 141 dX5_definition_137 (by decide) ?_
        refine r_istore C 143 [(5, .int r134), (0, .ref 209), (1, .int i1), (2, .int i2), (3, .int i3), (4, .int i4), (6, .int i6)] dX5_definition_141 rfl (by decide) rfl ?_
        refine r_iload (j := 0) C 145 dX5_definition_143 rfl rfl ?_
        refine r_if_ge C 150 148 dX5_definition_145 (by decide) rfl (fun c145 => ?_) (fun c145 => ?_)
        · have h := h.1 c145
          exact Ws_pick [1, 2, 3, 4, 5, 0] rfl h
        · have h := h.2 c145
          refine r_iconst C 149 (v := (-1)) dX5_definition_148 rfl (by decide) ?_
          exact r_iret (S := []) C r dX5_definition_149 (by decide) rfl h
set_option maxRecDepth 4000 in
theorem sg_X5_definition_150 {x : Ctx} {K : Int32 → Mem → Prop} {X : String → Mem → Prop} (C : Cx x RX5 cX5_definition 9) (r : RtI x 8 0 (some .int) K X) (i1 : Int32) (i2 : Int32) (i3 : Int32) (i4 : Int32) (i5 : Int32)  (σ : Mem) (h : sp_X5_takes 44 σ (fun r153 σ153 => (r153 = 0 → (0 ≤ (-1 : Int32) → Ws x 0 176 [(0, .ref 209), (1, .int i1), (2, .int i2), (3, .int i3), (4, .int i4), (5, .int i5), (6, .int (-1))] [] σ153) ∧ (¬ 0 ≤ (-1 : Int32) → K (-1) σ153)) ∧ (¬ r153 = 0 → sp_X5_number  σ153 (fun r160 σ160 => (0 ≤ r160 → Ws x 0 176 [(0, .ref 209), (1, .int i1), (2, .int i2), (3, .int i3), (4, .int i4), (5, .int i5), (6, .int r160)] [] σ160) ∧ (¬ 0 ≤ r160 → K (-1) σ160)) X)) X) : Ws x 0 150 [(0, .ref 209), (1, .int i1), (2, .int i2), (3, .int i3), (4, .int i4), (5, .int i5)] [] σ := by
  refine r_aload_n (j := 0) C 151 dX5_definition_150 rfl rfl ?_
  refine r_bipush C 153 (v := 44) dX5_definition_151 rfl (by decide) ?_
  refine r_cVI (as := [.int 44]) (S := []) C r.px 156 (ct_X5_takes _ _ _ _ h) dX5_definition_153 rfl cl7 kd_209 wd_84 wd_1561 rfl wd_1559 wd_1562 wd_95 yd_X5_takes ⟨Nat.le_of_ble_eq_true rfl, Nat.le_of_ble_eq_true rfl⟩ (Nat.le_of_ble_eq_true rfl) (by decide) (fun r153 σ153 h => ?_)
  refine r_if_eq C 166 159 dX5_definition_156 (by decide) rfl (fun c156 => ?_) (fun c156 => ?_)
  · have h := h.1 c156
    refine r_iconst C 167 (v := (-1)) dX5_definition_166 rfl (by decide) ?_
    refine r_istore C 169 [(6, .int (-1)), (0, .ref 209), (1, .int i1), (2, .int i2), (3, .int i3), (4, .int i4), (5, .int i5)] dX5_definition_167 rfl (by decide) rfl ?_
    refine r_iload (j := 0) C 171 dX5_definition_169 rfl rfl ?_
    refine r_if_ge C 176 174 dX5_definition_171 (by decide) rfl (fun c171 => ?_) (fun c171 => ?_)
    · have h := h.1 c171
      exact Ws_pick [1, 2, 3, 4, 5, 6, 0] rfl h
    · have h := h.2 c171
      refine r_iconst C 175 (v := (-1)) dX5_definition_174 rfl (by decide) ?_
      exact r_iret (S := []) C r dX5_definition_175 (by decide) rfl h
  · have h := h.2 c156
    refine r_aload_n (j := 0) C 160 dX5_definition_159 rfl rfl ?_
    refine r_cVI (as := []) (S := []) C r.px 163 (ct_X5_number  _ _ _ h) dX5_definition_160 rfl cl7 kd_209 wd_82 wd_1553 rfl wd_1551 wd_1554 wd_95 yd_X5_number ⟨Nat.le_of_ble_eq_true rfl, Nat.le_of_ble_eq_true rfl⟩ (Nat.le_of_ble_eq_true rfl) (by decide) (fun r160 σ160 h => ?_)
    refine r_goto C 167 dX5_definition_163 (by decide) ?_
    refine r_istore C 169 [(6, .int r160), (0, .ref 209), (1, .int i1), (2, .int i2), (3, .int i3), (4, .int i4), (5, .int i5)] dX5_definition_167 rfl (by decide) rfl ?_
    refine r_iload (j := 0) C 171 dX5_definition_169 rfl rfl ?_
    refine r_if_ge C 176 174 dX5_definition_171 (by decide) rfl (fun c171 => ?_) (fun c171 => ?_)
    · have h := h.1 c171
      exact Ws_pick [1, 2, 3, 4, 5, 6, 0] rfl h
    · have h := h.2 c171
      refine r_iconst C 175 (v := (-1)) dX5_definition_174 rfl (by decide) ?_
      exact r_iret (S := []) C r dX5_definition_175 (by decide) rfl h
set_option maxRecDepth 4000 in
theorem sg_X5_definition_176 {x : Ctx} {K : Int32 → Mem → Prop} {X : String → Mem → Prop} (C : Cx x RX5 cX5_definition 9) (r : RtI x 8 0 (some .int) K X) (i1 : Int32) (i2 : Int32) (i3 : Int32) (i4 : Int32) (i5 : Int32) (i6 : Int32)  (σ : Mem) (h : (¬ i2 = 115 → Ws x 0 211 [(0, .ref 209), (1, .int i1), (2, .int i2), (3, .int i3), (4, .int i4), (5, .int i5), (6, .int i6), (7, .int 0)] [] σ) ∧ (i2 = 115 → sp_X5_takes 44 σ (fun r188 σ188 => (r188 = 0 → (0 ≤ (-1 : Int32) → Ws x 0 211 [(0, .ref 209), (1, .int i1), (2, .int i2), (3, .int i3), (4, .int i4), (5, .int i5), (6, .int i6), (7, .int (-1))] [] σ188) ∧ (¬ 0 ≤ (-1 : Int32) → K (-1) σ188)) ∧ (¬ r188 = 0 → sp_X5_number  σ188 (fun r195 σ195 => (0 ≤ r195 → Ws x 0 211 [(0, .ref 209), (1, .int i1), (2, .int i2), (3, .int i3), (4, .int i4), (5, .int i5), (6, .int i6), (7, .int r195)] [] σ195) ∧ (¬ 0 ≤ r195 → K (-1) σ195)) X)) X)) : Ws x 0 176 [(0, .ref 209), (1, .int i1), (2, .int i2), (3, .int i3), (4, .int i4), (5, .int i5), (6, .int i6)] [] σ := by
  refine r_iconst C 177 (v := 0) dX5_definition_176 rfl (by decide) ?_
  refine r_istore C 179 [(7, .int 0), (0, .ref 209), (1, .int i1), (2, .int i2), (3, .int i3), (4, .int i4), (5, .int i5), (6, .int i6)] dX5_definition_177 rfl (by decide) rfl ?_
  refine r_iload_n (j := 3) C 180 dX5_definition_179 rfl rfl ?_
  refine r_bipush C 182 (v := 115) dX5_definition_180 rfl (by decide) ?_
  refine r_icmp_ne C 211 185 dX5_definition_182 (by decide) rfl (fun c182 => ?_) (fun c182 => ?_)
  · have h := h.1 c182
    exact Ws_pick [1, 2, 3, 4, 5, 6, 7, 0] rfl h
  · have h := h.2 c182
    refine r_aload_n (j := 1) C 186 dX5_definition_185 rfl rfl ?_
    refine r_bipush C 188 (v := 44) dX5_definition_186 rfl (by decide) ?_
    refine r_cVI (as := [.int 44]) (S := []) C r.px 191 (ct_X5_takes _ _ _ _ h) dX5_definition_188 rfl cl7 kd_209 wd_84 wd_1561 rfl wd_1559 wd_1562 wd_95 yd_X5_takes ⟨Nat.le_of_ble_eq_true rfl, Nat.le_of_ble_eq_true rfl⟩ (Nat.le_of_ble_eq_true rfl) (by decide) (fun r188 σ188 h => ?_)
    refine r_if_eq C 201 194 dX5_definition_191 (by decide) rfl (fun c191 => ?_) (fun c191 => ?_)
    · have h := h.1 c191
      refine r_iconst C 202 (v := (-1)) dX5_definition_201 rfl (by decide) ?_
      refine r_istore C 204 [(7, .int (-1)), (0, .ref 209), (1, .int i1), (2, .int i2), (3, .int i3), (4, .int i4), (5, .int i5), (6, .int i6)] dX5_definition_202 rfl (by decide) rfl ?_
      refine r_iload (j := 0) C 206 dX5_definition_204 rfl rfl ?_
      refine r_if_ge C 211 209 dX5_definition_206 (by decide) rfl (fun c206 => ?_) (fun c206 => ?_)
      · have h := h.1 c206
        exact Ws_pick [1, 2, 3, 4, 5, 6, 7, 0] rfl h
      · have h := h.2 c206
        refine r_iconst C 210 (v := (-1)) dX5_definition_209 rfl (by decide) ?_
        exact r_iret (S := []) C r dX5_definition_210 (by decide) rfl h
    · have h := h.2 c191
      refine r_aload_n (j := 1) C 195 dX5_definition_194 rfl rfl ?_
      refine r_cVI (as := []) (S := []) C r.px 198 (ct_X5_number  _ _ _ h) dX5_definition_195 rfl cl7 kd_209 wd_82 wd_1553 rfl wd_1551 wd_1554 wd_95 yd_X5_number ⟨Nat.le_of_ble_eq_true rfl, Nat.le_of_ble_eq_true rfl⟩ (Nat.le_of_ble_eq_true rfl) (by decide) (fun r195 σ195 h => ?_)
      refine r_goto C 202 dX5_definition_198 (by decide) ?_
      refine r_istore C 204 [(7, .int r195), (0, .ref 209), (1, .int i1), (2, .int i2), (3, .int i3), (4, .int i4), (5, .int i5), (6, .int i6)] dX5_definition_202 rfl (by decide) rfl ?_
      refine r_iload (j := 0) C 206 dX5_definition_204 rfl rfl ?_
      refine r_if_ge C 211 209 dX5_definition_206 (by decide) rfl (fun c206 => ?_) (fun c206 => ?_)
      · have h := h.1 c206
        exact Ws_pick [1, 2, 3, 4, 5, 6, 7, 0] rfl h
      · have h := h.2 c206
        refine r_iconst C 210 (v := (-1)) dX5_definition_209 rfl (by decide) ?_
        exact r_iret (S := []) C r dX5_definition_210 (by decide) rfl h
set_option maxRecDepth 4000 in
theorem sg_X5_definition_211 {x : Ctx} {K : Int32 → Mem → Prop} {X : String → Mem → Prop} (C : Cx x RX5 cX5_definition 9) (r : RtI x 8 0 (some .int) K X) (i1 : Int32) (i2 : Int32) (i3 : Int32) (i4 : Int32) (i5 : Int32) (i6 : Int32) (i7 : Int32)  (σ : Mem) (h : (¬ i2 = 116 → Ws x 0 259 [(0, .ref 209), (1, .int i1), (2, .int i2), (3, .int i3), (4, .int i4), (5, .int i5), (6, .int i6), (7, .int i7)] [] σ) ∧ (i2 = 116 → sp_X5_takes 61 σ (fun r220 σ220 => (¬ r220 = 0 → sp_X5_takes 45 σ220 (fun r231 σ231 => sp_X5_number  σ231 (fun r237 σ237 => (0 ≤ r237 → (r231 = 0 → Ws x 0 259 [(0, .ref 209), (1, .int i1), (2, .int i2), (3, .int i3), (4, .int r237), (5, .int i5), (6, .int i6), (7, .int i7)] [] σ237) ∧ (¬ r231 = 0 → ∀ v257 : Int32, v257 = (-r237) → Ws x 0 259 [(0, .ref 209), (1, .int i1), (2, .int i2), (3, .int i3), (4, .int v257), (5, .int i5), (6, .int i6), (7, .int i7)] [] σ237)) ∧ (¬ 0 ≤ r237 → K (-1) σ237)) X) X) ∧ (r220 = 0 → K (-1) σ220)) X)) : Ws x 0 211 [(0, .ref 209), (1, .int i1), (2, .int i2), (3, .int i3), (4, .int i4), (5, .int i5), (6, .int i6), (7, .int i7)] [] σ := by
  refine r_iload_n (j := 2) C 212 dX5_definition_211 rfl rfl ?_
  refine r_bipush C 214 (v := 116) dX5_definition_212 rfl (by decide) ?_
  refine r_icmp_ne C 259 217 dX5_definition_214 (by decide) rfl (fun c214 => ?_) (fun c214 => ?_)
  · have h := h.1 c214
    exact Ws_pick [0, 1, 2, 3, 4, 5, 6, 7] rfl h
  · have h := h.2 c214
    refine r_aload_n (j := 0) C 218 dX5_definition_217 rfl rfl ?_
    refine r_bipush C 220 (v := 61) dX5_definition_218 rfl (by decide) ?_
    refine r_cVI (as := [.int 61]) (S := []) C r.px 223 (ct_X5_takes _ _ _ _ h) dX5_definition_220 rfl cl7 kd_209 wd_84 wd_1561 rfl wd_1559 wd_1562 wd_95 yd_X5_takes ⟨Nat.le_of_ble_eq_true rfl, Nat.le_of_ble_eq_true rfl⟩ (Nat.le_of_ble_eq_true rfl) (by decide) (fun r220 σ220 h => ?_)
    refine r_if_ne C 228 226 dX5_definition_223 (by decide) rfl (fun c223 => ?_) (fun c223 => ?_)
    · have h := h.1 c223
      refine r_aload_n (j := 0) C 229 dX5_definition_228 rfl rfl ?_
      refine r_bipush C 231 (v := 45) dX5_definition_229 rfl (by decide) ?_
      refine r_cVI (as := [.int 45]) (S := []) C r.px 234 (ct_X5_takes _ _ _ _ h) dX5_definition_231 rfl cl7 kd_209 wd_84 wd_1561 rfl wd_1559 wd_1562 wd_95 yd_X5_takes ⟨Nat.le_of_ble_eq_true rfl, Nat.le_of_ble_eq_true rfl⟩ (Nat.le_of_ble_eq_true rfl) (by decide) (fun r231 σ231 h => ?_)
      refine r_istore C 236 [(8, .int r231), (0, .ref 209), (1, .int i1), (2, .int i2), (3, .int i3), (4, .int i4), (5, .int i5), (6, .int i6), (7, .int i7)] dX5_definition_234 rfl (by decide) rfl ?_
      refine r_aload_n (j := 1) C 237 dX5_definition_236 rfl rfl ?_
      refine r_cVI (as := []) (S := []) C r.px 240 (ct_X5_number  _ _ _ h) dX5_definition_237 rfl cl7 kd_209 wd_82 wd_1553 rfl wd_1551 wd_1554 wd_95 yd_X5_number ⟨Nat.le_of_ble_eq_true rfl, Nat.le_of_ble_eq_true rfl⟩ (Nat.le_of_ble_eq_true rfl) (by decide) (fun r237 σ237 h => ?_)
      refine r_istore C 242 [(4, .int r237), (8, .int r231), (0, .ref 209), (1, .int i1), (2, .int i2), (3, .int i3), (5, .int i5), (6, .int i6), (7, .int i7)] dX5_definition_240 rfl (by decide) rfl ?_
      refine r_iload (j := 0) C 244 dX5_definition_242 rfl rfl ?_
      refine r_if_ge C 249 247 dX5_definition_244 (by decide) rfl (fun c244 => ?_) (fun c244 => ?_)
      · have h := h.1 c244
        refine r_iload (j := 1) C 251 dX5_definition_249 rfl rfl ?_
        refine r_if_eq C 259 254 dX5_definition_251 (by decide) rfl (fun c251 => ?_) (fun c251 => ?_)
        · have h := h.1 c251
          exact Ws_pick [2, 3, 4, 5, 0, 6, 7, 8] rfl h
        · have h := h.2 c251
          refine r_iload (j := 0) C 256 dX5_definition_254 rfl rfl ?_
          refine r_ineg C 257 dX5_definition_256 rfl ?_
          refine r_nmI (fun v257 e257 => ?_)
          have h := h v257 e257
          refine r_istore C 259 [(4, .int v257), (8, .int r231), (0, .ref 209), (1, .int i1), (2, .int i2), (3, .int i3), (5, .int i5), (6, .int i6), (7, .int i7)] dX5_definition_257 rfl (by decide) rfl ?_
          exact Ws_pick [2, 3, 4, 5, 0, 6, 7, 8] rfl h
      · have h := h.2 c244
        refine r_iconst C 248 (v := (-1)) dX5_definition_247 rfl (by decide) ?_
        exact r_iret (S := []) C r dX5_definition_248 (by decide) rfl h
    · have h := h.2 c223
      refine r_iconst C 227 (v := (-1)) dX5_definition_226 rfl (by decide) ?_
      exact r_iret (S := []) C r dX5_definition_227 (by decide) rfl h
set_option maxRecDepth 4000 in
theorem sg_X5_definition_259 {x : Ctx} {K : Int32 → Mem → Prop} {X : String → Mem → Prop} (C : Cx x RX5 cX5_definition 9) (r : RtI x 8 0 (some .int) K X) (i1 : Int32) (i2 : Int32) (i3 : Int32) (i4 : Int32) (i5 : Int32) (i6 : Int32) (i7 : Int32)  (σ : Mem) (h : sp_X5_takes 59 σ (fun r262 σ262 => (¬ r262 = 0 → (¬ i1 = 0 → (i2 = 112 → sp_X5_pipeBy i3 i4 i5 i6 σ262 (fun r336 σ336 => K r336 σ336) X) ∧ (i2 = 113 → sp_X5_hoursBy i3 σ262 (fun r368 σ368 => K r368 σ368) X) ∧ (i2 = 114 → sp_X5_hoursBy i3 σ262 (fun r368 σ368 => K r368 σ368) X) ∧ (i2 = 115 → sp_X5_stationBy i3 i5 i6 i7 σ262 (fun r348 σ348 => K r348 σ348) X) ∧ (i2 = 116 → sp_X5_settingBy i3 i4 σ262 (fun r362 σ362 => K r362 σ362) X) ∧ (i2 = 117 → sp_X5_hoursBy i3 σ262 (fun r368 σ368 => K r368 σ368) X) ∧ (i2 = 118 → sp_X5_hoursBy i3 σ262 (fun r368 σ368 => K r368 σ368) X) ∧ (i2 = 119 → sp_X5_hoursBy i3 σ262 (fun r368 σ368 => K r368 σ368) X) ∧ (i2 = 120 → sp_X5_goneBy i3 σ262 (fun r354 σ354 => K r354 σ354) X) ∧ (¬ i2 = 112 → ¬ i2 = 113 → ¬ i2 = 114 → ¬ i2 = 115 → ¬ i2 = 116 → ¬ i2 = 117 → ¬ i2 = 118 → ¬ i2 = 119 → ¬ i2 = 120 → sp_X5_hoursBy i3 σ262 (fun r368 σ368 => K r368 σ368) X)) ∧ (i1 = 0 → K 0 σ262)) ∧ (r262 = 0 → K (-1) σ262)) X) : Ws x 0 259 [(0, .ref 209), (1, .int i1), (2, .int i2), (3, .int i3), (4, .int i4), (5, .int i5), (6, .int i6), (7, .int i7)] [] σ := by
  refine r_aload_n (j := 0) C 260 dX5_definition_259 rfl rfl ?_
  refine r_bipush C 262 (v := 59) dX5_definition_260 rfl (by decide) ?_
  refine r_cVI (as := [.int 59]) (S := []) C r.px 265 (ct_X5_takes _ _ _ _ h) dX5_definition_262 rfl cl7 kd_209 wd_84 wd_1561 rfl wd_1559 wd_1562 wd_95 yd_X5_takes ⟨Nat.le_of_ble_eq_true rfl, Nat.le_of_ble_eq_true rfl⟩ (Nat.le_of_ble_eq_true rfl) (by decide) (fun r262 σ262 h => ?_)
  refine r_if_ne C 270 268 dX5_definition_265 (by decide) rfl (fun c265 => ?_) (fun c265 => ?_)
  · have h := h.1 c265
    refine r_iload_n (j := 1) C 271 dX5_definition_270 rfl rfl ?_
    refine r_if_ne C 276 274 dX5_definition_271 (by decide) rfl (fun c271 => ?_) (fun c271 => ?_)
    · have h := h.1 c271
      refine r_iload_n (j := 2) C 277 dX5_definition_276 rfl rfl ?_
      by_cases c277_0 : i2 = 112
      · have h := h.1 c277_0
        refine r_tblIn C 328 (off := 51) dX5_definition_277 (by rw [c277_0]; decide) (by rw [c277_0]; decide) (by rw [c277_0] <;> rfl) (by decide) ?_
        refine r_aload_n (j := 0) C 329 dX5_definition_328 rfl rfl ?_
        refine r_iload_n (j := 3) C 330 dX5_definition_329 rfl rfl ?_
        refine r_iload (j := 4) C 332 dX5_definition_330 rfl rfl ?_
        refine r_iload (j := 5) C 334 dX5_definition_332 rfl rfl ?_
        refine r_iload (j := 6) C 336 dX5_definition_334 rfl rfl ?_
        refine r_cVI (as := [.int i3, .int i4, .int i5, .int i6]) (S := []) C r.px 339 (ct_X5_pipeBy _ _ _ _ _ _ _ h) dX5_definition_336 rfl cl7 kd_209 wd_44 wd_1353 rfl wd_1351 wd_1354 wd_95 yd_X5_pipeBy ⟨Nat.le_of_ble_eq_true rfl, Nat.le_of_ble_eq_true rfl⟩ (Nat.le_of_ble_eq_true rfl) (by decide) (fun r336 σ336 h => ?_)
        exact r_iret (S := []) C r dX5_definition_339 (by decide) rfl h
      by_cases c277_1 : i2 = 113
      · have h := h.2.1 c277_1
        refine r_tblIn C 366 (off := 89) dX5_definition_277 (by rw [c277_1]; decide) (by rw [c277_1]; decide) (by rw [c277_1] <;> rfl) (by decide) ?_
        refine r_aload_n (j := 0) C 367 dX5_definition_366 rfl rfl ?_
        refine r_iload_n (j := 3) C 368 dX5_definition_367 rfl rfl ?_
        refine r_cVI (as := [.int i3]) (S := []) C r.px 371 (ct_X5_hoursBy _ _ _ _ h) dX5_definition_368 rfl cl7 kd_209 wd_55 wd_1424 rfl wd_1422 wd_1425 wd_95 yd_X5_hoursBy ⟨Nat.le_of_ble_eq_true rfl, Nat.le_of_ble_eq_true rfl⟩ (Nat.le_of_ble_eq_true rfl) (by decide) (fun r368 σ368 h => ?_)
        exact r_iret (S := []) C r dX5_definition_371 (by decide) rfl h
      by_cases c277_2 : i2 = 114
      · have h := h.2.2.1 c277_2
        refine r_tblIn C 366 (off := 89) dX5_definition_277 (by rw [c277_2]; decide) (by rw [c277_2]; decide) (by rw [c277_2] <;> rfl) (by decide) ?_
        refine r_aload_n (j := 0) C 367 dX5_definition_366 rfl rfl ?_
        refine r_iload_n (j := 3) C 368 dX5_definition_367 rfl rfl ?_
        refine r_cVI (as := [.int i3]) (S := []) C r.px 371 (ct_X5_hoursBy _ _ _ _ h) dX5_definition_368 rfl cl7 kd_209 wd_55 wd_1424 rfl wd_1422 wd_1425 wd_95 yd_X5_hoursBy ⟨Nat.le_of_ble_eq_true rfl, Nat.le_of_ble_eq_true rfl⟩ (Nat.le_of_ble_eq_true rfl) (by decide) (fun r368 σ368 h => ?_)
        exact r_iret (S := []) C r dX5_definition_371 (by decide) rfl h
      by_cases c277_3 : i2 = 115
      · have h := h.2.2.2.1 c277_3
        refine r_tblIn C 340 (off := 63) dX5_definition_277 (by rw [c277_3]; decide) (by rw [c277_3]; decide) (by rw [c277_3] <;> rfl) (by decide) ?_
        refine r_aload_n (j := 0) C 341 dX5_definition_340 rfl rfl ?_
        refine r_iload_n (j := 3) C 342 dX5_definition_341 rfl rfl ?_
        refine r_iload (j := 5) C 344 dX5_definition_342 rfl rfl ?_
        refine r_iload (j := 6) C 346 dX5_definition_344 rfl rfl ?_
        refine r_iload (j := 7) C 348 dX5_definition_346 rfl rfl ?_
        refine r_cVI (as := [.int i3, .int i5, .int i6, .int i7]) (S := []) C r.px 351 (ct_X5_stationBy _ _ _ _ _ _ _ h) dX5_definition_348 rfl cl7 kd_209 wd_51 wd_1392 rfl wd_1390 wd_1393 wd_95 yd_X5_stationBy ⟨Nat.le_of_ble_eq_true rfl, Nat.le_of_ble_eq_true rfl⟩ (Nat.le_of_ble_eq_true rfl) (by decide) (fun r348 σ348 h => ?_)
        exact r_iret (S := []) C r dX5_definition_351 (by decide) rfl h
      by_cases c277_4 : i2 = 116
      · have h := h.2.2.2.2.1 c277_4
        refine r_tblIn C 358 (off := 81) dX5_definition_277 (by rw [c277_4]; decide) (by rw [c277_4]; decide) (by rw [c277_4] <;> rfl) (by decide) ?_
        refine r_aload_n (j := 0) C 359 dX5_definition_358 rfl rfl ?_
        refine r_iload_n (j := 3) C 360 dX5_definition_359 rfl rfl ?_
        refine r_iload (j := 4) C 362 dX5_definition_360 rfl rfl ?_
        refine r_cVI (as := [.int i3, .int i4]) (S := []) C r.px 365 (ct_X5_settingBy _ _ _ _ _ h) dX5_definition_362 rfl cl7 kd_209 wd_85 wd_1565 rfl wd_1563 wd_1566 wd_95 yd_X5_settingBy ⟨Nat.le_of_ble_eq_true rfl, Nat.le_of_ble_eq_true rfl⟩ (Nat.le_of_ble_eq_true rfl) (by decide) (fun r362 σ362 h => ?_)
        exact r_iret (S := []) C r dX5_definition_365 (by decide) rfl h
      by_cases c277_5 : i2 = 117
      · have h := h.2.2.2.2.2.1 c277_5
        refine r_tblIn C 366 (off := 89) dX5_definition_277 (by rw [c277_5]; decide) (by rw [c277_5]; decide) (by rw [c277_5] <;> rfl) (by decide) ?_
        refine r_aload_n (j := 0) C 367 dX5_definition_366 rfl rfl ?_
        refine r_iload_n (j := 3) C 368 dX5_definition_367 rfl rfl ?_
        refine r_cVI (as := [.int i3]) (S := []) C r.px 371 (ct_X5_hoursBy _ _ _ _ h) dX5_definition_368 rfl cl7 kd_209 wd_55 wd_1424 rfl wd_1422 wd_1425 wd_95 yd_X5_hoursBy ⟨Nat.le_of_ble_eq_true rfl, Nat.le_of_ble_eq_true rfl⟩ (Nat.le_of_ble_eq_true rfl) (by decide) (fun r368 σ368 h => ?_)
        exact r_iret (S := []) C r dX5_definition_371 (by decide) rfl h
      by_cases c277_6 : i2 = 118
      · have h := h.2.2.2.2.2.2.1 c277_6
        refine r_tblIn C 366 (off := 89) dX5_definition_277 (by rw [c277_6]; decide) (by rw [c277_6]; decide) (by rw [c277_6] <;> rfl) (by decide) ?_
        refine r_aload_n (j := 0) C 367 dX5_definition_366 rfl rfl ?_
        refine r_iload_n (j := 3) C 368 dX5_definition_367 rfl rfl ?_
        refine r_cVI (as := [.int i3]) (S := []) C r.px 371 (ct_X5_hoursBy _ _ _ _ h) dX5_definition_368 rfl cl7 kd_209 wd_55 wd_1424 rfl wd_1422 wd_1425 wd_95 yd_X5_hoursBy ⟨Nat.le_of_ble_eq_true rfl, Nat.le_of_ble_eq_true rfl⟩ (Nat.le_of_ble_eq_true rfl) (by decide) (fun r368 σ368 h => ?_)
        exact r_iret (S := []) C r dX5_definition_371 (by decide) rfl h
      by_cases c277_7 : i2 = 119
      · have h := h.2.2.2.2.2.2.2.1 c277_7
        refine r_tblIn C 366 (off := 89) dX5_definition_277 (by rw [c277_7]; decide) (by rw [c277_7]; decide) (by rw [c277_7] <;> rfl) (by decide) ?_
        refine r_aload_n (j := 0) C 367 dX5_definition_366 rfl rfl ?_
        refine r_iload_n (j := 3) C 368 dX5_definition_367 rfl rfl ?_
        refine r_cVI (as := [.int i3]) (S := []) C r.px 371 (ct_X5_hoursBy _ _ _ _ h) dX5_definition_368 rfl cl7 kd_209 wd_55 wd_1424 rfl wd_1422 wd_1425 wd_95 yd_X5_hoursBy ⟨Nat.le_of_ble_eq_true rfl, Nat.le_of_ble_eq_true rfl⟩ (Nat.le_of_ble_eq_true rfl) (by decide) (fun r368 σ368 h => ?_)
        exact r_iret (S := []) C r dX5_definition_371 (by decide) rfl h
      by_cases c277_8 : i2 = 120
      · have h := h.2.2.2.2.2.2.2.2.1 c277_8
        refine r_tblIn C 352 (off := 75) dX5_definition_277 (by rw [c277_8]; decide) (by rw [c277_8]; decide) (by rw [c277_8] <;> rfl) (by decide) ?_
        refine r_aload_n (j := 0) C 353 dX5_definition_352 rfl rfl ?_
        refine r_iload_n (j := 3) C 354 dX5_definition_353 rfl rfl ?_
        refine r_cVI (as := [.int i3]) (S := []) C r.px 357 (ct_X5_goneBy _ _ _ _ h) dX5_definition_354 rfl cl7 kd_209 wd_54 wd_1408 rfl wd_1406 wd_1409 wd_95 yd_X5_goneBy ⟨Nat.le_of_ble_eq_true rfl, Nat.le_of_ble_eq_true rfl⟩ (Nat.le_of_ble_eq_true rfl) (by decide) (fun r354 σ354 h => ?_)
        exact r_iret (S := []) C r dX5_definition_357 (by decide) rfl h
      have h := h.2.2.2.2.2.2.2.2.2 c277_0 c277_1 c277_2 c277_3 c277_4 c277_5 c277_6 c277_7 c277_8
      refine r_tblOut C 366 dX5_definition_277 (tsw_outL 112 9 (by decide) (by decide) (by decide) (fun k hk => by
        match k, hk with
        | 0, _ => exact c277_0
        | 1, _ => exact c277_1
        | 2, _ => exact c277_2
        | 3, _ => exact c277_3
        | 4, _ => exact c277_4
        | 5, _ => exact c277_5
        | 6, _ => exact c277_6
        | 7, _ => exact c277_7
        | 8, _ => exact c277_8
        | k + 9, hk => exact absurd hk (by omega))) (by decide) ?_
      refine r_aload_n (j := 0) C 367 dX5_definition_366 rfl rfl ?_
      refine r_iload_n (j := 3) C 368 dX5_definition_367 rfl rfl ?_
      refine r_cVI (as := [.int i3]) (S := []) C r.px 371 (ct_X5_hoursBy _ _ _ _ h) dX5_definition_368 rfl cl7 kd_209 wd_55 wd_1424 rfl wd_1422 wd_1425 wd_95 yd_X5_hoursBy ⟨Nat.le_of_ble_eq_true rfl, Nat.le_of_ble_eq_true rfl⟩ (Nat.le_of_ble_eq_true rfl) (by decide) (fun r368 σ368 h => ?_)
      exact r_iret (S := []) C r dX5_definition_371 (by decide) rfl h
    · have h := h.2 c271
      refine r_iconst C 275 (v := 0) dX5_definition_274 rfl (by decide) ?_
      exact r_iret (S := []) C r dX5_definition_275 (by decide) rfl h
  · have h := h.2 c265
    refine r_iconst C 269 (v := (-1)) dX5_definition_268 rfl (by decide) ?_
    exact r_iret (S := []) C r dX5_definition_269 (by decide) rfl h
theorem vc_X5_definition {x : Ctx} {K : Int32 → Mem → Prop} {X : String → Mem → Prop} (C : Cx x RX5 cX5_definition 9) (r : RtI x 8 0 (some .int) K X) (p0 : Int32) (σ : Mem) (h : sp_X5_definition p0 σ K X) : Ws x 0 0 [(0, .ref 209), (1, .int p0)] [] σ := by
  obtain ⟨s, n, i0, hT, hi0, hin0, hF, hY⟩ := h
  have hn := hT.1
  have hl := chT_le (fun i q => (hT.2.2 i q).2) (n := n) (i := i0)
  generalize hres : pD s n i0 = res at hF hY
  generalize hkk : chT s n i0 = kk at hl hY
  have hE : ∀ {c : Nat}, c < 1000 → (nI kk = nI c ↔ kk = c) := fun hc => nI_eq (by omega) (by omega)
  have up : ∀ {v : Nat → Option Int32} {y : Nat} {z : Option Int32} (m : Nat), m ≠ y → (fun u => if u = y then z else v u) m = v m := fun m hm => if_neg hm
  have H259 : ∀ (i : Nat) (v : Nat → Option Int32) (i3 i4 i5 i6 i7 : Int32), kdB kk → i ≤ n → res = pI s n [(0, 59)] i v → i3 = (v 0).getD 0 → (kk = 112 → i4 = (v 1).getD 0 ∧ i5 = (v 2).getD 0 ∧ i6 = (v 3).getD 0) → (kk = 115 → i5 = (v 1).getD 0 ∧ i6 = (v 2).getD 0 ∧ i7 = (v 3).getD 0) → (kk = 116 → i4 = (v 1).getD 0) → Ws x 0 259 [(0, .ref 209), (1, .int p0), (2, .int (nI kk)), (3, .int i3), (4, .int i4), (5, .int i5), (6, .int i6), (7, .int i7)] [] (wi σ 209 13 (nI i)) := by
    intro i v i3 i4 i5 i6 i7 hk hin hr e3 hp hs ht
    refine sg_X5_definition_259 C r _ _ _ _ _ _ _ _ (rt_takes (c := 59) hT hin hr (by decide) (by decide) (fun e => ⟨fun q => absurd rfl q, fun _ => hF _ _ e⟩) (fun _ e => ⟨fun _ => ⟨fun q => ?_, fun q => (hY (i + 1) v e).1 q⟩, fun q => absurd q (by decide)⟩))
    obtain ⟨b1, b2, b3, b4, b5⟩ := (hY (i + 1) v e).2 q
    have no : ∀ {c : Nat} {P : Prop}, c < 1000 → ¬ kdB c → nI kk = nI c → P := fun hc hb e => absurd (by rw [← (hE hc).mp e]; exact hk) hb
    refine ⟨fun q => ?_, fun q => no (c := 113) (by decide) (by unfold kdB; omega) q, fun q => no (c := 114) (by decide) (by unfold kdB; omega) q, fun q => ?_, fun q => ?_, fun q => no (c := 117) (by decide) (by unfold kdB; omega) q, fun q => no (c := 118) (by decide) (by unfold kdB; omega) q, fun q => no (c := 119) (by decide) (by unfold kdB; omega) q, fun q => ?_, fun q1 _ _ q4 q5 _ _ _ q9 => ?_⟩
    · have e := (hE (c := 112) (by decide)).mp q
      rw [e3, (hp e).1, (hp e).2.1, (hp e).2.2]
      exact b1 e
    · have e := (hE (c := 115) (by decide)).mp q
      rw [e3, (hs e).1, (hs e).2.1, (hs e).2.2]
      exact b2 e
    · have e := (hE (c := 116) (by decide)).mp q
      rw [e3, ht e]
      exact b4 e
    · have e := (hE (c := 120) (by decide)).mp q
      rw [e3]
      exact b3 e
    · have e : kk = 104 := by
        rcases hk with e | e | e | e | e
        · exact absurd (by rw [e]; rfl) q1
        · exact absurd (by rw [e]; rfl) q4
        · exact absurd (by rw [e]; rfl) q9
        · exact absurd (by rw [e]; rfl) q5
        · exact e
      rw [e3]
      exact b5 e
  have S211 : ∀ (τ : Mem) (i3 i4 i5 i6 i7 : Int32), kk ≠ 116 → Ws x 0 259 [(0, .ref 209), (1, .int p0), (2, .int (nI kk)), (3, .int i3), (4, .int i4), (5, .int i5), (6, .int i6), (7, .int i7)] [] τ → Ws x 0 211 [(0, .ref 209), (1, .int p0), (2, .int (nI kk)), (3, .int i3), (4, .int i4), (5, .int i5), (6, .int i6), (7, .int i7)] [] τ := fun τ i3 i4 i5 i6 i7 hk hw => sg_X5_definition_211 C r _ _ _ _ _ _ _ _ ⟨fun _ => hw, fun q => absurd ((hE (c := 116) (by decide)).mp q) hk⟩
  have S176 : ∀ (τ : Mem) (i3 i4 i5 i6 : Int32), kk ≠ 115 → Ws x 0 211 [(0, .ref 209), (1, .int p0), (2, .int (nI kk)), (3, .int i3), (4, .int i4), (5, .int i5), (6, .int i6), (7, .int 0)] [] τ → Ws x 0 176 [(0, .ref 209), (1, .int p0), (2, .int (nI kk)), (3, .int i3), (4, .int i4), (5, .int i5), (6, .int i6)] [] τ := fun τ i3 i4 i5 i6 hk hw => sg_X5_definition_176 C r _ _ _ _ _ _ _ ⟨fun _ => hw, fun q => absurd ((hE (c := 115) (by decide)).mp q) hk⟩
  have S112 : ∀ (τ : Mem) (i3 i4 i5 i6 : Int32), kk ≠ 112 → kk ≠ 115 → Ws x 0 176 [(0, .ref 209), (1, .int p0), (2, .int (nI kk)), (3, .int i3), (4, .int i4), (5, .int i5), (6, .int i6)] [] τ → Ws x 0 112 [(0, .ref 209), (1, .int p0), (2, .int (nI kk)), (3, .int i3), (4, .int i4), (5, .int i5), (6, .int i6)] [] τ := fun τ i3 i4 i5 i6 hk hk2 hw => sg_X5_definition_112 C r _ _ _ _ _ _ _ ⟨fun q => absurd ((hE (c := 112) (by decide)).mp q) hk, fun _ => ⟨fun _ => hw, fun q => absurd ((hE (c := 115) (by decide)).mp q) hk2⟩⟩
  have S71 : ∀ (τ : Mem) (i3 : Int32), kk ≠ 112 → Ws x 0 112 [(0, .ref 209), (1, .int p0), (2, .int (nI kk)), (3, .int i3), (4, .int 0), (5, .int 0), (6, .int 0)] [] τ → Ws x 0 71 [(0, .ref 209), (1, .int p0), (2, .int (nI kk)), (3, .int i3)] [] τ := fun τ i3 hk hw => sg_X5_definition_71 C r _ _ _ _ ⟨fun _ => hw, fun q => absurd ((hE (c := 112) (by decide)).mp q) hk⟩
  have m1 : ¬ (0 : Int32) ≤ -1 := by decide
  have pos : ∀ {V : Nat}, V ≤ 999 → (0 : Int32) ≤ nI V := fun h => nI_pos' (by omega)
  -- behind the first number
  have H71 : ∀ (i V : Nat) (t : List (Nat × Nat)) (k : Nat), kdB kk → i ≤ n → V ≤ 999 → tkK kk = (k, 0) :: t → res = pI s n t i (fun y => if y = 0 then some (nI V) else none) → Ws x 0 71 [(0, .ref 209), (1, .int p0), (2, .int (nI kk)), (3, .int (nI V))] [] (wi σ 209 13 (nI i)) := by
    intro i V t k hk hin hV ht hr
    rcases hk with e | e | e | e | e
    · have ht' : t = [(0, 45), (1, 1), (0, 58), (3, 2), (0, 44), (3, 3), (0, 59)] := by rw [e] at ht; cases ht; rfl
      subst ht'
      refine sg_X5_definition_71 C r _ _ _ _ ⟨fun q => absurd (by rw [e]; rfl) q, fun _ => rt_takes (c := 45) hT hin hr (by decide) (by decide) (fun e => ⟨fun _ => ⟨fun q => absurd q m1, fun _ => hF _ _ e⟩, fun q => absurd rfl q⟩) (fun hin hr => ⟨fun q => absurd q (by decide), fun _ => rt_dig hT hin hr (fun e => ⟨fun q => absurd q m1, fun _ => hF _ _ e⟩) (fun i V1 hin hV1 hr => ⟨fun _ => ?_, fun q => absurd (pos hV1) q⟩)⟩)⟩
      refine sg_X5_definition_112 C r _ _ _ _ _ _ _ ⟨fun _ => rt_takes (c := 58) hT hin hr (by decide) (by decide) (fun e => ⟨fun _ => ⟨fun q => absurd q m1, fun _ => hF _ _ e⟩, fun q => absurd rfl q⟩) (fun hin hr => ⟨fun q => absurd q (by decide), fun _ => rt_num hT hin hr (fun e => ⟨fun q => absurd q m1, fun _ => hF _ _ e⟩) (fun i V2 hin hV2 hr => ⟨fun _ => ?_, fun q => absurd (pos hV2) q⟩)⟩), fun q => absurd (by rw [e]; rfl) q⟩
      refine sg_X5_definition_150 C r _ _ _ _ _ _ (rt_takes (c := 44) hT hin hr (by decide) (by decide) (fun e => ⟨fun _ => ⟨fun q => absurd q m1, fun _ => hF _ _ e⟩, fun q => absurd rfl q⟩) (fun hin hr => ⟨fun q => absurd q (by decide), fun _ => rt_num hT hin hr (fun e => ⟨fun q => absurd q m1, fun _ => hF _ _ e⟩) (fun i V3 hin hV3 hr => ⟨fun _ => ?_, fun q => absurd (pos hV3) q⟩)⟩))
      exact S176 _ _ _ _ _ (by omega) (S211 _ _ _ _ _ _ (by omega) (H259 i _ _ _ _ _ _ (.inl e) hin hr rfl (fun _ => ⟨rfl, rfl, rfl⟩) (fun q => by omega) (fun q => by omega)))
    · have ht' : t = [(0, 58), (3, 1), (0, 44), (3, 2), (0, 44), (3, 3), (0, 59)] := by rw [e] at ht; cases ht; rfl
      subst ht'
      refine S71 _ _ (by omega) (sg_X5_definition_112 C r _ _ _ _ _ _ _ ⟨fun q => absurd ((hE (c := 112) (by decide)).mp q) (by omega), fun _ => ⟨fun q => absurd (by rw [e]; rfl) q, fun _ => rt_takes (c := 58) hT hin hr (by decide) (by decide) (fun e => ⟨fun _ => ⟨fun q => absurd q m1, fun _ => hF _ _ e⟩, fun q => absurd rfl q⟩) (fun hin hr => ⟨fun q => absurd q (by decide), fun _ => rt_num hT hin hr (fun e => ⟨fun q => absurd q m1, fun _ => hF _ _ e⟩) (fun i V1 hin hV1 hr => ⟨fun _ => ?_, fun q => absurd (pos hV1) q⟩)⟩)⟩⟩)
      refine sg_X5_definition_150 C r _ _ _ _ _ _ (rt_takes (c := 44) hT hin hr (by decide) (by decide) (fun e => ⟨fun _ => ⟨fun q => absurd q m1, fun _ => hF _ _ e⟩, fun q => absurd rfl q⟩) (fun hin hr => ⟨fun q => absurd q (by decide), fun _ => rt_num hT hin hr (fun e => ⟨fun q => absurd q m1, fun _ => hF _ _ e⟩) (fun i V2 hin hV2 hr => ⟨fun _ => ?_, fun q => absurd (pos hV2) q⟩)⟩))
      refine sg_X5_definition_176 C r _ _ _ _ _ _ _ ⟨fun q => absurd (by rw [e]; rfl) q, fun _ => rt_takes (c := 44) hT hin hr (by decide) (by decide) (fun e => ⟨fun _ => ⟨fun q => absurd q m1, fun _ => hF _ _ e⟩, fun q => absurd rfl q⟩) (fun hin hr => ⟨fun q => absurd q (by decide), fun _ => rt_num hT hin hr (fun e => ⟨fun q => absurd q m1, fun _ => hF _ _ e⟩) (fun i V3 hin hV3 hr => ⟨fun _ => ?_, fun q => absurd (pos hV3) q⟩)⟩)⟩
      exact S211 _ _ _ _ _ _ (by omega) (H259 i _ _ _ _ _ _ (.inr (.inl e)) hin hr rfl (fun q => by omega) (fun _ => ⟨rfl, rfl, rfl⟩) (fun q => by omega))
    · have ht' : t = [(0, 59)] := by rw [e] at ht; cases ht; rfl
      subst ht'
      exact S71 _ _ (by omega) (S112 _ _ _ _ _ (by omega) (by omega) (S176 _ _ _ _ _ (by omega) (S211 _ _ _ _ _ _ (by omega) (H259 i _ _ _ _ _ _ (.inr (.inr (.inl e))) hin hr rfl (fun q => by omega) (fun q => by omega) (fun q => by omega)))))
    · have ht' : t = [(0, 61), (4, 1), (0, 59)] := by rw [e] at ht; cases ht; rfl
      subst ht'
      refine S71 _ _ (by omega) (S112 _ _ _ _ _ (by omega) (by omega) (S176 _ _ _ _ _ (by omega) (sg_X5_definition_211 C r _ _ _ _ _ _ _ _ ⟨fun q => absurd (by rw [e]; rfl) q, fun _ => rt_takes (c := 61) hT hin hr (by decide) (by decide) (fun e => ⟨fun q => absurd rfl q, fun _ => hF _ _ e⟩) (fun hin hr => ⟨fun _ => ?_, fun q => absurd q (by decide)⟩)⟩)))
      have hk : kdB kk := .inr (.inr (.inr (.inl e)))
      refine rt_sgn (Q := fun m q υ => (0 ≤ q → (m = 0 → Ws x 0 259 [(0, .ref 209), (1, .int p0), (2, .int (nI kk)), (3, .int (nI V)), (4, .int q), (5, .int 0), (6, .int 0), (7, .int 0)] [] υ) ∧ (¬ m = 0 → ∀ v257 : Int32, v257 = (-q) → Ws x 0 259 [(0, .ref 209), (1, .int p0), (2, .int (nI kk)), (3, .int (nI V)), (4, .int v257), (5, .int 0), (6, .int 0), (7, .int 0)] [] υ)) ∧ (¬ 0 ≤ q → K (-1) υ)) hT hin hr (fun m j _ e => ⟨fun q => absurd q m1, fun _ => hF _ _ e⟩) (fun j V1 hin hV1 hr => ⟨fun _ => ⟨fun _ => ?_, fun q => absurd rfl q⟩, fun q => absurd (pos hV1) q⟩) (fun j V1 hin hV1 hr => ⟨fun _ => ⟨fun q => absurd q (by decide), fun _ v257 e257 => ?_⟩, fun q => absurd (pos hV1) q⟩)
      · exact H259 j _ _ _ _ _ _ hk hin hr rfl (fun q => by omega) (fun q => by omega) (fun _ => rfl)
      · rw [e257]
        exact H259 j _ _ _ _ _ _ hk hin hr rfl (fun q => by omega) (fun q => by omega) (fun _ => rfl)
    · have ht' : t = [(0, 59)] := by rw [e] at ht; cases ht; rfl
      subst ht'
      exact S71 _ _ (by omega) (S112 _ _ _ _ _ (by omega) (by omega) (S176 _ _ _ _ _ (by omega) (S211 _ _ _ _ _ _ (by omega) (H259 i _ _ _ _ _ _ (.inr (.inr (.inr (.inr e)))) hin hr rfl (fun q => by omega) (fun q => by omega) (fun q => by omega)))))
  have H37 : kdB kk → Ws x 0 37 [(0, .ref 209), (1, .int p0), (2, .int (nI kk))] [] σ := by
    intro hk
    have hin : i0 + 1 ≤ n := chT_lt (s := s) (by rw [hkk]; unfold kdB at hk; omega)
    have hr : res = pI s n (tkK kk) (i0 + 1) (fun _ => none) := by rw [← hres, pD_y (by rw [hkk]; exact hk), hkk]
    refine sg_X5_definition_37 C r _ _ σ (fun σ44 e44 => ?_)
    rw [hi0, nI_1] at e44
    rw [e44]
    by_cases e : kk = 104
    · refine ⟨fun q => absurd (by rw [e]; rfl) q, fun _ => rt_num (x := 0) (r := [(0, 59)]) hT hin (by rw [hr, e]; rfl) (fun e => ⟨fun q => absurd q m1, fun _ => hF _ _ e⟩) (fun j V hin hV hr => ⟨fun _ => H71 j V _ 3 hk hin hV (by rw [e]; rfl) hr, fun q => absurd (pos hV) q⟩)⟩
    · obtain ⟨t, ht⟩ : ∃ t, tkK kk = (1, 0) :: t := by
        rcases hk with e' | e' | e' | e' | e'
        · rw [e']; exact ⟨_, rfl⟩
        · rw [e']; exact ⟨_, rfl⟩
        · rw [e']; exact ⟨_, rfl⟩
        · rw [e']; exact ⟨_, rfl⟩
        · exact absurd e' e
      refine ⟨fun _ => rt_dig (x := 0) (r := t) hT hin (by rw [hr, ht]) (fun e => ⟨fun q => absurd q m1, fun _ => hF _ _ e⟩) (fun j V hin hV hr => ⟨fun _ => H71 j V t 1 hk hin hV ht hr, fun q => absurd (pos hV) q⟩), fun q => absurd ((hE (c := 104) (by decide)).mp q) e⟩
  refine sg_X5_definition_0 C r p0 σ (i_X5_here hT hi0 (by omega) ?_)
  rw [hkk]
  refine ⟨fun q => H37 (.inl ((hE (c := 112) (by decide)).mp q)), fun q1 => ⟨fun q => H37 (.inr (.inl ((hE (c := 115) (by decide)).mp q))), fun q2 => ⟨fun q => H37 (.inr (.inr (.inl ((hE (c := 120) (by decide)).mp q)))), fun q3 => ⟨fun q => H37 (.inr (.inr (.inr (.inl ((hE (c := 116) (by decide)).mp q))))), fun q4 => ⟨fun q => H37 (.inr (.inr (.inr (.inr ((hE (c := 104) (by decide)).mp q))))), fun q5 => ?_⟩⟩⟩⟩⟩
  have hk : ¬ kdB kk := by
    intro hk
    rcases hk with e | e | e | e | e
    · exact q1 (by rw [e]; rfl)
    · exact q2 (by rw [e]; rfl)
    · exact q3 (by rw [e]; rfl)
    · exact q4 (by rw [e]; rfl)
    · exact q5 (by rw [e]; rfl)
  have := hF i0 (fun _ => none) (by rw [← hres]; exact pD_n (by rw [hkk]; exact hk))
  rw [wi_same hi0] at this
  exact this
theorem ct_X5_definition (p0 : Int32) (σ : Mem) (K : Int32 → Mem → Prop) (X : String → Mem → Prop) (h : sp_X5_definition p0 σ K X) : CtI yX5_definition cX5_definition 9 (some .int) 8 0 [.ref 209, .int p0] σ K X :=
  ctI_of (by decide +kernel) (Nat.le_of_ble_eq_true rfl) (fun x C r => vc_X5_definition C r p0 σ h)
