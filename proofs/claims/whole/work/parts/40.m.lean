/-! HeatNetworkModel.isReady(IZ)Z: level 3, exceptions 0 -/
def sp_X5_isReady (p0 p1 : Int32) (σ : Mem) (K : Int32 → Mem → Prop) (X : String → Mem → Prop) : Prop := ∃ (w : Nat → Int32) (g : Gr) (fl : Nat → Int) (dr rk : Nat → Nat) (n : Nat) (b : Bool), TBase w g fl dr rk σ ∧ n < 10 ∧ p0 = nI n ∧ p1 = (if b then 1 else 0) ∧ ((∀ e, prd g fl b e n → σ.1 232 e ≠ 0) → K 1 σ) ∧ ((∃ e, prd g fl b e n ∧ σ.1 232 e = 0) → K 0 σ)
set_option maxRecDepth 4000 in
theorem sg_X5_isReady_0 {x : Ctx} {K : Int32 → Mem → Prop} {X : String → Mem → Prop} (C : Cx x RX5 cX5_isReady 4) (r : RtI x 3 0 (some .boolean) K X) (p0 : Int32) (p1 : Int32)  (σ : Mem) (h : Ws x 0 2 [(0, .ref 209), (1, .int p0), (2, .int p1), (3, .int 0)] [] σ) : Ws x 0 0 [(0, .ref 209), (1, .int p0), (2, .int p1)] [] σ := by
  refine r_iconst C 1 (v := 0) dX5_isReady_0 rfl (by decide) ?_
  refine r_istore_n C 2 [(3, .int 0), (0, .ref 209), (1, .int p0), (2, .int p1)] dX5_isReady_1 rfl (by decide) rfl ?_
  exact Ws_pick [1, 2, 3, 0] rfl h
set_option maxRecDepth 4000 in
theorem sg_X5_isReady_2 {x : Ctx} {K : Int32 → Mem → Prop} {X : String → Mem → Prop} (C : Cx x RX5 cX5_isReady 4) (r : RtI x 3 0 (some .boolean) K X) (i1 : Int32) (i2 : Int32) (i3 : Int32)  (σ : Mem) (h : sp_X5_pipes  σ (fun r4 σ4 => (r4 ≤ i3 → K 1 σ4) ∧ (¬ r4 ≤ i3 → (i2 = 0 → (¬ i2 = 0 → ∀ v66 : Int32, v66 = i3 + 1 → Ws x 0 2 [(0, .ref 209), (1, .int i1), (2, .int i2), (3, .int v66)] [] σ4) ∧ (i2 = 0 → sp_X5_to i3 σ4 (fun r44 σ44 => (¬ r44 = i1 → ∀ v66 : Int32, v66 = i3 + 1 → Ws x 0 2 [(0, .ref 209), (1, .int i1), (2, .int i2), (3, .int v66)] [] σ44) ∧ (r44 = i1 → sp_X5_from i3 σ44 (fun r57 σ57 => (vp_in r57 10) ∧ ((¬ (σ57.1 232 r57.toNatClampNeg) = 0 → ∀ v66 : Int32, v66 = i3 + 1 → Ws x 0 2 [(0, .ref 209), (1, .int i1), (2, .int i2), (3, .int v66)] [] σ57) ∧ ((σ57.1 232 r57.toNatClampNeg) = 0 → K 0 σ57))) X)) X)) ∧ (¬ i2 = 0 → sp_X5_from i3 σ4 (fun r16 σ16 => (¬ r16 = i1 → (¬ i2 = 0 → ∀ v66 : Int32, v66 = i3 + 1 → Ws x 0 2 [(0, .ref 209), (1, .int i1), (2, .int i2), (3, .int v66)] [] σ16) ∧ (i2 = 0 → sp_X5_to i3 σ16 (fun r44 σ44 => (¬ r44 = i1 → ∀ v66 : Int32, v66 = i3 + 1 → Ws x 0 2 [(0, .ref 209), (1, .int i1), (2, .int i2), (3, .int v66)] [] σ44) ∧ (r44 = i1 → sp_X5_from i3 σ44 (fun r57 σ57 => (vp_in r57 10) ∧ ((¬ (σ57.1 232 r57.toNatClampNeg) = 0 → ∀ v66 : Int32, v66 = i3 + 1 → Ws x 0 2 [(0, .ref 209), (1, .int i1), (2, .int i2), (3, .int v66)] [] σ57) ∧ ((σ57.1 232 r57.toNatClampNeg) = 0 → K 0 σ57))) X)) X)) ∧ (r16 = i1 → sp_X5_to i3 σ16 (fun r29 σ29 => (vp_in r29 10) ∧ ((¬ (σ29.1 232 r29.toNatClampNeg) = 0 → (¬ i2 = 0 → ∀ v66 : Int32, v66 = i3 + 1 → Ws x 0 2 [(0, .ref 209), (1, .int i1), (2, .int i2), (3, .int v66)] [] σ29) ∧ (i2 = 0 → sp_X5_to i3 σ29 (fun r44 σ44 => (¬ r44 = i1 → ∀ v66 : Int32, v66 = i3 + 1 → Ws x 0 2 [(0, .ref 209), (1, .int i1), (2, .int i2), (3, .int v66)] [] σ44) ∧ (r44 = i1 → sp_X5_from i3 σ44 (fun r57 σ57 => (vp_in r57 10) ∧ ((¬ (σ57.1 232 r57.toNatClampNeg) = 0 → ∀ v66 : Int32, v66 = i3 + 1 → Ws x 0 2 [(0, .ref 209), (1, .int i1), (2, .int i2), (3, .int v66)] [] σ57) ∧ ((σ57.1 232 r57.toNatClampNeg) = 0 → K 0 σ57))) X)) X)) ∧ ((σ29.1 232 r29.toNatClampNeg) = 0 → K 0 σ29))) X)) X))) X) : Ws x 0 2 [(0, .ref 209), (1, .int i1), (2, .int i2), (3, .int i3)] [] σ := by
  refine r_iload_n (j := 3) C 3 dX5_isReady_2 rfl rfl ?_
  refine r_aload_n (j := 0) C 4 dX5_isReady_3 rfl rfl ?_
  refine r_cVI (as := []) (S := [.int i3]) C r.px 7 (ct_X5_pipes  _ _ _ h) dX5_isReady_4 rfl cl7 kd_209 wd_45 wd_1360 rfl wd_1358 wd_1361 wd_95 yd_X5_pipes ⟨Nat.le_of_ble_eq_true rfl, Nat.le_of_ble_eq_true rfl⟩ (Nat.le_of_ble_eq_true rfl) (by decide) (fun r4 σ4 h => ?_)
  refine r_icmp_ge C 72 10 dX5_isReady_7 (by decide) rfl (fun c7 => ?_) (fun c7 => ?_)
  · have h := h.1 c7
    refine r_iconst C 73 (v := 1) dX5_isReady_72 rfl (by decide) ?_
    exact r_iret (S := []) C r dX5_isReady_73 (by decide) (by decide) h
  · have h := h.2 c7
    refine r_iload_n (j := 2) C 11 dX5_isReady_10 rfl rfl ?_
    refine r_if_eq C 38 14 dX5_isReady_11 (by decide) rfl (fun c11 => ?_) (fun c11 => ?_)
    · have h := h.1 c11
      refine r_iload_n (j := 2) C 39 dX5_isReady_38 rfl rfl ?_
      refine r_if_ne C 66 42 dX5_isReady_39 (by decide) rfl (fun c39 => ?_) (fun c39 => ?_)
      · have h := h.1 c39
        obtain ⟨v66, e66⟩ : ∃ y : Int32, y = i3 + 1 := ⟨_, rfl⟩
        have h := h v66 e66
        refine r_iinc (j := 3) C 69 [(3, .int v66), (0, .ref 209), (1, .int i1), (2, .int i2)] dX5_isReady_66 rfl rfl (by rw [e66]; rfl) (by decide) rfl ?_
        refine r_goto C 2 dX5_isReady_69 (by decide) ?_
        exact Ws_pick [1, 2, 3, 0] rfl h
      · have h := h.2 c39
        refine r_aload_n (j := 0) C 43 dX5_isReady_42 rfl rfl ?_
        refine r_iload_n (j := 3) C 44 dX5_isReady_43 rfl rfl ?_
        refine r_cVI (as := [.int i3]) (S := []) C r.px 47 (ct_X5_to _ _ _ _ h) dX5_isReady_44 rfl cl7 kd_209 wd_69 wd_1485 rfl wd_1483 wd_1486 wd_95 yd_X5_to ⟨Nat.le_of_ble_eq_true rfl, Nat.le_of_ble_eq_true rfl⟩ (Nat.le_of_ble_eq_true rfl) (by decide) (fun r44 σ44 h => ?_)
        refine r_iload_n (j := 1) C 48 dX5_isReady_47 rfl rfl ?_
        refine r_icmp_ne C 66 51 dX5_isReady_48 (by decide) rfl (fun c48 => ?_) (fun c48 => ?_)
        · have h := h.1 c48
          obtain ⟨v66, e66⟩ : ∃ y : Int32, y = i3 + 1 := ⟨_, rfl⟩
          have h := h v66 e66
          refine r_iinc (j := 3) C 69 [(3, .int v66), (0, .ref 209), (1, .int i1), (2, .int i2)] dX5_isReady_66 rfl rfl (by rw [e66]; rfl) (by decide) rfl ?_
          refine r_goto C 2 dX5_isReady_69 (by decide) ?_
          exact Ws_pick [1, 2, 3, 0] rfl h
        · have h := h.2 c48
          refine r_aload_n (j := 0) C 52 dX5_isReady_51 rfl rfl ?_
          refine r_get (k := 30) C cl7 55 dX5_isReady_52 rfl kd_209 (by decide) wd_1242 (.ref 232) (fun _ => rfl) ?_
          refine r_aload_n (j := 0) C 56 dX5_isReady_55 rfl rfl ?_
          refine r_iload_n (j := 3) C 57 dX5_isReady_56 rfl rfl ?_
          refine r_cVI (as := [.int i3]) (S := [.ref 232]) C r.px 60 (ct_X5_from _ _ _ _ h) dX5_isReady_57 rfl cl7 kd_209 wd_68 wd_1481 rfl wd_1479 wd_1482 wd_95 yd_X5_from ⟨Nat.le_of_ble_eq_true rfl, Nat.le_of_ble_eq_true rfl⟩ (Nat.le_of_ble_eq_true rfl) (by decide) (fun r57 σ57 h => ?_)
          obtain ⟨o60, h⟩ := h
          refine r_zald C 61 dX5_isReady_60 rfl kd_232 o60 ?_
          refine r_if_ne C 66 64 dX5_isReady_61 (by decide) rfl (fun c61 => ?_) (fun c61 => ?_)
          · have h := h.1 c61
            obtain ⟨v66, e66⟩ : ∃ y : Int32, y = i3 + 1 := ⟨_, rfl⟩
            have h := h v66 e66
            refine r_iinc (j := 3) C 69 [(3, .int v66), (0, .ref 209), (1, .int i1), (2, .int i2)] dX5_isReady_66 rfl rfl (by rw [e66]; rfl) (by decide) rfl ?_
            refine r_goto C 2 dX5_isReady_69 (by decide) ?_
            exact Ws_pick [1, 2, 3, 0] rfl h
          · have h := h.2 c61
            refine r_iconst C 65 (v := 0) dX5_isReady_64 rfl (by decide) ?_
            exact r_iret (S := []) C r dX5_isReady_65 (by decide) (by decide) h
    · have h := h.2 c11
      refine r_aload_n (j := 0) C 15 dX5_isReady_14 rfl rfl ?_
      refine r_iload_n (j := 3) C 16 dX5_isReady_15 rfl rfl ?_
      refine r_cVI (as := [.int i3]) (S := []) C r.px 19 (ct_X5_from _ _ _ _ h) dX5_isReady_16 rfl cl7 kd_209 wd_68 wd_1481 rfl wd_1479 wd_1482 wd_95 yd_X5_from ⟨Nat.le_of_ble_eq_true rfl, Nat.le_of_ble_eq_true rfl⟩ (Nat.le_of_ble_eq_true rfl) (by decide) (fun r16 σ16 h => ?_)
      refine r_iload_n (j := 1) C 20 dX5_isReady_19 rfl rfl ?_
      refine r_icmp_ne C 38 23 dX5_isReady_20 (by decide) rfl (fun c20 => ?_) (fun c20 => ?_)
      · have h := h.1 c20
        refine r_iload_n (j := 2) C 39 dX5_isReady_38 rfl rfl ?_
        refine r_if_ne C 66 42 dX5_isReady_39 (by decide) rfl (fun c39 => ?_) (fun c39 => ?_)
        · have h := h.1 c39
          obtain ⟨v66, e66⟩ : ∃ y : Int32, y = i3 + 1 := ⟨_, rfl⟩
          have h := h v66 e66
          refine r_iinc (j := 3) C 69 [(3, .int v66), (0, .ref 209), (1, .int i1), (2, .int i2)] dX5_isReady_66 rfl rfl (by rw [e66]; rfl) (by decide) rfl ?_
          refine r_goto C 2 dX5_isReady_69 (by decide) ?_
          exact Ws_pick [1, 2, 3, 0] rfl h
        · have h := h.2 c39
          refine r_aload_n (j := 0) C 43 dX5_isReady_42 rfl rfl ?_
          refine r_iload_n (j := 3) C 44 dX5_isReady_43 rfl rfl ?_
          refine r_cVI (as := [.int i3]) (S := []) C r.px 47 (ct_X5_to _ _ _ _ h) dX5_isReady_44 rfl cl7 kd_209 wd_69 wd_1485 rfl wd_1483 wd_1486 wd_95 yd_X5_to ⟨Nat.le_of_ble_eq_true rfl, Nat.le_of_ble_eq_true rfl⟩ (Nat.le_of_ble_eq_true rfl) (by decide) (fun r44 σ44 h => ?_)
          refine r_iload_n (j := 1) C 48 dX5_isReady_47 rfl rfl ?_
          refine r_icmp_ne C 66 51 dX5_isReady_48 (by decide) rfl (fun c48 => ?_) (fun c48 => ?_)
          · have h := h.1 c48
            obtain ⟨v66, e66⟩ : ∃ y : Int32, y = i3 + 1 := ⟨_, rfl⟩
            have h := h v66 e66
            refine r_iinc (j := 3) C 69 [(3, .int v66), (0, .ref 209), (1, .int i1), (2, .int i2)] dX5_isReady_66 rfl rfl (by rw [e66]; rfl) (by decide) rfl ?_
            refine r_goto C 2 dX5_isReady_69 (by decide) ?_
            exact Ws_pick [1, 2, 3, 0] rfl h
          · have h := h.2 c48
            refine r_aload_n (j := 0) C 52 dX5_isReady_51 rfl rfl ?_
            refine r_get (k := 30) C cl7 55 dX5_isReady_52 rfl kd_209 (by decide) wd_1242 (.ref 232) (fun _ => rfl) ?_
            refine r_aload_n (j := 0) C 56 dX5_isReady_55 rfl rfl ?_
            refine r_iload_n (j := 3) C 57 dX5_isReady_56 rfl rfl ?_
            refine r_cVI (as := [.int i3]) (S := [.ref 232]) C r.px 60 (ct_X5_from _ _ _ _ h) dX5_isReady_57 rfl cl7 kd_209 wd_68 wd_1481 rfl wd_1479 wd_1482 wd_95 yd_X5_from ⟨Nat.le_of_ble_eq_true rfl, Nat.le_of_ble_eq_true rfl⟩ (Nat.le_of_ble_eq_true rfl) (by decide) (fun r57 σ57 h => ?_)
            obtain ⟨o60, h⟩ := h
            refine r_zald C 61 dX5_isReady_60 rfl kd_232 o60 ?_
            refine r_if_ne C 66 64 dX5_isReady_61 (by decide) rfl (fun c61 => ?_) (fun c61 => ?_)
            · have h := h.1 c61
              obtain ⟨v66, e66⟩ : ∃ y : Int32, y = i3 + 1 := ⟨_, rfl⟩
              have h := h v66 e66
              refine r_iinc (j := 3) C 69 [(3, .int v66), (0, .ref 209), (1, .int i1), (2, .int i2)] dX5_isReady_66 rfl rfl (by rw [e66]; rfl) (by decide) rfl ?_
              refine r_goto C 2 dX5_isReady_69 (by decide) ?_
              exact Ws_pick [1, 2, 3, 0] rfl h
            · have h := h.2 c61
              refine r_iconst C 65 (v := 0) dX5_isReady_64 rfl (by decide) ?_
              exact r_iret (S := []) C r dX5_isReady_65 (by decide) (by decide) h
      · have h := h.2 c20
        refine r_aload_n (j := 0) C 24 dX5_isReady_23 rfl rfl ?_
        refine r_get (k := 30) C cl7 27 dX5_isReady_24 rfl kd_209 (by decide) wd_1242 (.ref 232) (fun _ => rfl) ?_
        refine r_aload_n (j := 0) C 28 dX5_isReady_27 rfl rfl ?_
        refine r_iload_n (j := 3) C 29 dX5_isReady_28 rfl rfl ?_
        refine r_cVI (as := [.int i3]) (S := [.ref 232]) C r.px 32 (ct_X5_to _ _ _ _ h) dX5_isReady_29 rfl cl7 kd_209 wd_69 wd_1485 rfl wd_1483 wd_1486 wd_95 yd_X5_to ⟨Nat.le_of_ble_eq_true rfl, Nat.le_of_ble_eq_true rfl⟩ (Nat.le_of_ble_eq_true rfl) (by decide) (fun r29 σ29 h => ?_)
        obtain ⟨o32, h⟩ := h
        refine r_zald C 33 dX5_isReady_32 rfl kd_232 o32 ?_
        refine r_if_ne C 38 36 dX5_isReady_33 (by decide) rfl (fun c33 => ?_) (fun c33 => ?_)
        · have h := h.1 c33
          refine r_iload_n (j := 2) C 39 dX5_isReady_38 rfl rfl ?_
          refine r_if_ne C 66 42 dX5_isReady_39 (by decide) rfl (fun c39 => ?_) (fun c39 => ?_)
          · have h := h.1 c39
            obtain ⟨v66, e66⟩ : ∃ y : Int32, y = i3 + 1 := ⟨_, rfl⟩
            have h := h v66 e66
            refine r_iinc (j := 3) C 69 [(3, .int v66), (0, .ref 209), (1, .int i1), (2, .int i2)] dX5_isReady_66 rfl rfl (by rw [e66]; rfl) (by decide) rfl ?_
            refine r_goto C 2 dX5_isReady_69 (by decide) ?_
            exact Ws_pick [1, 2, 3, 0] rfl h
          · have h := h.2 c39
            refine r_aload_n (j := 0) C 43 dX5_isReady_42 rfl rfl ?_
            refine r_iload_n (j := 3) C 44 dX5_isReady_43 rfl rfl ?_
            refine r_cVI (as := [.int i3]) (S := []) C r.px 47 (ct_X5_to _ _ _ _ h) dX5_isReady_44 rfl cl7 kd_209 wd_69 wd_1485 rfl wd_1483 wd_1486 wd_95 yd_X5_to ⟨Nat.le_of_ble_eq_true rfl, Nat.le_of_ble_eq_true rfl⟩ (Nat.le_of_ble_eq_true rfl) (by decide) (fun r44 σ44 h => ?_)
            refine r_iload_n (j := 1) C 48 dX5_isReady_47 rfl rfl ?_
            refine r_icmp_ne C 66 51 dX5_isReady_48 (by decide) rfl (fun c48 => ?_) (fun c48 => ?_)
            · have h := h.1 c48
              obtain ⟨v66, e66⟩ : ∃ y : Int32, y = i3 + 1 := ⟨_, rfl⟩
              have h := h v66 e66
              refine r_iinc (j := 3) C 69 [(3, .int v66), (0, .ref 209), (1, .int i1), (2, .int i2)] dX5_isReady_66 rfl rfl (by rw [e66]; rfl) (by decide) rfl ?_
              refine r_goto C 2 dX5_isReady_69 (by decide) ?_
              exact Ws_pick [1, 2, 3, 0] rfl h
            · have h := h.2 c48
              refine r_aload_n (j := 0) C 52 dX5_isReady_51 rfl rfl ?_
              refine r_get (k := 30) C cl7 55 dX5_isReady_52 rfl kd_209 (by decide) wd_1242 (.ref 232) (fun _ => rfl) ?_
              refine r_aload_n (j := 0) C 56 dX5_isReady_55 rfl rfl ?_
              refine r_iload_n (j := 3) C 57 dX5_isReady_56 rfl rfl ?_
              refine r_cVI (as := [.int i3]) (S := [.ref 232]) C r.px 60 (ct_X5_from _ _ _ _ h) dX5_isReady_57 rfl cl7 kd_209 wd_68 wd_1481 rfl wd_1479 wd_1482 wd_95 yd_X5_from ⟨Nat.le_of_ble_eq_true rfl, Nat.le_of_ble_eq_true rfl⟩ (Nat.le_of_ble_eq_true rfl) (by decide) (fun r57 σ57 h => ?_)
              obtain ⟨o60, h⟩ := h
              refine r_zald C 61 dX5_isReady_60 rfl kd_232 o60 ?_
              refine r_if_ne C 66 64 dX5_isReady_61 (by decide) rfl (fun c61 => ?_) (fun c61 => ?_)
              · have h := h.1 c61
                obtain ⟨v66, e66⟩ : ∃ y : Int32, y = i3 + 1 := ⟨_, rfl⟩
                have h := h v66 e66
                refine r_iinc (j := 3) C 69 [(3, .int v66), (0, .ref 209), (1, .int i1), (2, .int i2)] dX5_isReady_66 rfl rfl (by rw [e66]; rfl) (by decide) rfl ?_
                refine r_goto C 2 dX5_isReady_69 (by decide) ?_
                exact Ws_pick [1, 2, 3, 0] rfl h
              · have h := h.2 c61
                refine r_iconst C 65 (v := 0) dX5_isReady_64 rfl (by decide) ?_
                exact r_iret (S := []) C r dX5_isReady_65 (by decide) (by decide) h
        · have h := h.2 c33
          refine r_iconst C 37 (v := 0) dX5_isReady_36 rfl (by decide) ?_
          exact r_iret (S := []) C r dX5_isReady_37 (by decide) (by decide) h
theorem vc_X5_isReady {x : Ctx} {K : Int32 → Mem → Prop} {X : String → Mem → Prop} (C : Cx x RX5 cX5_isReady 4) (r : RtI x 3 0 (some .boolean) K X) (p0 p1 : Int32) (σ : Mem) (h : sp_X5_isReady p0 p1 σ K X) : Ws x 0 0 [(0, .ref 209), (1, .int p0), (2, .int p1)] [] σ := by
  obtain ⟨w, g, fl, dr, rk, n, b, hb, hn, e0, e1, h1, h2⟩ := h
  obtain ⟨hw, hr, hf, hfo, -⟩ := hb
  have hg := hw.2.1
  have hP := hg.1
  have hG := GM_of hw hr
  rw [e0, e1]
  refine sg_X5_isReady_0 C r _ _ σ ?_
  refine cnt g.1 (fun k (_ : Unit) => ∀ p e, p < k → (if b then toO g fl p = some e ∧ frO g fl p = some n else frO g fl p = some e ∧ toO g fl p = some n) → σ.1 232 e ≠ 0) (fun k _ => Ws x 0 2 [(0, .ref 209), (1, .int (nI n)), (2, .int (if b then 1 else 0)), (3, .int (nI k))] [] σ) ?_ ?_ 0 () (Nat.zero_le _) (fun p e hp => absurd hp (Nat.not_lt_zero p))
  · intro _ hI
    refine sg_X5_isReady_2 C r _ _ _ σ ?_
    show (σ.1 210 7 ≤ nI g.1 → _) ∧ (¬ σ.1 210 7 ≤ nI g.1 → _)
    rw [hG.1]
    exact ⟨fun _ => h1 (fun e ⟨p, hp, he⟩ => hI p e hp he), fun q => absurd (nI_le (Nat.le_refl g.1) (by omega)) q⟩
  · intro p _ hp hI ih
    have step : (∀ e, (if b then toO g fl p = some e ∧ frO g fl p = some n else frO g fl p = some e ∧ toO g fl p = some n) → σ.1 232 e ≠ 0) → ∀ v66 : Int32, v66 = nI p + 1 → Ws x 0 2 [(0, .ref 209), (1, .int (nI n)), (2, .int (if b then 1 else 0)), (3, .int v66)] [] σ := fun hh v ev => by
      rw [ev, nI_1]
      refine ih () (fun q e hq he => ?_)
      by_cases d : q = p
      · rw [d] at he; exact hh e he
      · exact hI q e (by omega) he
    refine sg_X5_isReady_2 C r _ _ _ σ ?_
    show (σ.1 210 7 ≤ nI p → _) ∧ (¬ σ.1 210 7 ≤ nI p → _)
    rw [hG.1]
    refine ⟨fun q => absurd (n_le (by omega) (by omega) q) (by omega), fun _ => ?_⟩
    have hbd := hfo.1 p hp
    cases b with
    | false =>
      refine ⟨fun _ => ⟨fun q => absurd rfl q, fun _ => i_X5_to hg hG hp (hf p hp) hbd ?_⟩, fun q => absurd rfl q⟩
      rw [oI_ne (toO_lt hg hp) hn]
      refine ⟨fun q => step (fun e he => absurd he.2 q), fun q => i_X5_from hg hG hp (hf p hp) hbd ?_⟩
      obtain ⟨e, he, -⟩ := to_fr q
      have e10 := frO_lt hg hp e he
      rw [he]
      show (vp_in (nI e) 10) ∧ ((¬ σ.1 232 (nI e).toNatClampNeg = 0 → _) ∧ (σ.1 232 (nI e).toNatClampNeg = 0 → _))
      rw [n_cl (n := e) (by omega)]
      refine ⟨n_inR e10 (by decide), fun z => step (fun e' he' => ?_), fun z => h2 ⟨e, ⟨p, hp, he, q⟩, z⟩⟩
      have : e' = e := by
        have := he'.1
        rw [he] at this
        injection this with this
        exact this.symm
      rw [this]; exact z
    | true =>
      refine ⟨fun q => absurd q (by decide), fun _ => i_X5_from hg hG hp (hf p hp) hbd ?_⟩
      rw [oI_ne (frO_lt hg hp) hn]
      refine ⟨fun q => ⟨fun _ => step (fun e he => absurd he.2 q), fun z => absurd z (by decide)⟩, fun q => i_X5_to hg hG hp (hf p hp) hbd ?_⟩
      obtain ⟨e, he, -⟩ := fr_to q
      have e10 := toO_lt hg hp e he
      rw [he]
      show (vp_in (nI e) 10) ∧ ((¬ σ.1 232 (nI e).toNatClampNeg = 0 → _) ∧ (σ.1 232 (nI e).toNatClampNeg = 0 → _))
      rw [n_cl (n := e) (by omega)]
      refine ⟨n_inR e10 (by decide), fun z => ⟨fun _ => step (fun e' he' => ?_), fun y => absurd y (by decide)⟩, fun z => h2 ⟨e, ⟨p, hp, he, q⟩, z⟩⟩
      have : e' = e := by
        have := he'.1
        rw [he] at this
        injection this with this
        exact this.symm
      rw [this]; exact z
theorem ct_X5_isReady (p0 : Int32) (p1 : Int32) (σ : Mem) (K : Int32 → Mem → Prop) (X : String → Mem → Prop) (h : sp_X5_isReady p0 p1 σ K X) : CtI yX5_isReady cX5_isReady 4 (some .boolean) 3 0 [.ref 209, .int p0, .int p1] σ K X :=
  ctI_of (by decide +kernel) (Nat.le_of_ble_eq_true rfl) (fun x C r => vc_X5_isReady C r p0 p1 σ h)
/-! HeatNetworkModel.mixes(IZ)V: level 3, exceptions 0 -/
/-- one node's temperature and what is left over have been written -/
def MixW (row n v rm : Nat) (σ τ : Mem) : Prop := (∀ a k, ¬ (a = row ∧ k = n) → τ.1 a k = σ.1 a k) ∧ (∀ a k, ¬ (a = 231 ∧ k = n) → τ.2.1 a k = σ.2.1 a k) ∧ τ.2.2 = σ.2.2 ∧ τ.1 row n = nI v ∧ τ.2.1 231 n = σ.2.1 231 n + lN rm
def sp_X5_mixes (p0 p1 : Int32) (σ : Mem) (K : Mem → Prop) (X : String → Mem → Prop) : Prop := ∃ (w : Nat → Int32) (g : Gr) (fl : Nat → Int) (dr rk T : Nat → Nat) (n : Nat), TBase w g fl dr rk σ ∧ n < 10 ∧ p0 = nI n ∧ (∀ e, e < 10 → gd w ≤ T e ∧ T e ≤ 1200) ∧ ((p1 = 0 ∧ (∀ e, prd g fl false e n → σ.1 229 e = nI (T e)) ∧ ∀ τ : Mem, MixW 229 n (if flH g fl n = 0 then gd w else smH w g fl T n / flH g fl n) (if flH g fl n = 0 then 0 else smH w g fl T n % flH g fl n) σ τ → K τ) ∨ (p1 = 1 ∧ (∀ e, prd g fl true e n → σ.1 230 e = nI (T e)) ∧ ∀ τ : Mem, MixW 230 n (if flC g fl dr n = 0 then gd w else smC w g fl dr T n / flC g fl dr n) (if flC g fl dr n = 0 then 0 else smC w g fl dr T n % flC g fl dr n) σ τ → K τ))
set_option maxRecDepth 4000 in
theorem sg_X5_mixes_0 {x : Ctx} {K : Mem → Prop} {X : String → Mem → Prop} (C : Cx x RX5 cX5_mixes 10) (r : RtV x 3 0 none K X) (p0 : Int32) (p1 : Int32)  (σ : Mem) (h : (p1 = 0 → Ws x 0 58 [(0, .ref 209), (1, .int p0), (2, .int p1), (3, .long 0), (5, .long 0), (7, .int 0)] [] σ) ∧ (¬ p1 = 0 → sp_X5_hasStation p0 σ (fun r11 σ11 => (r11 = 0 → Ws x 0 58 [(0, .ref 209), (1, .int p0), (2, .int p1), (3, .long 0), (5, .long 0), (7, .int 0)] [] σ11) ∧ (¬ r11 = 0 → (vp_in p0 10) ∧ ((vp_in ((48 + (6 * p0)) + 2) 108) ∧ (∀ v42 : Int64, v42 = (0 + (((σ11.1 225 p0.toNatClampNeg)).toInt64 * ((σ11.1 210 (((48 + (6 * p0)) + 2)).toNatClampNeg)).toInt64)) → (vp_in p0 10) ∧ (∀ v53 : Int64, v53 = (0 + ((σ11.1 225 p0.toNatClampNeg)).toInt64) → Ws x 0 58 [(0, .ref 209), (1, .int p0), (2, .int p1), (3, .long v42), (5, .long v53), (7, .int 0)] [] σ11))))) X)) : Ws x 0 0 [(0, .ref 209), (1, .int p0), (2, .int p1)] [] σ := by
  refine r_lconst C 1 (v := 0) dX5_mixes_0 rfl rfl ?_
  refine r_lstore_n C 2 [(3, .long 0), (0, .ref 209), (1, .int p0), (2, .int p1)] dX5_mixes_1 rfl (by decide) rfl ?_
  refine r_lconst C 3 (v := 0) dX5_mixes_2 rfl rfl ?_
  refine r_lstore C 5 [(5, .long 0), (3, .long 0), (0, .ref 209), (1, .int p0), (2, .int p1)] dX5_mixes_3 rfl (by decide) rfl ?_
  refine r_iload_n (j := 4) C 6 dX5_mixes_5 rfl rfl ?_
  refine r_if_eq C 55 9 dX5_mixes_6 (by decide) rfl (fun c6 => ?_) (fun c6 => ?_)
  · have h := h.1 c6
    refine r_iconst C 56 (v := 0) dX5_mixes_55 rfl (by decide) ?_
    refine r_istore C 58 [(7, .int 0), (5, .long 0), (3, .long 0), (0, .ref 209), (1, .int p0), (2, .int p1)] dX5_mixes_56 rfl (by decide) rfl ?_
    exact Ws_pick [3, 4, 5, 2, 1, 0] rfl h
  · have h := h.2 c6
    refine r_aload_n (j := 2) C 10 dX5_mixes_9 rfl rfl ?_
    refine r_iload_n (j := 3) C 11 dX5_mixes_10 rfl rfl ?_
    refine r_cVI (as := [.int p0]) (S := []) C r.px 14 (ct_X5_hasStation _ _ _ _ h) dX5_mixes_11 rfl cl7 kd_209 wd_52 wd_1396 rfl wd_1394 wd_1397 wd_95 yd_X5_hasStation ⟨Nat.le_of_ble_eq_true rfl, Nat.le_of_ble_eq_true rfl⟩ (Nat.le_of_ble_eq_true rfl) (by decide) (fun r11 σ11 h => ?_)
    refine r_if_eq C 55 17 dX5_mixes_14 (by decide) rfl (fun c14 => ?_) (fun c14 => ?_)
    · have h := h.1 c14
      refine r_iconst C 56 (v := 0) dX5_mixes_55 rfl (by decide) ?_
      refine r_istore C 58 [(7, .int 0), (5, .long 0), (3, .long 0), (0, .ref 209), (1, .int p0), (2, .int p1)] dX5_mixes_56 rfl (by decide) rfl ?_
      exact Ws_pick [3, 4, 5, 2, 1, 0] rfl h
    · have h := h.2 c14
      refine r_lload_n (j := 1) C 18 dX5_mixes_17 rfl rfl ?_
      refine r_aload_n (j := 2) C 19 dX5_mixes_18 rfl rfl ?_
      refine r_get (k := 23) C cl7 22 dX5_mixes_19 rfl kd_209 (by decide) wd_1235 (.ref 225) (fun _ => rfl) ?_
      refine r_iload_n (j := 3) C 23 dX5_mixes_22 rfl rfl ?_
      obtain ⟨o23, h⟩ := h
      refine r_iald C 24 dX5_mixes_23 rfl kd_225 o23 ?_
      refine r_i2l C 25 dX5_mixes_24 rfl ?_
      refine r_aload_n (j := 2) C 26 dX5_mixes_25 rfl rfl ?_
      refine r_get (k := 1) C cl7 29 dX5_mixes_26 rfl kd_209 (by decide) wd_1213 (.ref 210) (fun _ => rfl) ?_
      refine r_bipush C 31 (v := 48) dX5_mixes_29 rfl (by decide) ?_
      refine r_bipush C 33 (v := 6) dX5_mixes_31 rfl (by decide) ?_
      refine r_iload_n (j := 3) C 34 dX5_mixes_33 rfl rfl ?_
      refine r_imul C 35 dX5_mixes_34 rfl ?_
      refine r_iadd C 36 dX5_mixes_35 rfl ?_
      refine r_iconst C 37 (v := 2) dX5_mixes_36 rfl (by decide) ?_
      refine r_iadd C 38 dX5_mixes_37 rfl ?_
      obtain ⟨o38, h⟩ := h
      refine r_iald C 39 dX5_mixes_38 rfl kd_210 o38 ?_
      refine r_i2l C 40 dX5_mixes_39 rfl ?_
      refine r_lmul C 41 dX5_mixes_40 rfl ?_
      refine r_ladd C 42 dX5_mixes_41 rfl ?_
      refine r_nmL (fun v42 e42 => ?_)
      have h := h v42 e42
      refine r_lstore_n C 43 [(3, .long v42), (5, .long 0), (0, .ref 209), (1, .int p0), (2, .int p1)] dX5_mixes_42 rfl (by decide) rfl ?_
      refine r_lload (j := 1) C 45 dX5_mixes_43 rfl rfl ?_
      refine r_aload_n (j := 2) C 46 dX5_mixes_45 rfl rfl ?_
      refine r_get (k := 23) C cl7 49 dX5_mixes_46 rfl kd_209 (by decide) wd_1235 (.ref 225) (fun _ => rfl) ?_
      refine r_iload_n (j := 3) C 50 dX5_mixes_49 rfl rfl ?_
      obtain ⟨o50, h⟩ := h
      refine r_iald C 51 dX5_mixes_50 rfl kd_225 o50 ?_
      refine r_i2l C 52 dX5_mixes_51 rfl ?_
      refine r_ladd C 53 dX5_mixes_52 rfl ?_
      refine r_nmL (fun v53 e53 => ?_)
      have h := h v53 e53
      refine r_lstore C 55 [(5, .long v53), (3, .long v42), (0, .ref 209), (1, .int p0), (2, .int p1)] dX5_mixes_53 rfl (by decide) rfl ?_
      refine r_iconst C 56 (v := 0) dX5_mixes_55 rfl (by decide) ?_
      refine r_istore C 58 [(7, .int 0), (5, .long v53), (3, .long v42), (0, .ref 209), (1, .int p0), (2, .int p1)] dX5_mixes_56 rfl (by decide) rfl ?_
      exact Ws_pick [3, 4, 5, 2, 1, 0] rfl h
set_option maxRecDepth 4000 in
theorem sg_X5_mixes_58 {x : Ctx} {K : Mem → Prop} {X : String → Mem → Prop} (C : Cx x RX5 cX5_mixes 10) (r : RtV x 3 0 none K X) (i1 : Int32) (i2 : Int32) (l3 : Int64) (l5 : Int64) (i7 : Int32)  (σ : Mem) (h : sp_X5_pipes  σ (fun r61 σ61 => (r61 ≤ i7 → (¬ l5 = 0 → sp_J9_floorDiv_f86c9 l3 l5 σ61 (fun r195 σ195 => ∀ v199 : Int32, v199 = (r195).toInt32 → (l5 ≤ 0 → (i2 = 0 → (vp_in i1 10) ∧ (∀ σ245 : Mem, σ245 = wi σ195 229 i1.toNatClampNeg v199 → K σ245)) ∧ (¬ i2 = 0 → (vp_in i1 10) ∧ (∀ σ234 : Mem, σ234 = wi σ195 230 i1.toNatClampNeg v199 → K σ234))) ∧ (¬ l5 ≤ 0 → (vp_in i1 10) ∧ (sp_J9_floorMod_f86c9 l3 l5 σ195 (fun r218 σ218 => (vp_in i1 10) ∧ (∀ σ222 : Mem, σ222 = wl σ218 231 i1.toNatClampNeg ((σ195.2.1 231 i1.toNatClampNeg) + r218) → (i2 = 0 → (vp_in i1 10) ∧ (∀ σ245 : Mem, σ245 = wi σ222 229 i1.toNatClampNeg v199 → K σ245)) ∧ (¬ i2 = 0 → (vp_in i1 10) ∧ (∀ σ234 : Mem, σ234 = wi σ222 230 i1.toNatClampNeg v199 → K σ234)))) X))) X) ∧ (l5 = 0 → ∀ v199 : Int32, v199 = (σ61.1 210 1) → (l5 ≤ 0 → (i2 = 0 → (vp_in i1 10) ∧ (∀ σ245 : Mem, σ245 = wi σ61 229 i1.toNatClampNeg v199 → K σ245)) ∧ (¬ i2 = 0 → (vp_in i1 10) ∧ (∀ σ234 : Mem, σ234 = wi σ61 230 i1.toNatClampNeg v199 → K σ234))) ∧ (¬ l5 ≤ 0 → (vp_in i1 10) ∧ (sp_J9_floorMod_f86c9 l3 l5 σ61 (fun r218 σ218 => (vp_in i1 10) ∧ (∀ σ222 : Mem, σ222 = wl σ218 231 i1.toNatClampNeg ((σ61.2.1 231 i1.toNatClampNeg) + r218) → (i2 = 0 → (vp_in i1 10) ∧ (∀ σ245 : Mem, σ245 = wi σ222 229 i1.toNatClampNeg v199 → K σ245)) ∧ (¬ i2 = 0 → (vp_in i1 10) ∧ (∀ σ234 : Mem, σ234 = wi σ222 230 i1.toNatClampNeg v199 → K σ234)))) X)))) ∧ (¬ r61 ≤ i7 → (vp_in i7 10) ∧ (sp_J9_abs_0f7a4 (σ61.1 228 i7.toNatClampNeg) σ61 (fun r74 σ74 => ∀ v78 : Int64, v78 = (r74).toInt64 → (i2 = 0 → (¬ i2 = 0 → ∀ v170 : Int32, v170 = i7 + 1 → Ws x 0 58 [(0, .ref 209), (1, .int i1), (2, .int i2), (3, .long l3), (5, .long l5), (7, .int v170)] [] σ74) ∧ (i2 = 0 → sp_X5_to i7 σ74 (fun r132 σ132 => (¬ r132 = i1 → ∀ v170 : Int32, v170 = i7 + 1 → Ws x 0 58 [(0, .ref 209), (1, .int i1), (2, .int i2), (3, .long l3), (5, .long l5), (7, .int v170)] [] σ132) ∧ (r132 = i1 → sp_X5_from i7 σ132 (fun r152 σ152 => (vp_in r152 10) ∧ (sp_X5_through i7 (σ152.1 229 r152.toNatClampNeg) σ152 (fun r156 σ156 => ∀ v162 : Int64, v162 = (l3 + (v78 * (r156).toInt64)) → ∀ v168 : Int64, v168 = (l5 + v78) → ∀ v170 : Int32, v170 = i7 + 1 → Ws x 0 58 [(0, .ref 209), (1, .int i1), (2, .int i2), (3, .long v162), (5, .long v168), (7, .int v170)] [] σ156) X)) X)) X)) ∧ (¬ i2 = 0 → sp_X5_from i7 σ74 (fun r87 σ87 => (¬ r87 = i1 → (¬ i2 = 0 → ∀ v170 : Int32, v170 = i7 + 1 → Ws x 0 58 [(0, .ref 209), (1, .int i1), (2, .int i2), (3, .long l3), (5, .long l5), (7, .int v170)] [] σ87) ∧ (i2 = 0 → sp_X5_to i7 σ87 (fun r132 σ132 => (¬ r132 = i1 → ∀ v170 : Int32, v170 = i7 + 1 → Ws x 0 58 [(0, .ref 209), (1, .int i1), (2, .int i2), (3, .long l3), (5, .long l5), (7, .int v170)] [] σ132) ∧ (r132 = i1 → sp_X5_from i7 σ132 (fun r152 σ152 => (vp_in r152 10) ∧ (sp_X5_through i7 (σ152.1 229 r152.toNatClampNeg) σ152 (fun r156 σ156 => ∀ v162 : Int64, v162 = (l3 + (v78 * (r156).toInt64)) → ∀ v168 : Int64, v168 = (l5 + v78) → ∀ v170 : Int32, v170 = i7 + 1 → Ws x 0 58 [(0, .ref 209), (1, .int i1), (2, .int i2), (3, .long v162), (5, .long v168), (7, .int v170)] [] σ156) X)) X)) X)) ∧ (r87 = i1 → sp_X5_to i7 σ87 (fun r107 σ107 => (vp_in r107 10) ∧ (sp_X5_through i7 (σ107.1 230 r107.toNatClampNeg) σ107 (fun r111 σ111 => ∀ v117 : Int64, v117 = (l3 + (v78 * (r111).toInt64)) → ∀ v123 : Int64, v123 = (l5 + v78) → (¬ i2 = 0 → ∀ v170 : Int32, v170 = i7 + 1 → Ws x 0 58 [(0, .ref 209), (1, .int i1), (2, .int i2), (3, .long v117), (5, .long v123), (7, .int v170)] [] σ111) ∧ (i2 = 0 → sp_X5_to i7 σ111 (fun r132 σ132 => (¬ r132 = i1 → ∀ v170 : Int32, v170 = i7 + 1 → Ws x 0 58 [(0, .ref 209), (1, .int i1), (2, .int i2), (3, .long v117), (5, .long v123), (7, .int v170)] [] σ132) ∧ (r132 = i1 → sp_X5_from i7 σ132 (fun r152 σ152 => (vp_in r152 10) ∧ (sp_X5_through i7 (σ152.1 229 r152.toNatClampNeg) σ152 (fun r156 σ156 => ∀ v162 : Int64, v162 = (v117 + (v78 * (r156).toInt64)) → ∀ v168 : Int64, v168 = (v123 + v78) → ∀ v170 : Int32, v170 = i7 + 1 → Ws x 0 58 [(0, .ref 209), (1, .int i1), (2, .int i2), (3, .long v162), (5, .long v168), (7, .int v170)] [] σ156) X)) X)) X)) X)) X)) X)) X))) X) : Ws x 0 58 [(0, .ref 209), (1, .int i1), (2, .int i2), (3, .long l3), (5, .long l5), (7, .int i7)] [] σ := by
  refine r_iload (j := 5) C 60 dX5_mixes_58 rfl rfl ?_
  refine r_aload_n (j := 0) C 61 dX5_mixes_60 rfl rfl ?_
  refine r_cVI (as := []) (S := [.int i7]) C r.px 64 (ct_X5_pipes  _ _ _ h) dX5_mixes_61 rfl cl7 kd_209 wd_45 wd_1360 rfl wd_1358 wd_1361 wd_95 yd_X5_pipes ⟨Nat.le_of_ble_eq_true rfl, Nat.le_of_ble_eq_true rfl⟩ (Nat.le_of_ble_eq_true rfl) (by decide) (fun r61 σ61 h => ?_)
  refine r_icmp_ge C 176 67 dX5_mixes_64 (by decide) rfl (fun c64 => ?_) (fun c64 => ?_)
  · have h := h.1 c64
    refine r_lload (j := 4) C 178 dX5_mixes_176 rfl rfl ?_
    refine r_lconst C 179 (v := 0) dX5_mixes_178 rfl rfl ?_
    refine r_lcmp_ne C 180 192 183 dX5_mixes_179 rfl dX5_mixes_180 (by decide) rfl (fun c179 => ?_) (fun c179 => ?_)
    · have h := h.1 c179
      refine r_lload_n (j := 3) C 193 dX5_mixes_192 rfl rfl ?_
      refine r_lload (j := 4) C 195 dX5_mixes_193 rfl rfl ?_
      refine r_cSL (b := 0) (as := [.long l3, .long l5]) (S := []) C r.px 198 (ct_J9_floorDiv_f86c9 _ _ _ _ _ h) dX5_mixes_195 rfl wd_904 wd_1497 wd_905 wd_104 yd_J9_floorDiv_f86c9 ⟨Nat.le_of_ble_eq_true rfl, Nat.le_of_ble_eq_true rfl⟩ (Nat.le_of_ble_eq_true rfl) (by decide) (fun r195 σ195 h => ?_)
      refine r_l2i C 199 dX5_mixes_198 rfl ?_
      refine r_nmI (fun v199 e199 => ?_)
      have h := h v199 e199
      refine r_istore C 201 [(7, .int v199), (0, .ref 209), (1, .int i1), (2, .int i2), (3, .long l3), (5, .long l5)] dX5_mixes_199 rfl (by decide) rfl ?_
      refine r_lload (j := 5) C 203 dX5_mixes_201 rfl rfl ?_
      refine r_lconst C 204 (v := 0) dX5_mixes_203 rfl rfl ?_
      refine r_lcmp_le C 205 223 208 dX5_mixes_204 rfl dX5_mixes_205 (by decide) rfl (fun c204 => ?_) (fun c204 => ?_)
      · have h := h.1 c204
        refine r_iload_n (j := 3) C 224 dX5_mixes_223 rfl rfl ?_
        refine r_if_eq C 238 227 dX5_mixes_224 (by decide) rfl (fun c224 => ?_) (fun c224 => ?_)
        · have h := h.1 c224
          refine r_aload_n (j := 1) C 239 dX5_mixes_238 rfl rfl ?_
          refine r_get (k := 27) C cl7 242 dX5_mixes_239 rfl kd_209 (by decide) wd_1239 (.ref 229) (fun _ => rfl) ?_
          refine r_iload_n (j := 2) C 243 dX5_mixes_242 rfl rfl ?_
          refine r_iload (j := 0) C 245 dX5_mixes_243 rfl rfl ?_
          obtain ⟨o245, h⟩ := h
          refine r_iast C 246 dX5_mixes_245 rfl kd_229 o245 ?_
          refine r_nmS (fun σ245 e245 => ?_)
          have h := h σ245 e245
          exact r_vret (S := []) C r dX5_mixes_246 (by decide) h
        · have h := h.2 c224
          refine r_aload_n (j := 1) C 228 dX5_mixes_227 rfl rfl ?_
          refine r_get (k := 28) C cl7 231 dX5_mixes_228 rfl kd_209 (by decide) wd_1240 (.ref 230) (fun _ => rfl) ?_
          refine r_iload_n (j := 2) C 232 dX5_mixes_231 rfl rfl ?_
          refine r_iload (j := 0) C 234 dX5_mixes_232 rfl rfl ?_
          obtain ⟨o234, h⟩ := h
          refine r_iast C 235 dX5_mixes_234 rfl kd_230 o234 ?_
          refine r_nmS (fun σ234 e234 => ?_)
          have h := h σ234 e234
          refine r_goto C 246 dX5_mixes_235 (by decide) ?_
          exact r_vret (S := []) C r dX5_mixes_246 (by decide) h
      · have h := h.2 c204
        refine r_aload_n (j := 1) C 209 dX5_mixes_208 rfl rfl ?_
        refine r_get (k := 29) C cl7 212 dX5_mixes_209 rfl kd_209 (by decide) wd_1241 (.ref 231) (fun _ => rfl) ?_
        refine r_iload_n (j := 2) C 213 dX5_mixes_212 rfl rfl ?_
        refine r_dup2 C 214 dX5_mixes_213 rfl rfl rfl ?_
        obtain ⟨o214, h⟩ := h
        refine r_lald C 215 dX5_mixes_214 rfl kd_231 o214 ?_
        refine r_lload_n (j := 4) C 216 dX5_mixes_215 rfl rfl ?_
        refine r_lload (j := 5) C 218 dX5_mixes_216 rfl rfl ?_
        refine r_cSL (b := 0) (as := [.long l3, .long l5]) (S := [.long (σ195.2.1 231 i1.toNatClampNeg), .int i1, .ref 231]) C r.px 221 (ct_J9_floorMod_f86c9 _ _ _ _ _ h) dX5_mixes_218 rfl wd_1499 wd_1498 wd_1500 wd_104 yd_J9_floorMod_f86c9 ⟨Nat.le_of_ble_eq_true rfl, Nat.le_of_ble_eq_true rfl⟩ (Nat.le_of_ble_eq_true rfl) (by decide) (fun r218 σ218 h => ?_)
        refine r_ladd C 222 dX5_mixes_221 rfl ?_
        obtain ⟨o222, h⟩ := h
        refine r_last C 223 dX5_mixes_222 rfl kd_231 o222 ?_
        refine r_nmS (fun σ222 e222 => ?_)
        have h := h σ222 e222
        refine r_iload_n (j := 3) C 224 dX5_mixes_223 rfl rfl ?_
        refine r_if_eq C 238 227 dX5_mixes_224 (by decide) rfl (fun c224 => ?_) (fun c224 => ?_)
        · have h := h.1 c224
          refine r_aload_n (j := 1) C 239 dX5_mixes_238 rfl rfl ?_
          refine r_get (k := 27) C cl7 242 dX5_mixes_239 rfl kd_209 (by decide) wd_1239 (.ref 229) (fun _ => rfl) ?_
          refine r_iload_n (j := 2) C 243 dX5_mixes_242 rfl rfl ?_
          refine r_iload (j := 0) C 245 dX5_mixes_243 rfl rfl ?_
          obtain ⟨o245, h⟩ := h
          refine r_iast C 246 dX5_mixes_245 rfl kd_229 o245 ?_
          refine r_nmS (fun σ245 e245 => ?_)
          have h := h σ245 e245
          exact r_vret (S := []) C r dX5_mixes_246 (by decide) h
        · have h := h.2 c224
          refine r_aload_n (j := 1) C 228 dX5_mixes_227 rfl rfl ?_
          refine r_get (k := 28) C cl7 231 dX5_mixes_228 rfl kd_209 (by decide) wd_1240 (.ref 230) (fun _ => rfl) ?_
          refine r_iload_n (j := 2) C 232 dX5_mixes_231 rfl rfl ?_
          refine r_iload (j := 0) C 234 dX5_mixes_232 rfl rfl ?_
          obtain ⟨o234, h⟩ := h
          refine r_iast C 235 dX5_mixes_234 rfl kd_230 o234 ?_
          refine r_nmS (fun σ234 e234 => ?_)
          have h := h σ234 e234
          refine r_goto C 246 dX5_mixes_235 (by decide) ?_
          exact r_vret (S := []) C r dX5_mixes_246 (by decide) h
    · have h := h.2 c179
      refine r_aload_n (j := 0) C 184 dX5_mixes_183 rfl rfl ?_
      refine r_get (k := 1) C cl7 187 dX5_mixes_184 rfl kd_209 (by decide) wd_1213 (.ref 210) (fun _ => rfl) ?_
      refine r_iconst C 188 (v := 1) dX5_mixes_187 rfl (by decide) ?_
      refine r_iald C 189 dX5_mixes_188 rfl kd_210 (n_inR (n := 1) (by decide) (by decide)) ?_
      refine r_goto C 199 dX5_mixes_189 (by decide) ?_
      refine r_nmI (fun v199 e199 => ?_)
      have h := h v199 e199
      refine r_istore C 201 [(7, .int v199), (0, .ref 209), (1, .int i1), (2, .int i2), (3, .long l3), (5, .long l5)] dX5_mixes_199 rfl (by decide) rfl ?_
      refine r_lload (j := 5) C 203 dX5_mixes_201 rfl rfl ?_
      refine r_lconst C 204 (v := 0) dX5_mixes_203 rfl rfl ?_
      refine r_lcmp_le C 205 223 208 dX5_mixes_204 rfl dX5_mixes_205 (by decide) rfl (fun c204 => ?_) (fun c204 => ?_)
      · have h := h.1 c204
        refine r_iload_n (j := 3) C 224 dX5_mixes_223 rfl rfl ?_
        refine r_if_eq C 238 227 dX5_mixes_224 (by decide) rfl (fun c224 => ?_) (fun c224 => ?_)
        · have h := h.1 c224
          refine r_aload_n (j := 1) C 239 dX5_mixes_238 rfl rfl ?_
          refine r_get (k := 27) C cl7 242 dX5_mixes_239 rfl kd_209 (by decide) wd_1239 (.ref 229) (fun _ => rfl) ?_
          refine r_iload_n (j := 2) C 243 dX5_mixes_242 rfl rfl ?_
          refine r_iload (j := 0) C 245 dX5_mixes_243 rfl rfl ?_
          obtain ⟨o245, h⟩ := h
          refine r_iast C 246 dX5_mixes_245 rfl kd_229 o245 ?_
          refine r_nmS (fun σ245 e245 => ?_)
          have h := h σ245 e245
          exact r_vret (S := []) C r dX5_mixes_246 (by decide) h
        · have h := h.2 c224
          refine r_aload_n (j := 1) C 228 dX5_mixes_227 rfl rfl ?_
          refine r_get (k := 28) C cl7 231 dX5_mixes_228 rfl kd_209 (by decide) wd_1240 (.ref 230) (fun _ => rfl) ?_
          refine r_iload_n (j := 2) C 232 dX5_mixes_231 rfl rfl ?_
          refine r_iload (j := 0) C 234 dX5_mixes_232 rfl rfl ?_
          obtain ⟨o234, h⟩ := h
          refine r_iast C 235 dX5_mixes_234 rfl kd_230 o234 ?_
          refine r_nmS (fun σ234 e234 => ?_)
          have h := h σ234 e234
          refine r_goto C 246 dX5_mixes_235 (by decide) ?_
          exact r_vret (S := []) C r dX5_mixes_246 (by decide) h
      · have h := h.2 c204
        refine r_aload_n (j := 1) C 209 dX5_mixes_208 rfl rfl ?_
        refine r_get (k := 29) C cl7 212 dX5_mixes_209 rfl kd_209 (by decide) wd_1241 (.ref 231) (fun _ => rfl) ?_
        refine r_iload_n (j := 2) C 213 dX5_mixes_212 rfl rfl ?_
        refine r_dup2 C 214 dX5_mixes_213 rfl rfl rfl ?_
        obtain ⟨o214, h⟩ := h
        refine r_lald C 215 dX5_mixes_214 rfl kd_231 o214 ?_
        refine r_lload_n (j := 4) C 216 dX5_mixes_215 rfl rfl ?_
        refine r_lload (j := 5) C 218 dX5_mixes_216 rfl rfl ?_
        refine r_cSL (b := 0) (as := [.long l3, .long l5]) (S := [.long (σ61.2.1 231 i1.toNatClampNeg), .int i1, .ref 231]) C r.px 221 (ct_J9_floorMod_f86c9 _ _ _ _ _ h) dX5_mixes_218 rfl wd_1499 wd_1498 wd_1500 wd_104 yd_J9_floorMod_f86c9 ⟨Nat.le_of_ble_eq_true rfl, Nat.le_of_ble_eq_true rfl⟩ (Nat.le_of_ble_eq_true rfl) (by decide) (fun r218 σ218 h => ?_)
        refine r_ladd C 222 dX5_mixes_221 rfl ?_
        obtain ⟨o222, h⟩ := h
        refine r_last C 223 dX5_mixes_222 rfl kd_231 o222 ?_
        refine r_nmS (fun σ222 e222 => ?_)
        have h := h σ222 e222
        refine r_iload_n (j := 3) C 224 dX5_mixes_223 rfl rfl ?_
        refine r_if_eq C 238 227 dX5_mixes_224 (by decide) rfl (fun c224 => ?_) (fun c224 => ?_)
        · have h := h.1 c224
          refine r_aload_n (j := 1) C 239 dX5_mixes_238 rfl rfl ?_
          refine r_get (k := 27) C cl7 242 dX5_mixes_239 rfl kd_209 (by decide) wd_1239 (.ref 229) (fun _ => rfl) ?_
          refine r_iload_n (j := 2) C 243 dX5_mixes_242 rfl rfl ?_
          refine r_iload (j := 0) C 245 dX5_mixes_243 rfl rfl ?_
          obtain ⟨o245, h⟩ := h
          refine r_iast C 246 dX5_mixes_245 rfl kd_229 o245 ?_
          refine r_nmS (fun σ245 e245 => ?_)
          have h := h σ245 e245
          exact r_vret (S := []) C r dX5_mixes_246 (by decide) h
        · have h := h.2 c224
          refine r_aload_n (j := 1) C 228 dX5_mixes_227 rfl rfl ?_
          refine r_get (k := 28) C cl7 231 dX5_mixes_228 rfl kd_209 (by decide) wd_1240 (.ref 230) (fun _ => rfl) ?_
          refine r_iload_n (j := 2) C 232 dX5_mixes_231 rfl rfl ?_
          refine r_iload (j := 0) C 234 dX5_mixes_232 rfl rfl ?_
          obtain ⟨o234, h⟩ := h
          refine r_iast C 235 dX5_mixes_234 rfl kd_230 o234 ?_
          refine r_nmS (fun σ234 e234 => ?_)
          have h := h σ234 e234
          refine r_goto C 246 dX5_mixes_235 (by decide) ?_
          exact r_vret (S := []) C r dX5_mixes_246 (by decide) h
  · have h := h.2 c64
    refine r_aload_n (j := 0) C 68 dX5_mixes_67 rfl rfl ?_
    refine r_get (k := 26) C cl7 71 dX5_mixes_68 rfl kd_209 (by decide) wd_1238 (.ref 228) (fun _ => rfl) ?_
    refine r_iload (j := 5) C 73 dX5_mixes_71 rfl rfl ?_
    obtain ⟨o73, h⟩ := h
    refine r_iald C 74 dX5_mixes_73 rfl kd_228 o73 ?_
    refine r_cSI (b := 0) (as := [.int (σ61.1 228 i7.toNatClampNeg)]) (S := []) C r.px 77 (ct_J9_abs_0f7a4 _ _ _ _ h) dX5_mixes_74 rfl wd_511 wd_1491 wd_512 wd_104 yd_J9_abs_0f7a4 ⟨Nat.le_of_ble_eq_true rfl, Nat.le_of_ble_eq_true rfl⟩ (Nat.le_of_ble_eq_true rfl) (by decide) (fun r74 σ74 h => ?_)
    refine r_i2l C 78 dX5_mixes_77 rfl ?_
    refine r_nmL (fun v78 e78 => ?_)
    have h := h v78 e78
    refine r_lstore C 80 [(8, .long v78), (0, .ref 209), (1, .int i1), (2, .int i2), (3, .long l3), (5, .long l5), (7, .int i7)] dX5_mixes_78 rfl (by decide) rfl ?_
    refine r_iload_n (j := 3) C 81 dX5_mixes_80 rfl rfl ?_
    refine r_if_eq C 125 84 dX5_mixes_81 (by decide) rfl (fun c81 => ?_) (fun c81 => ?_)
    · have h := h.1 c81
      refine r_iload_n (j := 3) C 126 dX5_mixes_125 rfl rfl ?_
      refine r_if_ne C 170 129 dX5_mixes_126 (by decide) rfl (fun c126 => ?_) (fun c126 => ?_)
      · have h := h.1 c126
        obtain ⟨v170, e170⟩ : ∃ y : Int32, y = i7 + 1 := ⟨_, rfl⟩
        have h := h v170 e170
        refine r_iinc (j := 6) C 173 [(7, .int v170), (8, .long v78), (0, .ref 209), (1, .int i1), (2, .int i2), (3, .long l3), (5, .long l5)] dX5_mixes_170 rfl rfl (by rw [e170]; rfl) (by decide) rfl ?_
        refine r_goto C 58 dX5_mixes_173 (by decide) ?_
        exact Ws_pick [2, 3, 4, 5, 6, 0] rfl h
      · have h := h.2 c126
        refine r_aload_n (j := 1) C 130 dX5_mixes_129 rfl rfl ?_
        refine r_iload (j := 6) C 132 dX5_mixes_130 rfl rfl ?_
        refine r_cVI (as := [.int i7]) (S := []) C r.px 135 (ct_X5_to _ _ _ _ h) dX5_mixes_132 rfl cl7 kd_209 wd_69 wd_1485 rfl wd_1483 wd_1486 wd_95 yd_X5_to ⟨Nat.le_of_ble_eq_true rfl, Nat.le_of_ble_eq_true rfl⟩ (Nat.le_of_ble_eq_true rfl) (by decide) (fun r132 σ132 h => ?_)
        refine r_iload_n (j := 2) C 136 dX5_mixes_135 rfl rfl ?_
        refine r_icmp_ne C 170 139 dX5_mixes_136 (by decide) rfl (fun c136 => ?_) (fun c136 => ?_)
        · have h := h.1 c136
          obtain ⟨v170, e170⟩ : ∃ y : Int32, y = i7 + 1 := ⟨_, rfl⟩
          have h := h v170 e170
          refine r_iinc (j := 6) C 173 [(7, .int v170), (8, .long v78), (0, .ref 209), (1, .int i1), (2, .int i2), (3, .long l3), (5, .long l5)] dX5_mixes_170 rfl rfl (by rw [e170]; rfl) (by decide) rfl ?_
          refine r_goto C 58 dX5_mixes_173 (by decide) ?_
          exact Ws_pick [2, 3, 4, 5, 6, 0] rfl h
        · have h := h.2 c136
          refine r_lload_n (j := 4) C 140 dX5_mixes_139 rfl rfl ?_
          refine r_lload (j := 0) C 142 dX5_mixes_140 rfl rfl ?_
          refine r_aload_n (j := 1) C 143 dX5_mixes_142 rfl rfl ?_
          refine r_iload (j := 6) C 145 dX5_mixes_143 rfl rfl ?_
          refine r_aload_n (j := 1) C 146 dX5_mixes_145 rfl rfl ?_
          refine r_get (k := 27) C cl7 149 dX5_mixes_146 rfl kd_209 (by decide) wd_1239 (.ref 229) (fun _ => rfl) ?_
          refine r_aload_n (j := 1) C 150 dX5_mixes_149 rfl rfl ?_
          refine r_iload (j := 6) C 152 dX5_mixes_150 rfl rfl ?_
          refine r_cVI (as := [.int i7]) (S := [.ref 229, .int i7, .ref 209, .long v78, .long l3]) C r.px 155 (ct_X5_from _ _ _ _ h) dX5_mixes_152 rfl cl7 kd_209 wd_68 wd_1481 rfl wd_1479 wd_1482 wd_95 yd_X5_from ⟨Nat.le_of_ble_eq_true rfl, Nat.le_of_ble_eq_true rfl⟩ (Nat.le_of_ble_eq_true rfl) (by decide) (fun r152 σ152 h => ?_)
          obtain ⟨o155, h⟩ := h
          refine r_iald C 156 dX5_mixes_155 rfl kd_229 o155 ?_
          refine r_cVI (as := [.int i7, .int (σ152.1 229 r152.toNatClampNeg)]) (S := [.long v78, .long l3]) C r.px 159 (ct_X5_through _ _ _ _ _ h) dX5_mixes_156 rfl cl7 kd_209 wd_71 wd_1494 rfl wd_1492 wd_1495 wd_95 yd_X5_through ⟨Nat.le_of_ble_eq_true rfl, Nat.le_of_ble_eq_true rfl⟩ (Nat.le_of_ble_eq_true rfl) (by decide) (fun r156 σ156 h => ?_)
          refine r_i2l C 160 dX5_mixes_159 rfl ?_
          refine r_lmul C 161 dX5_mixes_160 rfl ?_
          refine r_ladd C 162 dX5_mixes_161 rfl ?_
          refine r_nmL (fun v162 e162 => ?_)
          have h := h v162 e162
          refine r_lstore_n C 163 [(3, .long v162), (8, .long v78), (0, .ref 209), (1, .int i1), (2, .int i2), (5, .long l5), (7, .int i7)] dX5_mixes_162 rfl (by decide) rfl ?_
          refine r_lload (j := 5) C 165 dX5_mixes_163 rfl rfl ?_
          refine r_lload (j := 1) C 167 dX5_mixes_165 rfl rfl ?_
          refine r_ladd C 168 dX5_mixes_167 rfl ?_
          refine r_nmL (fun v168 e168 => ?_)
          have h := h v168 e168
          refine r_lstore C 170 [(5, .long v168), (3, .long v162), (8, .long v78), (0, .ref 209), (1, .int i1), (2, .int i2), (7, .int i7)] dX5_mixes_168 rfl (by decide) rfl ?_
          obtain ⟨v170, e170⟩ : ∃ y : Int32, y = i7 + 1 := ⟨_, rfl⟩
          have h := h v170 e170
          refine r_iinc (j := 6) C 173 [(7, .int v170), (5, .long v168), (3, .long v162), (8, .long v78), (0, .ref 209), (1, .int i1), (2, .int i2)] dX5_mixes_170 rfl rfl (by rw [e170]; rfl) (by decide) rfl ?_
          refine r_goto C 58 dX5_mixes_173 (by decide) ?_
          exact Ws_pick [4, 5, 6, 2, 1, 0] rfl h
    · have h := h.2 c81
      refine r_aload_n (j := 1) C 85 dX5_mixes_84 rfl rfl ?_
      refine r_iload (j := 6) C 87 dX5_mixes_85 rfl rfl ?_
      refine r_cVI (as := [.int i7]) (S := []) C r.px 90 (ct_X5_from _ _ _ _ h) dX5_mixes_87 rfl cl7 kd_209 wd_68 wd_1481 rfl wd_1479 wd_1482 wd_95 yd_X5_from ⟨Nat.le_of_ble_eq_true rfl, Nat.le_of_ble_eq_true rfl⟩ (Nat.le_of_ble_eq_true rfl) (by decide) (fun r87 σ87 h => ?_)
      refine r_iload_n (j := 2) C 91 dX5_mixes_90 rfl rfl ?_
      refine r_icmp_ne C 125 94 dX5_mixes_91 (by decide) rfl (fun c91 => ?_) (fun c91 => ?_)
      · have h := h.1 c91
        refine r_iload_n (j := 3) C 126 dX5_mixes_125 rfl rfl ?_
        refine r_if_ne C 170 129 dX5_mixes_126 (by decide) rfl (fun c126 => ?_) (fun c126 => ?_)
        · have h := h.1 c126
          obtain ⟨v170, e170⟩ : ∃ y : Int32, y = i7 + 1 := ⟨_, rfl⟩
          have h := h v170 e170
          refine r_iinc (j := 6) C 173 [(7, .int v170), (8, .long v78), (0, .ref 209), (1, .int i1), (2, .int i2), (3, .long l3), (5, .long l5)] dX5_mixes_170 rfl rfl (by rw [e170]; rfl) (by decide) rfl ?_
          refine r_goto C 58 dX5_mixes_173 (by decide) ?_
          exact Ws_pick [2, 3, 4, 5, 6, 0] rfl h
        · have h := h.2 c126
          refine r_aload_n (j := 1) C 130 dX5_mixes_129 rfl rfl ?_
          refine r_iload (j := 6) C 132 dX5_mixes_130 rfl rfl ?_
          refine r_cVI (as := [.int i7]) (S := []) C r.px 135 (ct_X5_to _ _ _ _ h) dX5_mixes_132 rfl cl7 kd_209 wd_69 wd_1485 rfl wd_1483 wd_1486 wd_95 yd_X5_to ⟨Nat.le_of_ble_eq_true rfl, Nat.le_of_ble_eq_true rfl⟩ (Nat.le_of_ble_eq_true rfl) (by decide) (fun r132 σ132 h => ?_)
          refine r_iload_n (j := 2) C 136 dX5_mixes_135 rfl rfl ?_
          refine r_icmp_ne C 170 139 dX5_mixes_136 (by decide) rfl (fun c136 => ?_) (fun c136 => ?_)
          · have h := h.1 c136
            obtain ⟨v170, e170⟩ : ∃ y : Int32, y = i7 + 1 := ⟨_, rfl⟩
            have h := h v170 e170
            refine r_iinc (j := 6) C 173 [(7, .int v170), (8, .long v78), (0, .ref 209), (1, .int i1), (2, .int i2), (3, .long l3), (5, .long l5)] dX5_mixes_170 rfl rfl (by rw [e170]; rfl) (by decide) rfl ?_
            refine r_goto C 58 dX5_mixes_173 (by decide) ?_
            exact Ws_pick [2, 3, 4, 5, 6, 0] rfl h
          · have h := h.2 c136
            refine r_lload_n (j := 4) C 140 dX5_mixes_139 rfl rfl ?_
            refine r_lload (j := 0) C 142 dX5_mixes_140 rfl rfl ?_
            refine r_aload_n (j := 1) C 143 dX5_mixes_142 rfl rfl ?_
            refine r_iload (j := 6) C 145 dX5_mixes_143 rfl rfl ?_
            refine r_aload_n (j := 1) C 146 dX5_mixes_145 rfl rfl ?_
            refine r_get (k := 27) C cl7 149 dX5_mixes_146 rfl kd_209 (by decide) wd_1239 (.ref 229) (fun _ => rfl) ?_
            refine r_aload_n (j := 1) C 150 dX5_mixes_149 rfl rfl ?_
            refine r_iload (j := 6) C 152 dX5_mixes_150 rfl rfl ?_
            refine r_cVI (as := [.int i7]) (S := [.ref 229, .int i7, .ref 209, .long v78, .long l3]) C r.px 155 (ct_X5_from _ _ _ _ h) dX5_mixes_152 rfl cl7 kd_209 wd_68 wd_1481 rfl wd_1479 wd_1482 wd_95 yd_X5_from ⟨Nat.le_of_ble_eq_true rfl, Nat.le_of_ble_eq_true rfl⟩ (Nat.le_of_ble_eq_true rfl) (by decide) (fun r152 σ152 h => ?_)
            obtain ⟨o155, h⟩ := h
            refine r_iald C 156 dX5_mixes_155 rfl kd_229 o155 ?_
            refine r_cVI (as := [.int i7, .int (σ152.1 229 r152.toNatClampNeg)]) (S := [.long v78, .long l3]) C r.px 159 (ct_X5_through _ _ _ _ _ h) dX5_mixes_156 rfl cl7 kd_209 wd_71 wd_1494 rfl wd_1492 wd_1495 wd_95 yd_X5_through ⟨Nat.le_of_ble_eq_true rfl, Nat.le_of_ble_eq_true rfl⟩ (Nat.le_of_ble_eq_true rfl) (by decide) (fun r156 σ156 h => ?_)
            refine r_i2l C 160 dX5_mixes_159 rfl ?_
            refine r_lmul C 161 dX5_mixes_160 rfl ?_
            refine r_ladd C 162 dX5_mixes_161 rfl ?_
            refine r_nmL (fun v162 e162 => ?_)
            have h := h v162 e162
            refine r_lstore_n C 163 [(3, .long v162), (8, .long v78), (0, .ref 209), (1, .int i1), (2, .int i2), (5, .long l5), (7, .int i7)] dX5_mixes_162 rfl (by decide) rfl ?_
            refine r_lload (j := 5) C 165 dX5_mixes_163 rfl rfl ?_
            refine r_lload (j := 1) C 167 dX5_mixes_165 rfl rfl ?_
            refine r_ladd C 168 dX5_mixes_167 rfl ?_
            refine r_nmL (fun v168 e168 => ?_)
            have h := h v168 e168
            refine r_lstore C 170 [(5, .long v168), (3, .long v162), (8, .long v78), (0, .ref 209), (1, .int i1), (2, .int i2), (7, .int i7)] dX5_mixes_168 rfl (by decide) rfl ?_
            obtain ⟨v170, e170⟩ : ∃ y : Int32, y = i7 + 1 := ⟨_, rfl⟩
            have h := h v170 e170
            refine r_iinc (j := 6) C 173 [(7, .int v170), (5, .long v168), (3, .long v162), (8, .long v78), (0, .ref 209), (1, .int i1), (2, .int i2)] dX5_mixes_170 rfl rfl (by rw [e170]; rfl) (by decide) rfl ?_
            refine r_goto C 58 dX5_mixes_173 (by decide) ?_
            exact Ws_pick [4, 5, 6, 2, 1, 0] rfl h
      · have h := h.2 c91
        refine r_lload_n (j := 4) C 95 dX5_mixes_94 rfl rfl ?_
        refine r_lload (j := 0) C 97 dX5_mixes_95 rfl rfl ?_
        refine r_aload_n (j := 1) C 98 dX5_mixes_97 rfl rfl ?_
        refine r_iload (j := 6) C 100 dX5_mixes_98 rfl rfl ?_
        refine r_aload_n (j := 1) C 101 dX5_mixes_100 rfl rfl ?_
        refine r_get (k := 28) C cl7 104 dX5_mixes_101 rfl kd_209 (by decide) wd_1240 (.ref 230) (fun _ => rfl) ?_
        refine r_aload_n (j := 1) C 105 dX5_mixes_104 rfl rfl ?_
        refine r_iload (j := 6) C 107 dX5_mixes_105 rfl rfl ?_
        refine r_cVI (as := [.int i7]) (S := [.ref 230, .int i7, .ref 209, .long v78, .long l3]) C r.px 110 (ct_X5_to _ _ _ _ h) dX5_mixes_107 rfl cl7 kd_209 wd_69 wd_1485 rfl wd_1483 wd_1486 wd_95 yd_X5_to ⟨Nat.le_of_ble_eq_true rfl, Nat.le_of_ble_eq_true rfl⟩ (Nat.le_of_ble_eq_true rfl) (by decide) (fun r107 σ107 h => ?_)
        obtain ⟨o110, h⟩ := h
        refine r_iald C 111 dX5_mixes_110 rfl kd_230 o110 ?_
        refine r_cVI (as := [.int i7, .int (σ107.1 230 r107.toNatClampNeg)]) (S := [.long v78, .long l3]) C r.px 114 (ct_X5_through _ _ _ _ _ h) dX5_mixes_111 rfl cl7 kd_209 wd_71 wd_1494 rfl wd_1492 wd_1495 wd_95 yd_X5_through ⟨Nat.le_of_ble_eq_true rfl, Nat.le_of_ble_eq_true rfl⟩ (Nat.le_of_ble_eq_true rfl) (by decide) (fun r111 σ111 h => ?_)
        refine r_i2l C 115 dX5_mixes_114 rfl ?_
        refine r_lmul C 116 dX5_mixes_115 rfl ?_
        refine r_ladd C 117 dX5_mixes_116 rfl ?_
        refine r_nmL (fun v117 e117 => ?_)
        have h := h v117 e117
        refine r_lstore_n C 118 [(3, .long v117), (8, .long v78), (0, .ref 209), (1, .int i1), (2, .int i2), (5, .long l5), (7, .int i7)] dX5_mixes_117 rfl (by decide) rfl ?_
        refine r_lload (j := 5) C 120 dX5_mixes_118 rfl rfl ?_
        refine r_lload (j := 1) C 122 dX5_mixes_120 rfl rfl ?_
        refine r_ladd C 123 dX5_mixes_122 rfl ?_
        refine r_nmL (fun v123 e123 => ?_)
        have h := h v123 e123
        refine r_lstore C 125 [(5, .long v123), (3, .long v117), (8, .long v78), (0, .ref 209), (1, .int i1), (2, .int i2), (7, .int i7)] dX5_mixes_123 rfl (by decide) rfl ?_
        refine r_iload_n (j := 5) C 126 dX5_mixes_125 rfl rfl ?_
        refine r_if_ne C 170 129 dX5_mixes_126 (by decide) rfl (fun c126 => ?_) (fun c126 => ?_)
        · have h := h.1 c126
          obtain ⟨v170, e170⟩ : ∃ y : Int32, y = i7 + 1 := ⟨_, rfl⟩
          have h := h v170 e170
          refine r_iinc (j := 6) C 173 [(7, .int v170), (5, .long v123), (3, .long v117), (8, .long v78), (0, .ref 209), (1, .int i1), (2, .int i2)] dX5_mixes_170 rfl rfl (by rw [e170]; rfl) (by decide) rfl ?_
          refine r_goto C 58 dX5_mixes_173 (by decide) ?_
          exact Ws_pick [4, 5, 6, 2, 1, 0] rfl h
        · have h := h.2 c126
          refine r_aload_n (j := 3) C 130 dX5_mixes_129 rfl rfl ?_
          refine r_iload (j := 6) C 132 dX5_mixes_130 rfl rfl ?_
          refine r_cVI (as := [.int i7]) (S := []) C r.px 135 (ct_X5_to _ _ _ _ h) dX5_mixes_132 rfl cl7 kd_209 wd_69 wd_1485 rfl wd_1483 wd_1486 wd_95 yd_X5_to ⟨Nat.le_of_ble_eq_true rfl, Nat.le_of_ble_eq_true rfl⟩ (Nat.le_of_ble_eq_true rfl) (by decide) (fun r132 σ132 h => ?_)
          refine r_iload_n (j := 4) C 136 dX5_mixes_135 rfl rfl ?_
          refine r_icmp_ne C 170 139 dX5_mixes_136 (by decide) rfl (fun c136 => ?_) (fun c136 => ?_)
          · have h := h.1 c136
            obtain ⟨v170, e170⟩ : ∃ y : Int32, y = i7 + 1 := ⟨_, rfl⟩
            have h := h v170 e170
            refine r_iinc (j := 6) C 173 [(7, .int v170), (5, .long v123), (3, .long v117), (8, .long v78), (0, .ref 209), (1, .int i1), (2, .int i2)] dX5_mixes_170 rfl rfl (by rw [e170]; rfl) (by decide) rfl ?_
            refine r_goto C 58 dX5_mixes_173 (by decide) ?_
            exact Ws_pick [4, 5, 6, 2, 1, 0] rfl h
          · have h := h.2 c136
            refine r_lload_n (j := 1) C 140 dX5_mixes_139 rfl rfl ?_
            refine r_lload (j := 2) C 142 dX5_mixes_140 rfl rfl ?_
            refine r_aload_n (j := 3) C 143 dX5_mixes_142 rfl rfl ?_
            refine r_iload (j := 6) C 145 dX5_mixes_143 rfl rfl ?_
            refine r_aload_n (j := 3) C 146 dX5_mixes_145 rfl rfl ?_
            refine r_get (k := 27) C cl7 149 dX5_mixes_146 rfl kd_209 (by decide) wd_1239 (.ref 229) (fun _ => rfl) ?_
            refine r_aload_n (j := 3) C 150 dX5_mixes_149 rfl rfl ?_
            refine r_iload (j := 6) C 152 dX5_mixes_150 rfl rfl ?_
            refine r_cVI (as := [.int i7]) (S := [.ref 229, .int i7, .ref 209, .long v78, .long v117]) C r.px 155 (ct_X5_from _ _ _ _ h) dX5_mixes_152 rfl cl7 kd_209 wd_68 wd_1481 rfl wd_1479 wd_1482 wd_95 yd_X5_from ⟨Nat.le_of_ble_eq_true rfl, Nat.le_of_ble_eq_true rfl⟩ (Nat.le_of_ble_eq_true rfl) (by decide) (fun r152 σ152 h => ?_)
            obtain ⟨o155, h⟩ := h
            refine r_iald C 156 dX5_mixes_155 rfl kd_229 o155 ?_
            refine r_cVI (as := [.int i7, .int (σ152.1 229 r152.toNatClampNeg)]) (S := [.long v78, .long v117]) C r.px 159 (ct_X5_through _ _ _ _ _ h) dX5_mixes_156 rfl cl7 kd_209 wd_71 wd_1494 rfl wd_1492 wd_1495 wd_95 yd_X5_through ⟨Nat.le_of_ble_eq_true rfl, Nat.le_of_ble_eq_true rfl⟩ (Nat.le_of_ble_eq_true rfl) (by decide) (fun r156 σ156 h => ?_)
            refine r_i2l C 160 dX5_mixes_159 rfl ?_
            refine r_lmul C 161 dX5_mixes_160 rfl ?_
            refine r_ladd C 162 dX5_mixes_161 rfl ?_
            refine r_nmL (fun v162 e162 => ?_)
            have h := h v162 e162
            refine r_lstore_n C 163 [(3, .long v162), (5, .long v123), (8, .long v78), (0, .ref 209), (1, .int i1), (2, .int i2), (7, .int i7)] dX5_mixes_162 rfl (by decide) rfl ?_
            refine r_lload (j := 1) C 165 dX5_mixes_163 rfl rfl ?_
            refine r_lload (j := 2) C 167 dX5_mixes_165 rfl rfl ?_
            refine r_ladd C 168 dX5_mixes_167 rfl ?_
            refine r_nmL (fun v168 e168 => ?_)
            have h := h v168 e168
            refine r_lstore C 170 [(5, .long v168), (3, .long v162), (8, .long v78), (0, .ref 209), (1, .int i1), (2, .int i2), (7, .int i7)] dX5_mixes_168 rfl (by decide) rfl ?_
            obtain ⟨v170, e170⟩ : ∃ y : Int32, y = i7 + 1 := ⟨_, rfl⟩
            have h := h v170 e170
            refine r_iinc (j := 6) C 173 [(7, .int v170), (5, .long v168), (3, .long v162), (8, .long v78), (0, .ref 209), (1, .int i1), (2, .int i2)] dX5_mixes_170 rfl rfl (by rw [e170]; rfl) (by decide) rfl ?_
            refine r_goto C 58 dX5_mixes_173 (by decide) ?_
            exact Ws_pick [4, 5, 6, 2, 1, 0] rfl h
theorem MixW.mk0 {row n v : Nat} {σ τ : Mem} (hr : row < 231) (e : τ = wi σ row n (nI v)) : MixW row n v 0 σ τ := by
  rw [e]
  refine ⟨fun a k q => by rw [wi_i, if_neg q], fun a k _ => rfl, rfl, by rw [wi_i, if_pos ⟨rfl, rfl⟩], ?_⟩
  show σ.2.1 231 n = σ.2.1 231 n + lN 0
  exact (Int64.add_zero _).symm
theorem MixW.mk1 {row n v rm : Nat} {σ τ : Mem} (hr : row < 231) (e : τ = wi (wl σ 231 n (σ.2.1 231 n + lN rm)) row n (nI v)) : MixW row n v rm σ τ := by
  rw [e]
  exact ⟨fun a k q => by rw [wi_i, if_neg q]; rfl, fun a k q => by rw [wi_l, wl_l, if_neg q], rfl, by rw [wi_i, if_pos ⟨rfl, rfl⟩], by rw [wi_l, wl_l, if_pos ⟨rfl, rfl⟩]⟩
theorem vc_X5_mixes {x : Ctx} {K : Mem → Prop} {X : String → Mem → Prop} (C : Cx x RX5 cX5_mixes 10) (r : RtV x 3 0 none K X) (p0 p1 : Int32) (σ : Mem) (h : sp_X5_mixes p0 p1 σ K X) : Ws x 0 0 [(0, .ref 209), (1, .int p0), (2, .int p1)] [] σ := by
  obtain ⟨w, g, fl, dr, rk, T, n, hb, hn, e0, hT, hcase⟩ := h
  obtain ⟨hw, hr, hf, hfo, hd⟩ := hb
  have hg := hw.2.1
  have hP := hg.1
  have hG := GM_of hw hr
  have p62 : (2 : Nat) ^ 62 = 4611686018427387904 := rfl
  obtain ⟨g1, g2⟩ := gd_bd hw
  have z0 : (0 : Int64) = lN 0 := rfl
  -- the end, once both sums are there
  have fin : ∀ (p1 : Int32) (row S A : Nat), ((p1 = 0 ∧ row = 229) ∨ (p1 = 1 ∧ row = 230)) → A ≤ 400000 → S ≤ 1200 * A → gd w * A ≤ S → (∀ τ : Mem, MixW row n (if A = 0 then gd w else S / A) (if A = 0 then 0 else S % A) σ τ → K τ) → Ws x 0 58 [(0, .ref 209), (1, .int (nI n)), (2, .int p1), (3, .long (lN S)), (5, .long (lN A)), (7, .int (nI g.1))] [] σ := by
    intro p1 row S A hp1 hA hS hS2 hK
    have hrow : row < 231 := by rcases hp1 with ⟨-, q⟩ | ⟨-, q⟩ <;> omega
    refine sg_X5_mixes_58 C r _ _ _ _ _ σ ?_
    show (σ.1 210 7 ≤ nI g.1 → _) ∧ (¬ σ.1 210 7 ≤ nI g.1 → _)
    rw [hG.1]
    refine ⟨fun _ => ?_, fun q => absurd (nI_le (Nat.le_refl g.1) (by omega)) q⟩
    rw [z0, pk_lEQ (by omega) (by decide), pk_lLE (by omega) (by decide), n_cl (n := n) (by omega)]
    refine ⟨fun q => i_fDiv (by omega) (by omega) (by omega) (fun v199 e199 => ?_), fun q v199 e199 => ?_⟩
    · rw [if_neg q, if_neg q] at hK
      rw [lN_i] at e199
      rw [e199]
      refine ⟨fun q2 => absurd q2 (by omega), fun _ => ⟨n_inR hn (by decide), i_fMod (by omega) (by omega) (by omega) ⟨n_inR hn (by decide), fun σ222 e222 => ?_⟩⟩⟩
      rcases hp1 with ⟨y1, y2⟩ | ⟨y1, y2⟩
      · rw [y1]
        refine ⟨fun _ => ⟨n_inR hn (by decide), fun σ245 e245 => hK σ245 (MixW.mk1 hrow (by rw [y2, e245, e222]))⟩, fun z => absurd rfl z⟩
      · rw [y1]
        refine ⟨fun z => absurd z (by decide), fun _ => ⟨n_inR hn (by decide), fun σ234 e234 => hK σ234 (MixW.mk1 hrow (by rw [y2, e234, e222]))⟩⟩
    · rw [if_pos q, if_pos q] at hK
      rw [hr 1 (by decide), g1] at e199
      rw [e199]
      refine ⟨fun _ => ?_, fun q2 => absurd (by omega) q2⟩
      rcases hp1 with ⟨y1, y2⟩ | ⟨y1, y2⟩
      · rw [y1]
        refine ⟨fun _ => ⟨n_inR hn (by decide), fun σ245 e245 => hK σ245 (MixW.mk0 hrow (by rw [y2, e245]))⟩, fun z => absurd rfl z⟩
      · rw [y1]
        refine ⟨fun z => absurd z (by decide), fun _ => ⟨n_inR hn (by decide), fun σ234 e234 => hK σ234 (MixW.mk0 hrow (by rw [y2, e234]))⟩⟩
  rw [e0]
  rcases hcase with ⟨e1, hk, hK⟩ | ⟨e1, hk, hK⟩
  · rw [e1]
    refine sg_X5_mixes_0 C r _ _ σ ⟨fun _ => ?_, fun q => absurd rfl q⟩
    have hle := tH_le (fl := fl) hT hg (P := g.1) (n := n) (Nat.le_refl _)
    have hfl := fH_le hfo hg n
    refine cnt g.1 (fun _ (_ : Unit) => True) (fun p _ => Ws x 0 58 [(0, .ref 209), (1, .int (nI n)), (2, .int 0), (3, .long (lN (smN (tH w g fl T n) p))), (5, .long (lN (smN (fH g fl n) p))), (7, .int (nI p))] [] σ) ?_ ?_ 0 () (Nat.zero_le _) trivial
    · intro _ _
      have hfl' : smN (fH g fl n) g.1 ≤ 200000 := hfl
      exact fin 0 229 _ _ (.inl ⟨rfl, rfl⟩) (by omega) hle.2 hle.1 hK
    · intro p _ hp _ ih
      have ih := ih () trivial
      have s1 : smN (tH w g fl T n) (p + 1) = smN (tH w g fl T n) p + tH w g fl T n p := rfl
      have s2 : smN (fH g fl n) (p + 1) = smN (fH g fl n) p + fH g fl n p := rfl
      rw [s1, s2] at ih
      have hbd := hfo.1 p hp
      refine sg_X5_mixes_58 C r _ _ _ _ _ σ ?_
      show (σ.1 210 7 ≤ nI p → _) ∧ (¬ σ.1 210 7 ≤ nI p → _)
      rw [hG.1, n_cl (n := p) (by omega), hf p hp]
      refine ⟨fun q => absurd (n_le (by omega) (by omega) q) (by omega), fun _ => ⟨n_inR (by omega) (by decide), i_abI (by omega) (by omega) (fun v78 e78 => ⟨fun _ => ⟨fun q => absurd rfl q, fun _ => i_X5_to hg hG hp (hf p hp) hbd ?_⟩, fun q => absurd rfl q⟩)⟩⟩
      have e78 : v78 = lN (flN fl p) := by rw [e78, ab_N, ← nI_z, nI_l (by omega)]; rfl
      rw [oI_ne (toO_lt hg hp) hn]
      refine ⟨fun q v170 e170 => ?_, fun q => i_X5_from hg hG hp (hf p hp) hbd ?_⟩
      · have t0 : tH w g fl T n p = 0 := by
          unfold tH
          cases e : frO g fl p with
          | none => rfl
          | some y =>
            show (if toO g fl p = some n then flN fl p * thr w fl p (T y) else 0) = 0
            rw [if_neg q]
        have f0 : fH g fl n p = 0 := by unfold fH; rw [if_neg q]
        rw [t0, f0] at ih
        rw [e170, nI_1]
        exact ih
      · obtain ⟨e, he, f0⟩ := to_fr q
        have e10 := frO_lt hg hp e he
        rw [he]
        show (vp_in (nI e) 10) ∧ (sp_X5_through (nI p) (σ.1 229 (nI e).toNatClampNeg) σ _ X)
        rw [n_cl (n := e) (by omega), hk e ⟨p, hp, he, q⟩]
        refine ⟨n_inR e10 (by decide), i_X5_through hw hr hp (hf p hp) f0 hbd (hT e e10).1 (hT e e10).2 (fun v162 e162 v168 e168 v170 e170 => ?_)⟩
        have t0 : tH w g fl T n p = flN fl p * thr w fl p (T e) := by
          unfold tH
          rw [he]
          show (if toO g fl p = some n then flN fl p * thr w fl p (T e) else 0) = _
          rw [if_pos q]
        have f0 : fH g fl n p = flN fl p := by unfold fH; rw [if_pos q]
        have tb := thr_bd (w := w) (fl := fl) (p := p) (hT e e10).1
        have hT2 := (hT e e10).2
        rw [t0, f0] at ih
        rw [e162, e168, e170, e78, nI_1, nI_l (by omega), lN_mul, lN_add, lN_add]
        exact ih
  · rw [e1]
    have hle := tC_le (fl := fl) hT hg (P := g.1) (n := n) (Nat.le_refl _)
    have hfl := fC_le hfo hg n
    obtain ⟨d1, d2, d3⟩ := hd n hn
    have rest : hasW w n ∨ ¬ hasW w n := Classical.em _
    have hret : dr n * nV (w (48 + 6 * n + 2)) ≤ 1200 * dr n ∧ gd w * dr n ≤ dr n * nV (w (48 + 6 * n + 2)) := by
      rcases rest with q | q
      · obtain ⟨-, q2, -⟩ := hw.2.2.2.2.2.2.2.2.2.2.2.2 n hn q
        obtain ⟨-, a1, a2⟩ := q2.val (by decide)
        rw [Nat.mul_comm 1200, Nat.mul_comm (gd w)]
        exact ⟨Nat.mul_le_mul_left _ (by omega), Nat.mul_le_mul_left _ (by omega)⟩
      · rw [d3 q]; simp
    have key : Ws x 0 58 [(0, .ref 209), (1, .int (nI n)), (2, .int 1), (3, .long (lN (dr n * nV (w (48 + 6 * n + 2))))), (5, .long (lN (dr n))), (7, .int (nI 0))] [] σ := by
      refine cnt g.1 (fun _ (_ : Unit) => True) (fun p _ => Ws x 0 58 [(0, .ref 209), (1, .int (nI n)), (2, .int 1), (3, .long (lN (dr n * nV (w (48 + 6 * n + 2)) + smN (tC w g fl T n) p))), (5, .long (lN (dr n + smN (fC g fl n) p))), (7, .int (nI p))] [] σ) ?_ ?_ 0 () (Nat.zero_le _) trivial
      · intro _ _
        exact fin 1 230 _ _ (.inr ⟨rfl, rfl⟩) (by omega) (by rw [Nat.mul_add]; omega) (by rw [Nat.mul_add]; omega) hK
      · intro p _ hp _ ih
        have ih := ih () trivial
        have s1 : smN (tC w g fl T n) (p + 1) = smN (tC w g fl T n) p + tC w g fl T n p := rfl
        have s2 : smN (fC g fl n) (p + 1) = smN (fC g fl n) p + fC g fl n p := rfl
        rw [s1, s2, ← Nat.add_assoc, ← Nat.add_assoc] at ih
        have hbd := hfo.1 p hp
        refine sg_X5_mixes_58 C r _ _ _ _ _ σ ?_
        show (σ.1 210 7 ≤ nI p → _) ∧ (¬ σ.1 210 7 ≤ nI p → _)
        rw [hG.1, n_cl (n := p) (by omega), hf p hp]
        refine ⟨fun q => absurd (n_le (by omega) (by omega) q) (by omega), fun _ => ⟨n_inR (by omega) (by decide), i_abI (by omega) (by omega) (fun v78 e78 => ⟨fun q => absurd q (by decide), fun _ => i_X5_from hg hG hp (hf p hp) hbd ?_⟩)⟩⟩
        have e78 : v78 = lN (flN fl p) := by rw [e78, ab_N, ← nI_z, nI_l (by omega)]; rfl
        rw [oI_ne (frO_lt hg hp) hn]
        refine ⟨fun q => ⟨fun _ v170 e170 => ?_, fun z => absurd z (by decide)⟩, fun q => i_X5_to hg hG hp (hf p hp) hbd ?_⟩
        · have t0 : tC w g fl T n p = 0 := by
            unfold tC
            cases e : toO g fl p with
            | none => rfl
            | some y =>
              show (if frO g fl p = some n then flN fl p * thr w fl p (T y) else 0) = 0
              rw [if_neg q]
          have f0 : fC g fl n p = 0 := by unfold fC; rw [if_neg q]
          rw [t0, f0] at ih
          rw [e170, nI_1]
          exact ih
        · obtain ⟨e, he, f0⟩ := fr_to q
          have e10 := toO_lt hg hp e he
          rw [he]
          show (vp_in (nI e) 10) ∧ (sp_X5_through (nI p) (σ.1 230 (nI e).toNatClampNeg) σ _ X)
          rw [n_cl (n := e) (by omega), hk e ⟨p, hp, he, q⟩]
          refine ⟨n_inR e10 (by decide), i_X5_through hw hr hp (hf p hp) f0 hbd (hT e e10).1 (hT e e10).2 (fun v117 e117 v123 e123 => ⟨fun _ v170 e170 => ?_, fun z => absurd z (by decide)⟩)⟩
          have t0 : tC w g fl T n p = flN fl p * thr w fl p (T e) := by
            unfold tC
            rw [he]
            show (if frO g fl p = some n then flN fl p * thr w fl p (T e) else 0) = _
            rw [if_pos q]
          have f0 : fC g fl n p = flN fl p := by unfold fC; rw [if_pos q]
          have tb := thr_bd (w := w) (fl := fl) (p := p) (hT e e10).1
          have hT2 := (hT e e10).2
          rw [t0, f0] at ih
          rw [e117, e123, e170, e78, nI_1, nI_l (by omega), lN_mul, lN_add, lN_add]
          exact ih
    refine sg_X5_mixes_0 C r _ _ σ ⟨fun q => absurd q (by decide), fun _ => i_X5_hasStation hn ⟨fun q => ?_, fun q => ?_⟩⟩
    · have hno : ¬ hasW w n := fun ⟨z1, z2⟩ => by
        rw [if_pos ⟨z1, by rw [hr _ (by omega)]; exact z2⟩] at q
        exact absurd q (by decide)
      rw [d3 hno] at key
      rw [Nat.zero_mul] at key
      exact key
    · have hyes : hasW w n := Classical.byContradiction fun z => q (by
        rw [if_neg]
        rintro ⟨z1, z2⟩
        rw [hr _ (by omega)] at z2
        exact z ⟨z1, z2⟩)
      obtain ⟨-, q2, -⟩ := hw.2.2.2.2.2.2.2.2.2.2.2.2 n hn hyes
      obtain ⟨a0, a1, a2⟩ := q2.val (by decide)
      rw [show (48 + (6 * nI n)) + 2 = nI (48 + 6 * n + 2) from ix_st', n_cl (n := n) (by omega), n_cl (n := 48 + 6 * n + 2) (by omega), d1, hr _ (by omega), a0]
      refine ⟨n_inR hn (by decide), n_inR (by omega) (by decide), fun v42 e42 => ⟨n_inR hn (by decide), fun v53 e53 => ?_⟩⟩
      rw [nI_l (by omega), nI_l (by omega), lN_mul] at e42
      rw [nI_l (by omega)] at e53
      have e42 : v42 = lN (dr n * nV (w (48 + 6 * n + 2))) := by rw [e42]; exact (Int64.zero_add _)
      have e53 : v53 = lN (dr n) := by rw [e53]; exact (Int64.zero_add _)
      rw [e42, e53]
      exact key
theorem ct_X5_mixes (p0 : Int32) (p1 : Int32) (σ : Mem) (K : Mem → Prop) (X : String → Mem → Prop) (h : sp_X5_mixes p0 p1 σ K X) : CtV yX5_mixes cX5_mixes 10 none 3 0 [.ref 209, .int p0, .int p1] σ K X :=
  ctV_of (by decide +kernel) (Nat.le_of_ble_eq_true rfl) (fun x C r => vc_X5_mixes C r p0 p1 σ h)
