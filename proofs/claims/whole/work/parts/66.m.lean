/-! HeatNetwork$Text.readNumber(II)Z: level 2, exceptions 0 -/
/-- at most k digits are read -/
def sp_X3_readNumber (p0 p1 : Int32) (σ : Mem) (K : Int32 → Mem → Prop) (X : String → Mem → Prop) : Prop := ∃ (s : Nat → Nat) (n i d y k : Nat), TxC s n σ ∧ σ.1 79 2 = nI i ∧ i ≤ n ∧ σ.1 79 3 = nI d ∧ d < 20 ∧ p0 = nI y ∧ y < 4 ∧ p1 = nI k ∧ k ≤ 3 ∧ K (if 0 < nD s n k i then 1 else 0) (wi (wi σ 79 2 (nI (i + nD s n k i))) 82 (4 * d + y) (nI (vD s n k i 0)))
set_option maxRecDepth 4000 in
theorem sg_X3_readNumber_0 {x : Ctx} {K : Int32 → Mem → Prop} {X : String → Mem → Prop} (C : Cx x RX3 cX3_readNumber 5) (r : RtI x 2 0 (some .boolean) K X) (p0 : Int32) (p1 : Int32)  (σ : Mem) (h : Ws x 0 5 [(0, .ref 79), (1, .int p0), (2, .int p1), (3, .int 0), (4, .int 0)] [] σ) : Ws x 0 0 [(0, .ref 79), (1, .int p0), (2, .int p1)] [] σ := by
  refine r_iconst C 1 (v := 0) dX3_readNumber_0 rfl (by decide) ?_
  refine r_istore_n C 2 [(3, .int 0), (0, .ref 79), (1, .int p0), (2, .int p1)] dX3_readNumber_1 rfl (by decide) rfl ?_
  refine r_iconst C 3 (v := 0) dX3_readNumber_2 rfl (by decide) ?_
  refine r_istore C 5 [(4, .int 0), (3, .int 0), (0, .ref 79), (1, .int p0), (2, .int p1)] dX3_readNumber_3 rfl (by decide) rfl ?_
  exact Ws_pick [2, 3, 4, 1, 0] rfl h
set_option maxRecDepth 4000 in
theorem sg_X3_readNumber_5 {x : Ctx} {K : Int32 → Mem → Prop} {X : String → Mem → Prop} (C : Cx x RX3 cX3_readNumber 5) (r : RtI x 2 0 (some .boolean) K X) (i1 : Int32) (i2 : Int32) (i3 : Int32) (i4 : Int32)  (σ : Mem) (h : (i2 ≤ i4 → (vp_in (((σ.1 79 3) * 4) + i1) 80) ∧ (∀ σ67 : Mem, σ67 = wi σ 82 ((((σ.1 79 3) * 4) + i1)).toNatClampNeg i3 → (i4 ≤ 0 → K 0 σ67) ∧ (¬ i4 ≤ 0 → K 1 σ67))) ∧ (¬ i2 ≤ i4 → sp_X3_nextSign  σ (fun r12 σ12 => sp_X4_isWithin r12 48 57 σ12 (fun r19 σ19 => (r19 = 0 → (vp_in (((σ19.1 79 3) * 4) + i1) 80) ∧ (∀ σ67 : Mem, σ67 = wi σ19 82 ((((σ19.1 79 3) * 4) + i1)).toNatClampNeg i3 → (i4 ≤ 0 → K 0 σ67) ∧ (¬ i4 ≤ 0 → K 1 σ67))) ∧ (¬ r19 = 0 → sp_X3_nextSign  σ19 (fun r30 σ30 => ∀ v37 : Int32, v37 = ((i3 * 10) + (r30 - 48)) → ∀ σ45 : Mem, σ45 = wi σ30 79 2 ((σ30.1 79 2) + 1) → ∀ v48 : Int32, v48 = i4 + 1 → Ws x 0 5 [(0, .ref 79), (1, .int i1), (2, .int i2), (3, .int v37), (4, .int v48)] [] σ45) X)) X) X)) : Ws x 0 5 [(0, .ref 79), (1, .int i1), (2, .int i2), (3, .int i3), (4, .int i4)] [] σ := by
  refine r_iload (j := 4) C 7 dX3_readNumber_5 rfl rfl ?_
  refine r_iload_n (j := 2) C 8 dX3_readNumber_7 rfl rfl ?_
  refine r_icmp_ge C 54 11 dX3_readNumber_8 (by decide) rfl (fun c8 => ?_) (fun c8 => ?_)
  · have h := h.1 c8
    refine r_aload_n (j := 0) C 55 dX3_readNumber_54 rfl rfl ?_
    refine r_get (k := 5) C cl5 58 dX3_readNumber_55 rfl kd_79 (by decide) wd_343 (.ref 82) (fun _ => rfl) ?_
    refine r_aload_n (j := 0) C 59 dX3_readNumber_58 rfl rfl ?_
    refine r_get (k := 3) C cl5 62 dX3_readNumber_59 rfl kd_79 (by decide) wd_339 (.int (σ.1 79 3)) (fun _ => rfl) ?_
    refine r_iconst C 63 (v := 4) dX3_readNumber_62 rfl (by decide) ?_
    refine r_imul C 64 dX3_readNumber_63 rfl ?_
    refine r_iload_n (j := 1) C 65 dX3_readNumber_64 rfl rfl ?_
    refine r_iadd C 66 dX3_readNumber_65 rfl ?_
    refine r_iload_n (j := 3) C 67 dX3_readNumber_66 rfl rfl ?_
    obtain ⟨o67, h⟩ := h
    refine r_iast C 68 dX3_readNumber_67 rfl kd_82 o67 ?_
    refine r_nmS (fun σ67 e67 => ?_)
    have h := h σ67 e67
    refine r_iload (j := 4) C 70 dX3_readNumber_68 rfl rfl ?_
    refine r_if_le C 77 73 dX3_readNumber_70 (by decide) rfl (fun c70 => ?_) (fun c70 => ?_)
    · have h := h.1 c70
      refine r_iconst C 78 (v := 0) dX3_readNumber_77 rfl (by decide) ?_
      exact r_iret (S := []) C r dX3_readNumber_78 (by decide) (by decide) h
    · have h := h.2 c70
      refine r_iconst C 74 (v := 1) dX3_readNumber_73 rfl (by decide) ?_
      refine r_goto C 78 dX3_readNumber_74 (by decide) ?_
      exact r_iret (S := []) C r dX3_readNumber_78 (by decide) (by decide) h
  · have h := h.2 c8
    refine r_aload_n (j := 0) C 12 dX3_readNumber_11 rfl rfl ?_
    refine r_cVI (as := []) (S := []) C r.px 15 (ct_X3_nextSign  _ _ _ h) dX3_readNumber_12 rfl cl5 kd_79 wd_32 wd_967 rfl wd_965 wd_968 wd_94 yd_X3_nextSign ⟨Nat.le_of_ble_eq_true rfl, Nat.le_of_ble_eq_true rfl⟩ (Nat.le_of_ble_eq_true rfl) (by decide) (fun r12 σ12 h => ?_)
    refine r_bipush C 17 (v := 48) dX3_readNumber_15 rfl (by decide) ?_
    refine r_bipush C 19 (v := 57) dX3_readNumber_17 rfl (by decide) ?_
    refine r_cNI (b := 0) (as := [.int r12, .int 48, .int 57]) (S := []) C r.px 22 (ct_X4_isWithin _ _ _ _ _ _ h) dX3_readNumber_19 rfl wd_432 (nbd_977) wd_433 wd_90 yd_X4_isWithin ⟨Nat.le_of_ble_eq_true rfl, Nat.le_of_ble_eq_true rfl⟩ (Nat.le_of_ble_eq_true rfl) (by decide) (fun r19 σ19 h => ?_)
    refine r_if_eq C 54 25 dX3_readNumber_22 (by decide) rfl (fun c22 => ?_) (fun c22 => ?_)
    · have h := h.1 c22
      refine r_aload_n (j := 0) C 55 dX3_readNumber_54 rfl rfl ?_
      refine r_get (k := 5) C cl5 58 dX3_readNumber_55 rfl kd_79 (by decide) wd_343 (.ref 82) (fun _ => rfl) ?_
      refine r_aload_n (j := 0) C 59 dX3_readNumber_58 rfl rfl ?_
      refine r_get (k := 3) C cl5 62 dX3_readNumber_59 rfl kd_79 (by decide) wd_339 (.int (σ19.1 79 3)) (fun _ => rfl) ?_
      refine r_iconst C 63 (v := 4) dX3_readNumber_62 rfl (by decide) ?_
      refine r_imul C 64 dX3_readNumber_63 rfl ?_
      refine r_iload_n (j := 1) C 65 dX3_readNumber_64 rfl rfl ?_
      refine r_iadd C 66 dX3_readNumber_65 rfl ?_
      refine r_iload_n (j := 3) C 67 dX3_readNumber_66 rfl rfl ?_
      obtain ⟨o67, h⟩ := h
      refine r_iast C 68 dX3_readNumber_67 rfl kd_82 o67 ?_
      refine r_nmS (fun σ67 e67 => ?_)
      have h := h σ67 e67
      refine r_iload (j := 4) C 70 dX3_readNumber_68 rfl rfl ?_
      refine r_if_le C 77 73 dX3_readNumber_70 (by decide) rfl (fun c70 => ?_) (fun c70 => ?_)
      · have h := h.1 c70
        refine r_iconst C 78 (v := 0) dX3_readNumber_77 rfl (by decide) ?_
        exact r_iret (S := []) C r dX3_readNumber_78 (by decide) (by decide) h
      · have h := h.2 c70
        refine r_iconst C 74 (v := 1) dX3_readNumber_73 rfl (by decide) ?_
        refine r_goto C 78 dX3_readNumber_74 (by decide) ?_
        exact r_iret (S := []) C r dX3_readNumber_78 (by decide) (by decide) h
    · have h := h.2 c22
      refine r_iload_n (j := 3) C 26 dX3_readNumber_25 rfl rfl ?_
      refine r_bipush C 28 (v := 10) dX3_readNumber_26 rfl (by decide) ?_
      refine r_imul C 29 dX3_readNumber_28 rfl ?_
      refine r_aload_n (j := 0) C 30 dX3_readNumber_29 rfl rfl ?_
      refine r_cVI (as := []) (S := [.int (i3 * 10)]) C r.px 33 (ct_X3_nextSign  _ _ _ h) dX3_readNumber_30 rfl cl5 kd_79 wd_32 wd_967 rfl wd_965 wd_968 wd_94 yd_X3_nextSign ⟨Nat.le_of_ble_eq_true rfl, Nat.le_of_ble_eq_true rfl⟩ (Nat.le_of_ble_eq_true rfl) (by decide) (fun r30 σ30 h => ?_)
      refine r_bipush C 35 (v := 48) dX3_readNumber_33 rfl (by decide) ?_
      refine r_isub C 36 dX3_readNumber_35 rfl ?_
      refine r_iadd C 37 dX3_readNumber_36 rfl ?_
      refine r_nmI (fun v37 e37 => ?_)
      have h := h v37 e37
      refine r_istore_n C 38 [(3, .int v37), (0, .ref 79), (1, .int i1), (2, .int i2), (4, .int i4)] dX3_readNumber_37 rfl (by decide) rfl ?_
      refine r_aload_n (j := 1) C 39 dX3_readNumber_38 rfl rfl ?_
      refine r_dup C 40 dX3_readNumber_39 rfl rfl ?_
      refine r_get (k := 2) C cl5 43 dX3_readNumber_40 rfl kd_79 (by decide) wd_338 (.int (σ30.1 79 2)) (fun _ => rfl) ?_
      refine r_iconst C 44 (v := 1) dX3_readNumber_43 rfl (by decide) ?_
      refine r_iadd C 45 dX3_readNumber_44 rfl ?_
      refine r_putI (k := 2) C cl5 48 dX3_readNumber_45 rfl kd_79 (by decide) wd_338 rfl rfl rfl rfl ?_
      refine r_nmS (fun σ45 e45 => ?_)
      have h := h σ45 e45
      obtain ⟨v48, e48⟩ : ∃ y : Int32, y = i4 + 1 := ⟨_, rfl⟩
      have h := h v48 e48
      refine r_iinc (j := 4) C 51 [(4, .int v48), (3, .int v37), (0, .ref 79), (1, .int i1), (2, .int i2)] dX3_readNumber_48 rfl rfl (by rw [e48]; rfl) (by decide) rfl ?_
      refine r_goto C 5 dX3_readNumber_51 (by decide) ?_
      exact Ws_pick [2, 3, 4, 1, 0] rfl h
theorem vc_X3_readNumber {x : Ctx} {K : Int32 → Mem → Prop} {X : String → Mem → Prop} (C : Cx x RX3 cX3_readNumber 5) (r : RtI x 2 0 (some .boolean) K X) (p0 p1 : Int32) (σ : Mem) (h : sp_X3_readNumber p0 p1 σ K X) : Ws x 0 0 [(0, .ref 79), (1, .int p0), (2, .int p1)] [] σ := by
  obtain ⟨s, n, i, d, y, k, hT, hi, hin, hd, hd2, e0, hy, e1, hk, hK⟩ := h
  subst e0
  subst e1
  have hn := hT.1
  have e3 : ∀ v : Int32, (wi σ 79 2 v).1 79 3 = nI d := fun v => by rw [wi_i, if_neg (fun q => absurd q.2 (by decide)), hd]
  have eix : nI d * 4 + nI y = nI (4 * d + y) := by rw [show (4 : Int32) = nI 4 from rfl, nI_mul, nI_add, Nat.mul_comm]
  have fin : ∀ m v : Nat, m ≤ 3 → K (if 0 < m then 1 else 0) (wi (wi σ 79 2 (nI (i + m))) 82 (4 * d + y) (nI v)) → (vp_in ((((wi σ 79 2 (nI (i + m))).1 79 3) * 4) + nI y) 80) ∧ (∀ σ67 : Mem, σ67 = wi (wi σ 79 2 (nI (i + m))) 82 (((((wi σ 79 2 (nI (i + m))).1 79 3) * 4) + nI y)).toNatClampNeg (nI v) → (nI m ≤ 0 → K 0 σ67) ∧ (¬ nI m ≤ 0 → K 1 σ67)) := by
    intro m v hm hK
    rw [e3, eix]
    refine ⟨n_inR (by omega) (by decide), fun σ67 e67 => ?_⟩
    rw [n_cl (by omega)] at e67
    subst e67
    rw [show (0 : Int32) = nI 0 from rfl, nI_leI (by omega) (by omega)]
    refine ⟨fun c => ?_, fun c => ?_⟩
    · rw [if_neg (by omega)] at hK; exact hK
    · rw [if_pos (by omega)] at hK; exact hK
  have H : ∀ (q m v : Nat), m + q = k → i + m ≤ n → K (if 0 < m + nD s n q (i + m) then 1 else 0) (wi (wi σ 79 2 (nI (i + m + nD s n q (i + m)))) 82 (4 * d + y) (nI (vD s n q (i + m) v))) → Ws x 0 5 [(0, .ref 79), (1, .int (nI y)), (2, .int (nI k)), (3, .int (nI v)), (4, .int (nI m))] [] (wi σ 79 2 (nI (i + m))) := by
    intro q
    induction q with
    | zero =>
      intro m v hm hmn hK
      exact sg_X3_readNumber_5 C r _ _ _ _ _ ⟨fun _ => fin m v (by omega) hK, fun c => absurd (nI_le (by omega) (by omega)) c⟩
    | succ q ih =>
      intro m v hm hmn hK
      refine sg_X3_readNumber_5 C r _ _ _ _ _ ⟨fun c => absurd c (nI_ge (by omega) (by omega)), fun _ => ?_⟩
      have hT' := hT.w2 (nI (i + m))
      have hi' := wi_at σ 79 2 (nI (i + m))
      have hl := chT_le (fun i q => (hT.2.2 i q).2) (n := n) (i := i + m)
      refine i_X3_nextSign hT' hi' (by omega) (i_X4_dig hl ?_)
      by_cases c : isD (chT s n (i + m)) = true
      · rw [if_pos c]
        refine ⟨fun q => absurd q (by decide), fun _ => i_X3_nextSign hT' hi' (by omega) (fun v37 e37 σ45 e45 v48 e48 => ?_)⟩
        have hin2 := isD_lt c
        rw [show (48 : Int32) = nI 48 from rfl, pk_sub (isD_iff.mp c).1, show (10 : Int32) = nI 10 from rfl, nI_mul, nI_add, Nat.mul_comm] at e37
        rw [hi', wi_wi, nI_1] at e45
        rw [nI_1] at e48
        rw [e37, e45, e48]
        rw [nD_s c, vD_s c] at hK
        refine ih (m + 1) _ (by omega) (by omega) ?_
        rw [show m + 1 + nD s n q (i + (m + 1)) = m + (nD s n q (i + m + 1) + 1) by rw [show i + (m + 1) = i + m + 1 by omega]; omega, show i + (m + 1) + nD s n q (i + (m + 1)) = i + m + (nD s n q (i + m + 1) + 1) by rw [show i + (m + 1) = i + m + 1 by omega]; omega, show i + (m + 1) = i + m + 1 by omega]
        exact hK
      · rw [if_neg c]
        rw [nD_0 c, vD_0 c] at hK
        exact ⟨fun _ => fin m v (by omega) hK, fun q => absurd rfl q⟩
  have h0 := H k 0 0 (by omega) (by omega) (by rw [Nat.zero_add, Nat.add_zero]; exact hK)
  rw [Nat.add_zero, wi_same hi] at h0
  exact sg_X3_readNumber_0 C r _ _ σ h0
theorem ct_X3_readNumber (p0 : Int32) (p1 : Int32) (σ : Mem) (K : Int32 → Mem → Prop) (X : String → Mem → Prop) (h : sp_X3_readNumber p0 p1 σ K X) : CtI yX3_readNumber cX3_readNumber 5 (some .boolean) 2 0 [.ref 79, .int p0, .int p1] σ K X :=
  ctI_of (by decide +kernel) (Nat.le_of_ble_eq_true rfl) (fun x C r => vc_X3_readNumber C r p0 p1 σ h)
/-! HeatNetwork$Text.readSigned(I)Z: level 3, exceptions 0 -/
def sp_X3_readSigned (p0 : Int32) (σ : Mem) (K : Int32 → Mem → Prop) (X : String → Mem → Prop) : Prop := (sp_X3_take 45 σ (fun r3 σ3 => sp_X3_readNumber p0 3 σ3 (fun r10 σ10 => (¬ r10 = 0 → (r3 = 0 → K 1 σ10) ∧ (¬ r3 = 0 → sp_X3_valueOf (σ10.1 79 3) p0 σ10 (fun r40 σ40 => (vp_in (((σ10.1 79 3) * 4) + p0) 80) ∧ (∀ σ44 : Mem, σ44 = wi σ40 82 ((((σ10.1 79 3) * 4) + p0)).toNatClampNeg (-r40) → K 1 σ44)) X)) ∧ (r10 = 0 → K 0 σ10)) X) X)
set_option maxRecDepth 4000 in
theorem sg_X3_readSigned_0 {x : Ctx} {K : Int32 → Mem → Prop} {X : String → Mem → Prop} (C : Cx x RX3 cX3_readSigned 3) (r : RtI x 3 0 (some .boolean) K X) (p0 : Int32)  (σ : Mem) (h : sp_X3_take 45 σ (fun r3 σ3 => sp_X3_readNumber p0 3 σ3 (fun r10 σ10 => (¬ r10 = 0 → (r3 = 0 → K 1 σ10) ∧ (¬ r3 = 0 → sp_X3_valueOf (σ10.1 79 3) p0 σ10 (fun r40 σ40 => (vp_in (((σ10.1 79 3) * 4) + p0) 80) ∧ (∀ σ44 : Mem, σ44 = wi σ40 82 ((((σ10.1 79 3) * 4) + p0)).toNatClampNeg (-r40) → K 1 σ44)) X)) ∧ (r10 = 0 → K 0 σ10)) X) X) : Ws x 0 0 [(0, .ref 79), (1, .int p0)] [] σ := by
  refine r_aload_n (j := 0) C 1 dX3_readSigned_0 rfl rfl ?_
  refine r_bipush C 3 (v := 45) dX3_readSigned_1 rfl (by decide) ?_
  refine r_cVI (as := [.int 45]) (S := []) C r.px 6 (ct_X3_take _ _ _ _ h) dX3_readSigned_3 rfl cl5 kd_79 wd_33 wd_971 rfl wd_969 wd_972 wd_94 yd_X3_take ⟨Nat.le_of_ble_eq_true rfl, Nat.le_of_ble_eq_true rfl⟩ (Nat.le_of_ble_eq_true rfl) (by decide) (fun r3 σ3 h => ?_)
  refine r_istore_n C 7 [(2, .int r3), (0, .ref 79), (1, .int p0)] dX3_readSigned_6 rfl (by decide) rfl ?_
  refine r_aload_n (j := 1) C 8 dX3_readSigned_7 rfl rfl ?_
  refine r_iload_n (j := 2) C 9 dX3_readSigned_8 rfl rfl ?_
  refine r_iconst C 10 (v := 3) dX3_readSigned_9 rfl (by decide) ?_
  refine r_cVI (as := [.int p0, .int 3]) (S := []) C r.px 13 (ct_X3_readNumber _ _ _ _ _ h) dX3_readSigned_10 rfl cl5 kd_79 wd_34 wd_975 rfl wd_973 wd_976 wd_94 yd_X3_readNumber ⟨Nat.le_of_ble_eq_true rfl, Nat.le_of_ble_eq_true rfl⟩ (Nat.le_of_ble_eq_true rfl) (by decide) (fun r10 σ10 h => ?_)
  refine r_if_ne C 18 16 dX3_readSigned_13 (by decide) rfl (fun c13 => ?_) (fun c13 => ?_)
  · have h := h.1 c13
    refine r_iload_n (j := 0) C 19 dX3_readSigned_18 rfl rfl ?_
    refine r_if_eq C 45 22 dX3_readSigned_19 (by decide) rfl (fun c19 => ?_) (fun c19 => ?_)
    · have h := h.1 c19
      refine r_iconst C 46 (v := 1) dX3_readSigned_45 rfl (by decide) ?_
      exact r_iret (S := []) C r dX3_readSigned_46 (by decide) (by decide) h
    · have h := h.2 c19
      refine r_aload_n (j := 1) C 23 dX3_readSigned_22 rfl rfl ?_
      refine r_get (k := 5) C cl5 26 dX3_readSigned_23 rfl kd_79 (by decide) wd_343 (.ref 82) (fun _ => rfl) ?_
      refine r_aload_n (j := 1) C 27 dX3_readSigned_26 rfl rfl ?_
      refine r_get (k := 3) C cl5 30 dX3_readSigned_27 rfl kd_79 (by decide) wd_339 (.int (σ10.1 79 3)) (fun _ => rfl) ?_
      refine r_iconst C 31 (v := 4) dX3_readSigned_30 rfl (by decide) ?_
      refine r_imul C 32 dX3_readSigned_31 rfl ?_
      refine r_iload_n (j := 2) C 33 dX3_readSigned_32 rfl rfl ?_
      refine r_iadd C 34 dX3_readSigned_33 rfl ?_
      refine r_aload_n (j := 1) C 35 dX3_readSigned_34 rfl rfl ?_
      refine r_aload_n (j := 1) C 36 dX3_readSigned_35 rfl rfl ?_
      refine r_get (k := 3) C cl5 39 dX3_readSigned_36 rfl kd_79 (by decide) wd_339 (.int (σ10.1 79 3)) (fun _ => rfl) ?_
      refine r_iload_n (j := 2) C 40 dX3_readSigned_39 rfl rfl ?_
      refine r_cVI (as := [.int (σ10.1 79 3), .int p0]) (S := [.int (((σ10.1 79 3) * 4) + p0), .ref 82]) C r.px 43 (ct_X3_valueOf _ _ _ _ _ h) dX3_readSigned_40 rfl cl5 kd_79 wd_984 wd_983 rfl wd_982 wd_985 wd_94 yd_X3_valueOf ⟨Nat.le_of_ble_eq_true rfl, Nat.le_of_ble_eq_true rfl⟩ (Nat.le_of_ble_eq_true rfl) (by decide) (fun r40 σ40 h => ?_)
      refine r_ineg C 44 dX3_readSigned_43 rfl ?_
      obtain ⟨o44, h⟩ := h
      refine r_iast C 45 dX3_readSigned_44 rfl kd_82 o44 ?_
      refine r_nmS (fun σ44 e44 => ?_)
      have h := h σ44 e44
      refine r_iconst C 46 (v := 1) dX3_readSigned_45 rfl (by decide) ?_
      exact r_iret (S := []) C r dX3_readSigned_46 (by decide) (by decide) h
  · have h := h.2 c13
    refine r_iconst C 17 (v := 0) dX3_readSigned_16 rfl (by decide) ?_
    exact r_iret (S := []) C r dX3_readSigned_17 (by decide) (by decide) h
theorem ct_X3_readSigned (p0 : Int32) (σ : Mem) (K : Int32 → Mem → Prop) (X : String → Mem → Prop) (h : sp_X3_readSigned p0 σ K X) : CtI yX3_readSigned cX3_readSigned 3 (some .boolean) 3 0 [.ref 79, .int p0] σ K X := by
  have h := h
  exact ctI_of (by decide +kernel) (Nat.le_of_ble_eq_true rfl) (fun x C r => sg_X3_readSigned_0 C r p0  σ h)
/-! HeatNetworkModel.number()I: level 3, exceptions 0 -/
/-- one to three digits are read -/
def sp_X5_number (σ : Mem) (K : Int32 → Mem → Prop) (X : String → Mem → Prop) : Prop := ∃ (s : Nat → Nat) (n i : Nat), TxM s n σ ∧ σ.1 209 13 = nI i ∧ i ≤ n ∧ K (if 0 < nD s n 3 i then nI (vD s n 3 i 0) else -1) (wi σ 209 13 (nI (i + nD s n 3 i)))
set_option maxRecDepth 4000 in
theorem sg_X5_number_0 {x : Ctx} {K : Int32 → Mem → Prop} {X : String → Mem → Prop} (C : Cx x RX5 cX5_number 3) (r : RtI x 3 0 (some .int) K X)   (σ : Mem) (h : sp_X5_digit  σ (fun r1 σ1 => Ws x 0 7 [(0, .ref 209), (1, .int r1), (2, .int 1)] [] σ1) X) : Ws x 0 0 [(0, .ref 209)] [] σ := by
  refine r_aload_n (j := 0) C 1 dX5_number_0 rfl rfl ?_
  refine r_cVI (as := []) (S := []) C r.px 4 (ct_X5_digit  _ _ _ h) dX5_number_1 rfl cl7 kd_209 wd_83 wd_1557 rfl wd_1555 wd_1558 wd_95 yd_X5_digit ⟨Nat.le_of_ble_eq_true rfl, Nat.le_of_ble_eq_true rfl⟩ (Nat.le_of_ble_eq_true rfl) (by decide) (fun r1 σ1 h => ?_)
  refine r_istore_n C 5 [(1, .int r1), (0, .ref 209)] dX5_number_4 rfl (by decide) rfl ?_
  refine r_iconst C 6 (v := 1) dX5_number_5 rfl (by decide) ?_
  refine r_istore_n C 7 [(2, .int 1), (1, .int r1), (0, .ref 209)] dX5_number_6 rfl (by decide) rfl ?_
  exact Ws_pick [2, 1, 0] rfl h
set_option maxRecDepth 4000 in
theorem sg_X5_number_7 {x : Ctx} {K : Int32 → Mem → Prop} {X : String → Mem → Prop} (C : Cx x RX5 cX5_number 3) (r : RtI x 3 0 (some .int) K X) (i1 : Int32) (i2 : Int32)  (σ : Mem) (h : (i1 < 0 → K i1 σ) ∧ (¬ i1 < 0 → (3 ≤ i2 → K i1 σ) ∧ (¬ 3 ≤ i2 → sp_X5_here  σ (fun r17 σ17 => sp_X5_in r17 48 57 σ17 (fun r24 σ24 => (r24 = 0 → K i1 σ24) ∧ (¬ r24 = 0 → sp_X5_digit  σ24 (fun r35 σ35 => ∀ v39 : Int32, v39 = ((10 * i1) + r35) → ∀ v40 : Int32, v40 = i2 + 1 → Ws x 0 7 [(0, .ref 209), (1, .int v39), (2, .int v40)] [] σ35) X)) X) X))) : Ws x 0 7 [(0, .ref 209), (1, .int i1), (2, .int i2)] [] σ := by
  refine r_iload_n (j := 1) C 8 dX5_number_7 rfl rfl ?_
  refine r_if_lt C 46 11 dX5_number_8 (by decide) rfl (fun c8 => ?_) (fun c8 => ?_)
  · have h := h.1 c8
    refine r_iload_n (j := 1) C 47 dX5_number_46 rfl rfl ?_
    exact r_iret (S := []) C r dX5_number_47 (by decide) rfl h
  · have h := h.2 c8
    refine r_iload_n (j := 2) C 12 dX5_number_11 rfl rfl ?_
    refine r_iconst C 13 (v := 3) dX5_number_12 rfl (by decide) ?_
    refine r_icmp_ge C 46 16 dX5_number_13 (by decide) rfl (fun c13 => ?_) (fun c13 => ?_)
    · have h := h.1 c13
      refine r_iload_n (j := 1) C 47 dX5_number_46 rfl rfl ?_
      exact r_iret (S := []) C r dX5_number_47 (by decide) rfl h
    · have h := h.2 c13
      refine r_aload_n (j := 0) C 17 dX5_number_16 rfl rfl ?_
      refine r_cVI (as := []) (S := []) C r.px 20 (ct_X5_here  _ _ _ h) dX5_number_17 rfl cl7 kd_209 wd_81 wd_1549 rfl wd_1547 wd_1550 wd_95 yd_X5_here ⟨Nat.le_of_ble_eq_true rfl, Nat.le_of_ble_eq_true rfl⟩ (Nat.le_of_ble_eq_true rfl) (by decide) (fun r17 σ17 h => ?_)
      refine r_bipush C 22 (v := 48) dX5_number_20 rfl (by decide) ?_
      refine r_bipush C 24 (v := 57) dX5_number_22 rfl (by decide) ?_
      refine r_cSI (b := 0) (as := [.int r17, .int 48, .int 57]) (S := []) C r.px 27 (ct_X5_in _ _ _ _ _ _ h) dX5_number_24 rfl wd_1321 wd_1320 wd_1322 wd_95 yd_X5_in ⟨Nat.le_of_ble_eq_true rfl, Nat.le_of_ble_eq_true rfl⟩ (Nat.le_of_ble_eq_true rfl) (by decide) (fun r24 σ24 h => ?_)
      refine r_if_eq C 46 30 dX5_number_27 (by decide) rfl (fun c27 => ?_) (fun c27 => ?_)
      · have h := h.1 c27
        refine r_iload_n (j := 1) C 47 dX5_number_46 rfl rfl ?_
        exact r_iret (S := []) C r dX5_number_47 (by decide) rfl h
      · have h := h.2 c27
        refine r_bipush C 32 (v := 10) dX5_number_30 rfl (by decide) ?_
        refine r_iload_n (j := 1) C 33 dX5_number_32 rfl rfl ?_
        refine r_imul C 34 dX5_number_33 rfl ?_
        refine r_aload_n (j := 0) C 35 dX5_number_34 rfl rfl ?_
        refine r_cVI (as := []) (S := [.int (10 * i1)]) C r.px 38 (ct_X5_digit  _ _ _ h) dX5_number_35 rfl cl7 kd_209 wd_83 wd_1557 rfl wd_1555 wd_1558 wd_95 yd_X5_digit ⟨Nat.le_of_ble_eq_true rfl, Nat.le_of_ble_eq_true rfl⟩ (Nat.le_of_ble_eq_true rfl) (by decide) (fun r35 σ35 h => ?_)
        refine r_iadd C 39 dX5_number_38 rfl ?_
        refine r_nmI (fun v39 e39 => ?_)
        have h := h v39 e39
        refine r_istore_n C 40 [(1, .int v39), (0, .ref 209), (2, .int i2)] dX5_number_39 rfl (by decide) rfl ?_
        obtain ⟨v40, e40⟩ : ∃ y : Int32, y = i2 + 1 := ⟨_, rfl⟩
        have h := h v40 e40
        refine r_iinc (j := 2) C 43 [(2, .int v40), (1, .int v39), (0, .ref 209)] dX5_number_40 rfl rfl (by rw [e40]; rfl) (by decide) rfl ?_
        refine r_goto C 7 dX5_number_43 (by decide) ?_
        exact Ws_pick [2, 1, 0] rfl h
theorem vc_X5_number {x : Ctx} {K : Int32 → Mem → Prop} {X : String → Mem → Prop} (C : Cx x RX5 cX5_number 3) (r : RtI x 3 0 (some .int) K X) (σ : Mem) (h : sp_X5_number σ K X) : Ws x 0 0 [(0, .ref 209)] [] σ := by
  obtain ⟨s, n, i, hT, hi, hin, hK⟩ := h
  have hn := hT.1
  have H : ∀ (q m v : Nat), m + q = 3 → v < 10 ^ m → i + m ≤ n → K (nI (vD s n q (i + m) v)) (wi σ 209 13 (nI (i + m + nD s n q (i + m)))) → Ws x 0 7 [(0, .ref 209), (1, .int (nI v)), (2, .int (nI m))] [] (wi σ 209 13 (nI (i + m))) := by
    intro q
    induction q with
    | zero =>
      intro m v hm hv hmn hK
      have e : m = 3 := by omega
      subst e
      have hv' : v < 1000 := hv
      exact sg_X5_number_7 C r _ _ _ ⟨fun c => absurd c (nI_pos (by omega)), fun _ => ⟨fun _ => hK, fun c => absurd (nI_le (Nat.le_refl 3) (by decide)) c⟩⟩
    | succ q ih =>
      intro m v hm hv hmn hK
      have hv3 : 10 ^ m ≤ 10 ^ 3 := Nat.pow_le_pow_right (by decide) (by omega)
      have hv' : v < 1000 := Nat.lt_of_lt_of_le hv hv3
      have hT' := hT.w13 (nI (i + m))
      have hi' := wi_at σ 209 13 (nI (i + m))
      have hl := chT_le (fun i q => (hT.2.2 i q).2) (n := n) (i := i + m)
      refine sg_X5_number_7 C r _ _ _ ⟨fun c => absurd c (nI_pos (by omega)), fun _ => ⟨fun c => absurd c (nI_ge (a := m) (b := 3) (by omega) (by decide)), fun _ => i_X5_here hT' hi' (by omega) (i_X5_dig hl ?_)⟩⟩
      by_cases c : isD (chT s n (i + m)) = true
      · rw [if_pos c]
        have hin2 := isD_lt c
        refine ⟨fun q => absurd q (by decide), fun _ => i_X5_digit hT' hi' (by omega) (fun _ v39 e39 v40 e40 => ?_) (fun q => absurd c q)⟩
        have hd := isD_iff.mp c
        rw [show (10 : Int32) = nI 10 from rfl, nI_mul, nI_add] at e39
        rw [nI_1] at e40
        rw [e39, e40, wi_wi]
        rw [nD_s c, vD_s c] at hK
        refine ih (m + 1) _ (by omega) (by rw [Nat.pow_succ]; omega) (by omega) ?_
        rw [show i + (m + 1) + nD s n q (i + (m + 1)) = i + m + (nD s n q (i + m + 1) + 1) by rw [show i + (m + 1) = i + m + 1 by omega]; omega, show i + (m + 1) = i + m + 1 by omega]
        exact hK
      · rw [if_neg c]
        rw [nD_0 c, vD_0 c] at hK
        exact ⟨fun _ => hK, fun q => absurd rfl q⟩
  refine sg_X5_number_0 C r σ (i_X5_digit hT hi (by omega) (fun c => ?_) (fun c => ?_))
  · have hin2 := isD_lt c
    have hd := isD_iff.mp c
    rw [nD_s c, vD_s c, if_pos (by omega)] at hK
    refine H 2 1 (chT s n i - 48) rfl (by omega) (by omega) ?_
    rw [show 10 * 0 + (chT s n i - 48) = chT s n i - 48 by omega] at hK
    rw [show i + 1 + nD s n 2 (i + 1) = i + (nD s n 2 (i + 1) + 1) by omega]
    exact hK
  · rw [nD_0 c, if_neg (by omega), Nat.add_zero, wi_same hi] at hK
    exact sg_X5_number_7 C r _ _ _ ⟨fun _ => hK, fun q => absurd (by decide) q⟩
theorem ct_X5_number  (σ : Mem) (K : Int32 → Mem → Prop) (X : String → Mem → Prop) (h : sp_X5_number  σ K X) : CtI yX5_number cX5_number 3 (some .int) 3 0 [.ref 209] σ K X :=
  ctI_of (by decide +kernel) (Nat.le_of_ble_eq_true rfl) (fun x C r => vc_X5_number C r  σ h)
/-! HeatNetwork$Text.readDefinition()Z: level 4, exceptions 0 -/
def sp_X3_readDefinition  (σ : Mem) (K : Int32 → Mem → Prop) (X : String → Mem → Prop) : Prop := (sp_X3_nextSign  σ (fun r1 σ1 => (vp_in (σ1.1 79 3) 20) ∧ ((vp_nar .char r1 = r1) ∧ (∀ σ14 : Mem, σ14 = wi σ1 81 ((σ1.1 79 3)).toNatClampNeg r1 → (r1 = 104 → sp_X3_take 104 σ14 (fun r292 σ292 => (r292 = 0 → K 0 σ292) ∧ (¬ r292 = 0 → sp_X3_readNumber 0 3 σ292 (fun r301 σ301 => (r301 = 0 → K 0 σ301) ∧ (¬ r301 = 0 → K 1 σ301)) X)) X) ∧ (r1 = 112 → sp_X3_take 112 σ14 (fun r71 σ71 => (r71 = 0 → K 0 σ71) ∧ (¬ r71 = 0 → sp_X3_readNumber 0 1 σ71 (fun r80 σ80 => (r80 = 0 → K 0 σ80) ∧ (¬ r80 = 0 → sp_X3_take 45 σ80 (fun r89 σ89 => (r89 = 0 → K 0 σ89) ∧ (¬ r89 = 0 → sp_X3_readNumber 1 1 σ89 (fun r98 σ98 => (r98 = 0 → K 0 σ98) ∧ (¬ r98 = 0 → sp_X3_take 58 σ98 (fun r107 σ107 => (r107 = 0 → K 0 σ107) ∧ (¬ r107 = 0 → sp_X3_readNumber 2 3 σ107 (fun r116 σ116 => (r116 = 0 → K 0 σ116) ∧ (¬ r116 = 0 → sp_X3_take 44 σ116 (fun r125 σ125 => (r125 = 0 → K 0 σ125) ∧ (¬ r125 = 0 → sp_X3_readNumber 3 3 σ125 (fun r134 σ134 => (r134 = 0 → K 0 σ134) ∧ (¬ r134 = 0 → K 1 σ134)) X)) X)) X)) X)) X)) X)) X)) X) ∧ (r1 = 115 → sp_X3_take 115 σ14 (fun r149 σ149 => (r149 = 0 → K 0 σ149) ∧ (¬ r149 = 0 → sp_X3_readNumber 0 1 σ149 (fun r158 σ158 => (r158 = 0 → K 0 σ158) ∧ (¬ r158 = 0 → sp_X3_take 58 σ158 (fun r167 σ167 => (r167 = 0 → K 0 σ167) ∧ (¬ r167 = 0 → sp_X3_readNumber 1 3 σ167 (fun r176 σ176 => (r176 = 0 → K 0 σ176) ∧ (¬ r176 = 0 → sp_X3_take 44 σ176 (fun r185 σ185 => (r185 = 0 → K 0 σ185) ∧ (¬ r185 = 0 → sp_X3_readNumber 2 3 σ185 (fun r194 σ194 => (r194 = 0 → K 0 σ194) ∧ (¬ r194 = 0 → sp_X3_take 44 σ194 (fun r203 σ203 => (r203 = 0 → K 0 σ203) ∧ (¬ r203 = 0 → sp_X3_readNumber 3 3 σ203 (fun r212 σ212 => (r212 = 0 → K 0 σ212) ∧ (¬ r212 = 0 → K 1 σ212)) X)) X)) X)) X)) X)) X)) X)) X) ∧ (r1 = 116 → sp_X3_take 116 σ14 (fun r251 σ251 => (r251 = 0 → K 0 σ251) ∧ (¬ r251 = 0 → sp_X3_readNumber 0 1 σ251 (fun r260 σ260 => (r260 = 0 → K 0 σ260) ∧ (¬ r260 = 0 → sp_X3_take 61 σ260 (fun r269 σ269 => (r269 = 0 → K 0 σ269) ∧ (¬ r269 = 0 → sp_X3_readSigned 1 σ269 (fun r277 σ277 => (r277 = 0 → K 0 σ277) ∧ (¬ r277 = 0 → K 1 σ277)) X)) X)) X)) X) ∧ (r1 = 120 → sp_X3_take 120 σ14 (fun r227 σ227 => (r227 = 0 → K 0 σ227) ∧ (¬ r227 = 0 → sp_X3_readNumber 0 1 σ227 (fun r236 σ236 => (r236 = 0 → K 0 σ236) ∧ (¬ r236 = 0 → K 1 σ236)) X)) X) ∧ (¬ r1 = 104 → ¬ r1 = 112 → ¬ r1 = 115 → ¬ r1 = 116 → ¬ r1 = 120 → K 0 σ14)))) X)
set_option maxRecDepth 4000 in
theorem sg_X3_readDefinition_0 {x : Ctx} {K : Int32 → Mem → Prop} {X : String → Mem → Prop} (C : Cx x RX3 cX3_readDefinition 2) (r : RtI x 4 0 (some .boolean) K X)   (σ : Mem) (h : sp_X3_nextSign  σ (fun r1 σ1 => (vp_in (σ1.1 79 3) 20) ∧ ((vp_nar .char r1 = r1) ∧ (∀ σ14 : Mem, σ14 = wi σ1 81 ((σ1.1 79 3)).toNatClampNeg r1 → (r1 = 104 → sp_X3_take 104 σ14 (fun r292 σ292 => (r292 = 0 → K 0 σ292) ∧ (¬ r292 = 0 → sp_X3_readNumber 0 3 σ292 (fun r301 σ301 => (r301 = 0 → K 0 σ301) ∧ (¬ r301 = 0 → K 1 σ301)) X)) X) ∧ (r1 = 112 → sp_X3_take 112 σ14 (fun r71 σ71 => (r71 = 0 → K 0 σ71) ∧ (¬ r71 = 0 → sp_X3_readNumber 0 1 σ71 (fun r80 σ80 => (r80 = 0 → K 0 σ80) ∧ (¬ r80 = 0 → sp_X3_take 45 σ80 (fun r89 σ89 => (r89 = 0 → K 0 σ89) ∧ (¬ r89 = 0 → sp_X3_readNumber 1 1 σ89 (fun r98 σ98 => (r98 = 0 → K 0 σ98) ∧ (¬ r98 = 0 → sp_X3_take 58 σ98 (fun r107 σ107 => (r107 = 0 → K 0 σ107) ∧ (¬ r107 = 0 → sp_X3_readNumber 2 3 σ107 (fun r116 σ116 => (r116 = 0 → K 0 σ116) ∧ (¬ r116 = 0 → sp_X3_take 44 σ116 (fun r125 σ125 => (r125 = 0 → K 0 σ125) ∧ (¬ r125 = 0 → sp_X3_readNumber 3 3 σ125 (fun r134 σ134 => (r134 = 0 → K 0 σ134) ∧ (¬ r134 = 0 → K 1 σ134)) X)) X)) X)) X)) X)) X)) X)) X) ∧ (r1 = 115 → sp_X3_take 115 σ14 (fun r149 σ149 => (r149 = 0 → K 0 σ149) ∧ (¬ r149 = 0 → sp_X3_readNumber 0 1 σ149 (fun r158 σ158 => (r158 = 0 → K 0 σ158) ∧ (¬ r158 = 0 → sp_X3_take 58 σ158 (fun r167 σ167 => (r167 = 0 → K 0 σ167) ∧ (¬ r167 = 0 → sp_X3_readNumber 1 3 σ167 (fun r176 σ176 => (r176 = 0 → K 0 σ176) ∧ (¬ r176 = 0 → sp_X3_take 44 σ176 (fun r185 σ185 => (r185 = 0 → K 0 σ185) ∧ (¬ r185 = 0 → sp_X3_readNumber 2 3 σ185 (fun r194 σ194 => (r194 = 0 → K 0 σ194) ∧ (¬ r194 = 0 → sp_X3_take 44 σ194 (fun r203 σ203 => (r203 = 0 → K 0 σ203) ∧ (¬ r203 = 0 → sp_X3_readNumber 3 3 σ203 (fun r212 σ212 => (r212 = 0 → K 0 σ212) ∧ (¬ r212 = 0 → K 1 σ212)) X)) X)) X)) X)) X)) X)) X)) X) ∧ (r1 = 116 → sp_X3_take 116 σ14 (fun r251 σ251 => (r251 = 0 → K 0 σ251) ∧ (¬ r251 = 0 → sp_X3_readNumber 0 1 σ251 (fun r260 σ260 => (r260 = 0 → K 0 σ260) ∧ (¬ r260 = 0 → sp_X3_take 61 σ260 (fun r269 σ269 => (r269 = 0 → K 0 σ269) ∧ (¬ r269 = 0 → sp_X3_readSigned 1 σ269 (fun r277 σ277 => (r277 = 0 → K 0 σ277) ∧ (¬ r277 = 0 → K 1 σ277)) X)) X)) X)) X) ∧ (r1 = 120 → sp_X3_take 120 σ14 (fun r227 σ227 => (r227 = 0 → K 0 σ227) ∧ (¬ r227 = 0 → sp_X3_readNumber 0 1 σ227 (fun r236 σ236 => (r236 = 0 → K 0 σ236) ∧ (¬ r236 = 0 → K 1 σ236)) X)) X) ∧ (¬ r1 = 104 → ¬ r1 = 112 → ¬ r1 = 115 → ¬ r1 = 116 → ¬ r1 = 120 → K 0 σ14)))) X) : Ws x 0 0 [(0, .ref 79)] [] σ := by
  refine r_aload_n (j := 0) C 1 dX3_readDefinition_0 rfl rfl ?_
  refine r_cVI (as := []) (S := []) C r.px 4 (ct_X3_nextSign  _ _ _ h) dX3_readDefinition_1 rfl cl5 kd_79 wd_32 wd_967 rfl wd_965 wd_968 wd_94 yd_X3_nextSign ⟨Nat.le_of_ble_eq_true rfl, Nat.le_of_ble_eq_true rfl⟩ (Nat.le_of_ble_eq_true rfl) (by decide) (fun r1 σ1 h => ?_)
  refine r_istore_n C 5 [(1, .int r1), (0, .ref 79)] dX3_readDefinition_4 rfl (by decide) rfl ?_
  refine r_aload_n (j := 1) C 6 dX3_readDefinition_5 rfl rfl ?_
  refine r_get (k := 4) C cl5 9 dX3_readDefinition_6 rfl kd_79 (by decide) wd_341 (.ref 81) (fun _ => rfl) ?_
  refine r_aload_n (j := 1) C 10 dX3_readDefinition_9 rfl rfl ?_
  refine r_get (k := 3) C cl5 13 dX3_readDefinition_10 rfl kd_79 (by decide) wd_339 (.int (σ1.1 79 3)) (fun _ => rfl) ?_
  refine r_iload_n (j := 0) C 14 dX3_readDefinition_13 rfl rfl ?_
  obtain ⟨o14, h⟩ := h
  obtain ⟨u14, h⟩ := h
  refine r_cast C 15 dX3_readDefinition_14 rfl kd_81 o14 u14 ?_
  refine r_nmS (fun σ14 e14 => ?_)
  have h := h σ14 e14
  refine r_iload_n (j := 0) C 16 dX3_readDefinition_15 rfl rfl ?_
  by_cases c16_104 : r1 = 104
  · have h := h.1 c16_104
    refine r_lksw C 289 (off := 273) dX3_readDefinition_16 (by decide) (by rw [c16_104] <;> rfl) (by decide) ?_
    refine r_aload_n (j := 1) C 290 dX3_readDefinition_289 rfl rfl ?_
    refine r_bipush C 292 (v := 104) dX3_readDefinition_290 rfl (by decide) ?_
    refine r_cVI (as := [.int 104]) (S := []) C r.px 295 (ct_X3_take _ _ _ _ h) dX3_readDefinition_292 rfl cl5 kd_79 wd_33 wd_971 rfl wd_969 wd_972 wd_94 yd_X3_take ⟨Nat.le_of_ble_eq_true rfl, Nat.le_of_ble_eq_true rfl⟩ (Nat.le_of_ble_eq_true rfl) (by decide) (fun r292 σ292 h => ?_)
    refine r_if_eq C 311 298 dX3_readDefinition_295 (by decide) rfl (fun c295 => ?_) (fun c295 => ?_)
    · have h := h.1 c295
      refine r_iconst C 312 (v := 0) dX3_readDefinition_311 rfl (by decide) ?_
      exact r_iret (S := []) C r dX3_readDefinition_312 (by decide) (by decide) h
    · have h := h.2 c295
      refine r_aload_n (j := 1) C 299 dX3_readDefinition_298 rfl rfl ?_
      refine r_iconst C 300 (v := 0) dX3_readDefinition_299 rfl (by decide) ?_
      refine r_iconst C 301 (v := 3) dX3_readDefinition_300 rfl (by decide) ?_
      refine r_cVI (as := [.int 0, .int 3]) (S := []) C r.px 304 (ct_X3_readNumber _ _ _ _ _ h) dX3_readDefinition_301 rfl cl5 kd_79 wd_34 wd_975 rfl wd_973 wd_976 wd_94 yd_X3_readNumber ⟨Nat.le_of_ble_eq_true rfl, Nat.le_of_ble_eq_true rfl⟩ (Nat.le_of_ble_eq_true rfl) (by decide) (fun r301 σ301 h => ?_)
      refine r_if_eq C 311 307 dX3_readDefinition_304 (by decide) rfl (fun c304 => ?_) (fun c304 => ?_)
      · have h := h.1 c304
        refine r_iconst C 312 (v := 0) dX3_readDefinition_311 rfl (by decide) ?_
        exact r_iret (S := []) C r dX3_readDefinition_312 (by decide) (by decide) h
      · have h := h.2 c304
        refine r_iconst C 308 (v := 1) dX3_readDefinition_307 rfl (by decide) ?_
        refine r_goto C 312 dX3_readDefinition_308 (by decide) ?_
        exact r_iret (S := []) C r dX3_readDefinition_312 (by decide) (by decide) h
  by_cases c16_112 : r1 = 112
  · have h := h.2.1 c16_112
    refine r_lksw C 68 (off := 52) dX3_readDefinition_16 (by decide) (by rw [c16_112] <;> rfl) (by decide) ?_
    refine r_aload_n (j := 1) C 69 dX3_readDefinition_68 rfl rfl ?_
    refine r_bipush C 71 (v := 112) dX3_readDefinition_69 rfl (by decide) ?_
    refine r_cVI (as := [.int 112]) (S := []) C r.px 74 (ct_X3_take _ _ _ _ h) dX3_readDefinition_71 rfl cl5 kd_79 wd_33 wd_971 rfl wd_969 wd_972 wd_94 yd_X3_take ⟨Nat.le_of_ble_eq_true rfl, Nat.le_of_ble_eq_true rfl⟩ (Nat.le_of_ble_eq_true rfl) (by decide) (fun r71 σ71 h => ?_)
    refine r_if_eq C 144 77 dX3_readDefinition_74 (by decide) rfl (fun c74 => ?_) (fun c74 => ?_)
    · have h := h.1 c74
      refine r_iconst C 145 (v := 0) dX3_readDefinition_144 rfl (by decide) ?_
      exact r_iret (S := []) C r dX3_readDefinition_145 (by decide) (by decide) h
    · have h := h.2 c74
      refine r_aload_n (j := 1) C 78 dX3_readDefinition_77 rfl rfl ?_
      refine r_iconst C 79 (v := 0) dX3_readDefinition_78 rfl (by decide) ?_
      refine r_iconst C 80 (v := 1) dX3_readDefinition_79 rfl (by decide) ?_
      refine r_cVI (as := [.int 0, .int 1]) (S := []) C r.px 83 (ct_X3_readNumber _ _ _ _ _ h) dX3_readDefinition_80 rfl cl5 kd_79 wd_34 wd_975 rfl wd_973 wd_976 wd_94 yd_X3_readNumber ⟨Nat.le_of_ble_eq_true rfl, Nat.le_of_ble_eq_true rfl⟩ (Nat.le_of_ble_eq_true rfl) (by decide) (fun r80 σ80 h => ?_)
      refine r_if_eq C 144 86 dX3_readDefinition_83 (by decide) rfl (fun c83 => ?_) (fun c83 => ?_)
      · have h := h.1 c83
        refine r_iconst C 145 (v := 0) dX3_readDefinition_144 rfl (by decide) ?_
        exact r_iret (S := []) C r dX3_readDefinition_145 (by decide) (by decide) h
      · have h := h.2 c83
        refine r_aload_n (j := 1) C 87 dX3_readDefinition_86 rfl rfl ?_
        refine r_bipush C 89 (v := 45) dX3_readDefinition_87 rfl (by decide) ?_
        refine r_cVI (as := [.int 45]) (S := []) C r.px 92 (ct_X3_take _ _ _ _ h) dX3_readDefinition_89 rfl cl5 kd_79 wd_33 wd_971 rfl wd_969 wd_972 wd_94 yd_X3_take ⟨Nat.le_of_ble_eq_true rfl, Nat.le_of_ble_eq_true rfl⟩ (Nat.le_of_ble_eq_true rfl) (by decide) (fun r89 σ89 h => ?_)
        refine r_if_eq C 144 95 dX3_readDefinition_92 (by decide) rfl (fun c92 => ?_) (fun c92 => ?_)
        · have h := h.1 c92
          refine r_iconst C 145 (v := 0) dX3_readDefinition_144 rfl (by decide) ?_
          exact r_iret (S := []) C r dX3_readDefinition_145 (by decide) (by decide) h
        · have h := h.2 c92
          refine r_aload_n (j := 1) C 96 dX3_readDefinition_95 rfl rfl ?_
          refine r_iconst C 97 (v := 1) dX3_readDefinition_96 rfl (by decide) ?_
          refine r_iconst C 98 (v := 1) dX3_readDefinition_97 rfl (by decide) ?_
          refine r_cVI (as := [.int 1, .int 1]) (S := []) C r.px 101 (ct_X3_readNumber _ _ _ _ _ h) dX3_readDefinition_98 rfl cl5 kd_79 wd_34 wd_975 rfl wd_973 wd_976 wd_94 yd_X3_readNumber ⟨Nat.le_of_ble_eq_true rfl, Nat.le_of_ble_eq_true rfl⟩ (Nat.le_of_ble_eq_true rfl) (by decide) (fun r98 σ98 h => ?_)
          refine r_if_eq C 144 104 dX3_readDefinition_101 (by decide) rfl (fun c101 => ?_) (fun c101 => ?_)
          · have h := h.1 c101
            refine r_iconst C 145 (v := 0) dX3_readDefinition_144 rfl (by decide) ?_
            exact r_iret (S := []) C r dX3_readDefinition_145 (by decide) (by decide) h
          · have h := h.2 c101
            refine r_aload_n (j := 1) C 105 dX3_readDefinition_104 rfl rfl ?_
            refine r_bipush C 107 (v := 58) dX3_readDefinition_105 rfl (by decide) ?_
            refine r_cVI (as := [.int 58]) (S := []) C r.px 110 (ct_X3_take _ _ _ _ h) dX3_readDefinition_107 rfl cl5 kd_79 wd_33 wd_971 rfl wd_969 wd_972 wd_94 yd_X3_take ⟨Nat.le_of_ble_eq_true rfl, Nat.le_of_ble_eq_true rfl⟩ (Nat.le_of_ble_eq_true rfl) (by decide) (fun r107 σ107 h => ?_)
            refine r_if_eq C 144 113 dX3_readDefinition_110 (by decide) rfl (fun c110 => ?_) (fun c110 => ?_)
            · have h := h.1 c110
              refine r_iconst C 145 (v := 0) dX3_readDefinition_144 rfl (by decide) ?_
              exact r_iret (S := []) C r dX3_readDefinition_145 (by decide) (by decide) h
            · have h := h.2 c110
              refine r_aload_n (j := 1) C 114 dX3_readDefinition_113 rfl rfl ?_
              refine r_iconst C 115 (v := 2) dX3_readDefinition_114 rfl (by decide) ?_
              refine r_iconst C 116 (v := 3) dX3_readDefinition_115 rfl (by decide) ?_
              refine r_cVI (as := [.int 2, .int 3]) (S := []) C r.px 119 (ct_X3_readNumber _ _ _ _ _ h) dX3_readDefinition_116 rfl cl5 kd_79 wd_34 wd_975 rfl wd_973 wd_976 wd_94 yd_X3_readNumber ⟨Nat.le_of_ble_eq_true rfl, Nat.le_of_ble_eq_true rfl⟩ (Nat.le_of_ble_eq_true rfl) (by decide) (fun r116 σ116 h => ?_)
              refine r_if_eq C 144 122 dX3_readDefinition_119 (by decide) rfl (fun c119 => ?_) (fun c119 => ?_)
              · have h := h.1 c119
                refine r_iconst C 145 (v := 0) dX3_readDefinition_144 rfl (by decide) ?_
                exact r_iret (S := []) C r dX3_readDefinition_145 (by decide) (by decide) h
              · have h := h.2 c119
                refine r_aload_n (j := 1) C 123 dX3_readDefinition_122 rfl rfl ?_
                refine r_bipush C 125 (v := 44) dX3_readDefinition_123 rfl (by decide) ?_
                refine r_cVI (as := [.int 44]) (S := []) C r.px 128 (ct_X3_take _ _ _ _ h) dX3_readDefinition_125 rfl cl5 kd_79 wd_33 wd_971 rfl wd_969 wd_972 wd_94 yd_X3_take ⟨Nat.le_of_ble_eq_true rfl, Nat.le_of_ble_eq_true rfl⟩ (Nat.le_of_ble_eq_true rfl) (by decide) (fun r125 σ125 h => ?_)
                refine r_if_eq C 144 131 dX3_readDefinition_128 (by decide) rfl (fun c128 => ?_) (fun c128 => ?_)
                · have h := h.1 c128
                  refine r_iconst C 145 (v := 0) dX3_readDefinition_144 rfl (by decide) ?_
                  exact r_iret (S := []) C r dX3_readDefinition_145 (by decide) (by decide) h
                · have h := h.2 c128
                  refine r_aload_n (j := 1) C 132 dX3_readDefinition_131 rfl rfl ?_
                  refine r_iconst C 133 (v := 3) dX3_readDefinition_132 rfl (by decide) ?_
                  refine r_iconst C 134 (v := 3) dX3_readDefinition_133 rfl (by decide) ?_
                  refine r_cVI (as := [.int 3, .int 3]) (S := []) C r.px 137 (ct_X3_readNumber _ _ _ _ _ h) dX3_readDefinition_134 rfl cl5 kd_79 wd_34 wd_975 rfl wd_973 wd_976 wd_94 yd_X3_readNumber ⟨Nat.le_of_ble_eq_true rfl, Nat.le_of_ble_eq_true rfl⟩ (Nat.le_of_ble_eq_true rfl) (by decide) (fun r134 σ134 h => ?_)
                  refine r_if_eq C 144 140 dX3_readDefinition_137 (by decide) rfl (fun c137 => ?_) (fun c137 => ?_)
                  · have h := h.1 c137
                    refine r_iconst C 145 (v := 0) dX3_readDefinition_144 rfl (by decide) ?_
                    exact r_iret (S := []) C r dX3_readDefinition_145 (by decide) (by decide) h
                  · have h := h.2 c137
                    refine r_iconst C 141 (v := 1) dX3_readDefinition_140 rfl (by decide) ?_
                    refine r_goto C 145 dX3_readDefinition_141 (by decide) ?_
                    exact r_iret (S := []) C r dX3_readDefinition_145 (by decide) (by decide) h
  by_cases c16_115 : r1 = 115
  · have h := h.2.2.1 c16_115
    refine r_lksw C 146 (off := 130) dX3_readDefinition_16 (by decide) (by rw [c16_115] <;> rfl) (by decide) ?_
    refine r_aload_n (j := 1) C 147 dX3_readDefinition_146 rfl rfl ?_
    refine r_bipush C 149 (v := 115) dX3_readDefinition_147 rfl (by decide) ?_
    refine r_cVI (as := [.int 115]) (S := []) C r.px 152 (ct_X3_take _ _ _ _ h) dX3_readDefinition_149 rfl cl5 kd_79 wd_33 wd_971 rfl wd_969 wd_972 wd_94 yd_X3_take ⟨Nat.le_of_ble_eq_true rfl, Nat.le_of_ble_eq_true rfl⟩ (Nat.le_of_ble_eq_true rfl) (by decide) (fun r149 σ149 h => ?_)
    refine r_if_eq C 222 155 dX3_readDefinition_152 (by decide) rfl (fun c152 => ?_) (fun c152 => ?_)
    · have h := h.1 c152
      refine r_iconst C 223 (v := 0) dX3_readDefinition_222 rfl (by decide) ?_
      exact r_iret (S := []) C r dX3_readDefinition_223 (by decide) (by decide) h
    · have h := h.2 c152
      refine r_aload_n (j := 1) C 156 dX3_readDefinition_155 rfl rfl ?_
      refine r_iconst C 157 (v := 0) dX3_readDefinition_156 rfl (by decide) ?_
      refine r_iconst C 158 (v := 1) dX3_readDefinition_157 rfl (by decide) ?_
      refine r_cVI (as := [.int 0, .int 1]) (S := []) C r.px 161 (ct_X3_readNumber _ _ _ _ _ h) dX3_readDefinition_158 rfl cl5 kd_79 wd_34 wd_975 rfl wd_973 wd_976 wd_94 yd_X3_readNumber ⟨Nat.le_of_ble_eq_true rfl, Nat.le_of_ble_eq_true rfl⟩ (Nat.le_of_ble_eq_true rfl) (by decide) (fun r158 σ158 h => ?_)
      refine r_if_eq C 222 164 dX3_readDefinition_161 (by decide) rfl (fun c161 => ?_) (fun c161 => ?_)
      · have h := h.1 c161
        refine r_iconst C 223 (v := 0) dX3_readDefinition_222 rfl (by decide) ?_
        exact r_iret (S := []) C r dX3_readDefinition_223 (by decide) (by decide) h
      · have h := h.2 c161
        refine r_aload_n (j := 1) C 165 dX3_readDefinition_164 rfl rfl ?_
        refine r_bipush C 167 (v := 58) dX3_readDefinition_165 rfl (by decide) ?_
        refine r_cVI (as := [.int 58]) (S := []) C r.px 170 (ct_X3_take _ _ _ _ h) dX3_readDefinition_167 rfl cl5 kd_79 wd_33 wd_971 rfl wd_969 wd_972 wd_94 yd_X3_take ⟨Nat.le_of_ble_eq_true rfl, Nat.le_of_ble_eq_true rfl⟩ (Nat.le_of_ble_eq_true rfl) (by decide) (fun r167 σ167 h => ?_)
        refine r_if_eq C 222 173 dX3_readDefinition_170 (by decide) rfl (fun c170 => ?_) (fun c170 => ?_)
        · have h := h.1 c170
          refine r_iconst C 223 (v := 0) dX3_readDefinition_222 rfl (by decide) ?_
          exact r_iret (S := []) C r dX3_readDefinition_223 (by decide) (by decide) h
        · have h := h.2 c170
          refine r_aload_n (j := 1) C 174 dX3_readDefinition_173 rfl rfl ?_
          refine r_iconst C 175 (v := 1) dX3_readDefinition_174 rfl (by decide) ?_
          refine r_iconst C 176 (v := 3) dX3_readDefinition_175 rfl (by decide) ?_
          refine r_cVI (as := [.int 1, .int 3]) (S := []) C r.px 179 (ct_X3_readNumber _ _ _ _ _ h) dX3_readDefinition_176 rfl cl5 kd_79 wd_34 wd_975 rfl wd_973 wd_976 wd_94 yd_X3_readNumber ⟨Nat.le_of_ble_eq_true rfl, Nat.le_of_ble_eq_true rfl⟩ (Nat.le_of_ble_eq_true rfl) (by decide) (fun r176 σ176 h => ?_)
          refine r_if_eq C 222 182 dX3_readDefinition_179 (by decide) rfl (fun c179 => ?_) (fun c179 => ?_)
          · have h := h.1 c179
            refine r_iconst C 223 (v := 0) dX3_readDefinition_222 rfl (by decide) ?_
            exact r_iret (S := []) C r dX3_readDefinition_223 (by decide) (by decide) h
          · have h := h.2 c179
            refine r_aload_n (j := 1) C 183 dX3_readDefinition_182 rfl rfl ?_
            refine r_bipush C 185 (v := 44) dX3_readDefinition_183 rfl (by decide) ?_
            refine r_cVI (as := [.int 44]) (S := []) C r.px 188 (ct_X3_take _ _ _ _ h) dX3_readDefinition_185 rfl cl5 kd_79 wd_33 wd_971 rfl wd_969 wd_972 wd_94 yd_X3_take ⟨Nat.le_of_ble_eq_true rfl, Nat.le_of_ble_eq_true rfl⟩ (Nat.le_of_ble_eq_true rfl) (by decide) (fun r185 σ185 h => ?_)
            refine r_if_eq C 222 191 dX3_readDefinition_188 (by decide) rfl (fun c188 => ?_) (fun c188 => ?_)
            · have h := h.1 c188
              refine r_iconst C 223 (v := 0) dX3_readDefinition_222 rfl (by decide) ?_
              exact r_iret (S := []) C r dX3_readDefinition_223 (by decide) (by decide) h
            · have h := h.2 c188
              refine r_aload_n (j := 1) C 192 dX3_readDefinition_191 rfl rfl ?_
              refine r_iconst C 193 (v := 2) dX3_readDefinition_192 rfl (by decide) ?_
              refine r_iconst C 194 (v := 3) dX3_readDefinition_193 rfl (by decide) ?_
              refine r_cVI (as := [.int 2, .int 3]) (S := []) C r.px 197 (ct_X3_readNumber _ _ _ _ _ h) dX3_readDefinition_194 rfl cl5 kd_79 wd_34 wd_975 rfl wd_973 wd_976 wd_94 yd_X3_readNumber ⟨Nat.le_of_ble_eq_true rfl, Nat.le_of_ble_eq_true rfl⟩ (Nat.le_of_ble_eq_true rfl) (by decide) (fun r194 σ194 h => ?_)
              refine r_if_eq C 222 200 dX3_readDefinition_197 (by decide) rfl (fun c197 => ?_) (fun c197 => ?_)
              · have h := h.1 c197
                refine r_iconst C 223 (v := 0) dX3_readDefinition_222 rfl (by decide) ?_
                exact r_iret (S := []) C r dX3_readDefinition_223 (by decide) (by decide) h
              · have h := h.2 c197
                refine r_aload_n (j := 1) C 201 dX3_readDefinition_200 rfl rfl ?_
                refine r_bipush C 203 (v := 44) dX3_readDefinition_201 rfl (by decide) ?_
                refine r_cVI (as := [.int 44]) (S := []) C r.px 206 (ct_X3_take _ _ _ _ h) dX3_readDefinition_203 rfl cl5 kd_79 wd_33 wd_971 rfl wd_969 wd_972 wd_94 yd_X3_take ⟨Nat.le_of_ble_eq_true rfl, Nat.le_of_ble_eq_true rfl⟩ (Nat.le_of_ble_eq_true rfl) (by decide) (fun r203 σ203 h => ?_)
                refine r_if_eq C 222 209 dX3_readDefinition_206 (by decide) rfl (fun c206 => ?_) (fun c206 => ?_)
                · have h := h.1 c206
                  refine r_iconst C 223 (v := 0) dX3_readDefinition_222 rfl (by decide) ?_
                  exact r_iret (S := []) C r dX3_readDefinition_223 (by decide) (by decide) h
                · have h := h.2 c206
                  refine r_aload_n (j := 1) C 210 dX3_readDefinition_209 rfl rfl ?_
                  refine r_iconst C 211 (v := 3) dX3_readDefinition_210 rfl (by decide) ?_
                  refine r_iconst C 212 (v := 3) dX3_readDefinition_211 rfl (by decide) ?_
                  refine r_cVI (as := [.int 3, .int 3]) (S := []) C r.px 215 (ct_X3_readNumber _ _ _ _ _ h) dX3_readDefinition_212 rfl cl5 kd_79 wd_34 wd_975 rfl wd_973 wd_976 wd_94 yd_X3_readNumber ⟨Nat.le_of_ble_eq_true rfl, Nat.le_of_ble_eq_true rfl⟩ (Nat.le_of_ble_eq_true rfl) (by decide) (fun r212 σ212 h => ?_)
                  refine r_if_eq C 222 218 dX3_readDefinition_215 (by decide) rfl (fun c215 => ?_) (fun c215 => ?_)
                  · have h := h.1 c215
                    refine r_iconst C 223 (v := 0) dX3_readDefinition_222 rfl (by decide) ?_
                    exact r_iret (S := []) C r dX3_readDefinition_223 (by decide) (by decide) h
                  · have h := h.2 c215
                    refine r_iconst C 219 (v := 1) dX3_readDefinition_218 rfl (by decide) ?_
                    refine r_goto C 223 dX3_readDefinition_219 (by decide) ?_
                    exact r_iret (S := []) C r dX3_readDefinition_223 (by decide) (by decide) h
  by_cases c16_116 : r1 = 116
  · have h := h.2.2.2.1 c16_116
    refine r_lksw C 248 (off := 232) dX3_readDefinition_16 (by decide) (by rw [c16_116] <;> rfl) (by decide) ?_
    refine r_aload_n (j := 1) C 249 dX3_readDefinition_248 rfl rfl ?_
    refine r_bipush C 251 (v := 116) dX3_readDefinition_249 rfl (by decide) ?_
    refine r_cVI (as := [.int 116]) (S := []) C r.px 254 (ct_X3_take _ _ _ _ h) dX3_readDefinition_251 rfl cl5 kd_79 wd_33 wd_971 rfl wd_969 wd_972 wd_94 yd_X3_take ⟨Nat.le_of_ble_eq_true rfl, Nat.le_of_ble_eq_true rfl⟩ (Nat.le_of_ble_eq_true rfl) (by decide) (fun r251 σ251 h => ?_)
    refine r_if_eq C 287 257 dX3_readDefinition_254 (by decide) rfl (fun c254 => ?_) (fun c254 => ?_)
    · have h := h.1 c254
      refine r_iconst C 288 (v := 0) dX3_readDefinition_287 rfl (by decide) ?_
      exact r_iret (S := []) C r dX3_readDefinition_288 (by decide) (by decide) h
    · have h := h.2 c254
      refine r_aload_n (j := 1) C 258 dX3_readDefinition_257 rfl rfl ?_
      refine r_iconst C 259 (v := 0) dX3_readDefinition_258 rfl (by decide) ?_
      refine r_iconst C 260 (v := 1) dX3_readDefinition_259 rfl (by decide) ?_
      refine r_cVI (as := [.int 0, .int 1]) (S := []) C r.px 263 (ct_X3_readNumber _ _ _ _ _ h) dX3_readDefinition_260 rfl cl5 kd_79 wd_34 wd_975 rfl wd_973 wd_976 wd_94 yd_X3_readNumber ⟨Nat.le_of_ble_eq_true rfl, Nat.le_of_ble_eq_true rfl⟩ (Nat.le_of_ble_eq_true rfl) (by decide) (fun r260 σ260 h => ?_)
      refine r_if_eq C 287 266 dX3_readDefinition_263 (by decide) rfl (fun c263 => ?_) (fun c263 => ?_)
      · have h := h.1 c263
        refine r_iconst C 288 (v := 0) dX3_readDefinition_287 rfl (by decide) ?_
        exact r_iret (S := []) C r dX3_readDefinition_288 (by decide) (by decide) h
      · have h := h.2 c263
        refine r_aload_n (j := 1) C 267 dX3_readDefinition_266 rfl rfl ?_
        refine r_bipush C 269 (v := 61) dX3_readDefinition_267 rfl (by decide) ?_
        refine r_cVI (as := [.int 61]) (S := []) C r.px 272 (ct_X3_take _ _ _ _ h) dX3_readDefinition_269 rfl cl5 kd_79 wd_33 wd_971 rfl wd_969 wd_972 wd_94 yd_X3_take ⟨Nat.le_of_ble_eq_true rfl, Nat.le_of_ble_eq_true rfl⟩ (Nat.le_of_ble_eq_true rfl) (by decide) (fun r269 σ269 h => ?_)
        refine r_if_eq C 287 275 dX3_readDefinition_272 (by decide) rfl (fun c272 => ?_) (fun c272 => ?_)
        · have h := h.1 c272
          refine r_iconst C 288 (v := 0) dX3_readDefinition_287 rfl (by decide) ?_
          exact r_iret (S := []) C r dX3_readDefinition_288 (by decide) (by decide) h
        · have h := h.2 c272
          refine r_aload_n (j := 1) C 276 dX3_readDefinition_275 rfl rfl ?_
          refine r_iconst C 277 (v := 1) dX3_readDefinition_276 rfl (by decide) ?_
          refine r_cVI (as := [.int 1]) (S := []) C r.px 280 (ct_X3_readSigned _ _ _ _ h) dX3_readDefinition_277 rfl cl5 kd_79 wd_35 wd_980 rfl wd_978 wd_981 wd_94 yd_X3_readSigned ⟨Nat.le_of_ble_eq_true rfl, Nat.le_of_ble_eq_true rfl⟩ (Nat.le_of_ble_eq_true rfl) (by decide) (fun r277 σ277 h => ?_)
          refine r_if_eq C 287 283 dX3_readDefinition_280 (by decide) rfl (fun c280 => ?_) (fun c280 => ?_)
          · have h := h.1 c280
            refine r_iconst C 288 (v := 0) dX3_readDefinition_287 rfl (by decide) ?_
            exact r_iret (S := []) C r dX3_readDefinition_288 (by decide) (by decide) h
          · have h := h.2 c280
            refine r_iconst C 284 (v := 1) dX3_readDefinition_283 rfl (by decide) ?_
            refine r_goto C 288 dX3_readDefinition_284 (by decide) ?_
            exact r_iret (S := []) C r dX3_readDefinition_288 (by decide) (by decide) h
  by_cases c16_120 : r1 = 120
  · have h := h.2.2.2.2.1 c16_120
    refine r_lksw C 224 (off := 208) dX3_readDefinition_16 (by decide) (by rw [c16_120] <;> rfl) (by decide) ?_
    refine r_aload_n (j := 1) C 225 dX3_readDefinition_224 rfl rfl ?_
    refine r_bipush C 227 (v := 120) dX3_readDefinition_225 rfl (by decide) ?_
    refine r_cVI (as := [.int 120]) (S := []) C r.px 230 (ct_X3_take _ _ _ _ h) dX3_readDefinition_227 rfl cl5 kd_79 wd_33 wd_971 rfl wd_969 wd_972 wd_94 yd_X3_take ⟨Nat.le_of_ble_eq_true rfl, Nat.le_of_ble_eq_true rfl⟩ (Nat.le_of_ble_eq_true rfl) (by decide) (fun r227 σ227 h => ?_)
    refine r_if_eq C 246 233 dX3_readDefinition_230 (by decide) rfl (fun c230 => ?_) (fun c230 => ?_)
    · have h := h.1 c230
      refine r_iconst C 247 (v := 0) dX3_readDefinition_246 rfl (by decide) ?_
      exact r_iret (S := []) C r dX3_readDefinition_247 (by decide) (by decide) h
    · have h := h.2 c230
      refine r_aload_n (j := 1) C 234 dX3_readDefinition_233 rfl rfl ?_
      refine r_iconst C 235 (v := 0) dX3_readDefinition_234 rfl (by decide) ?_
      refine r_iconst C 236 (v := 1) dX3_readDefinition_235 rfl (by decide) ?_
      refine r_cVI (as := [.int 0, .int 1]) (S := []) C r.px 239 (ct_X3_readNumber _ _ _ _ _ h) dX3_readDefinition_236 rfl cl5 kd_79 wd_34 wd_975 rfl wd_973 wd_976 wd_94 yd_X3_readNumber ⟨Nat.le_of_ble_eq_true rfl, Nat.le_of_ble_eq_true rfl⟩ (Nat.le_of_ble_eq_true rfl) (by decide) (fun r236 σ236 h => ?_)
      refine r_if_eq C 246 242 dX3_readDefinition_239 (by decide) rfl (fun c239 => ?_) (fun c239 => ?_)
      · have h := h.1 c239
        refine r_iconst C 247 (v := 0) dX3_readDefinition_246 rfl (by decide) ?_
        exact r_iret (S := []) C r dX3_readDefinition_247 (by decide) (by decide) h
      · have h := h.2 c239
        refine r_iconst C 243 (v := 1) dX3_readDefinition_242 rfl (by decide) ?_
        refine r_goto C 247 dX3_readDefinition_243 (by decide) ?_
        exact r_iret (S := []) C r dX3_readDefinition_247 (by decide) (by decide) h
  have h := h.2.2.2.2.2 c16_104 c16_112 c16_115 c16_116 c16_120
  refine r_lksw C 313 (off := 297) dX3_readDefinition_16 (by decide) (by show Op.lookupswitch.offset [(104, 273), (112, 52), (115, 130), (116, 232), (120, 208)] _ _ = _; rw [lv_osw c16_104 (a := 104) (by decide), lv_osw c16_112 (a := 112) (by decide), lv_osw c16_115 (a := 115) (by decide), lv_osw c16_116 (a := 116) (by decide), lv_osw c16_120 (a := 120) (by decide)] <;> rfl) (by decide) ?_
  refine r_iconst C 314 (v := 0) dX3_readDefinition_313 rfl (by decide) ?_
  exact r_iret (S := []) C r dX3_readDefinition_314 (by decide) (by decide) h
theorem ct_X3_readDefinition  (σ : Mem) (K : Int32 → Mem → Prop) (X : String → Mem → Prop) (h : sp_X3_readDefinition  σ K X) : CtI yX3_readDefinition cX3_readDefinition 2 (some .boolean) 4 0 [.ref 79] σ K X := by
  have h := h
  exact ctI_of (by decide +kernel) (Nat.le_of_ble_eq_true rfl) (fun x C r => sg_X3_readDefinition_0 C r   σ h)
