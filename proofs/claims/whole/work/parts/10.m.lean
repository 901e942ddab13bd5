/-! java/lang/Integer.bitCount(I)I: level 1, exceptions 0 -/
def sp_J6_bitCount_0f7a4 (p0 : Int32) (σ : Mem) (K : Int32 → Mem → Prop) (X : String → Mem → Prop) : Prop := (∀ v9 : Int32, v9 = (p0 - (((p0).toUInt32 >>> ((1 : Int32).toUInt32 &&& Int32.toUInt32 31)).toInt32 &&& 1431655765)) → ∀ v23 : Int32, v23 = ((v9 &&& 858993459) + (((v9).toUInt32 >>> ((2 : Int32).toUInt32 &&& Int32.toUInt32 31)).toInt32 &&& 858993459)) → ∀ v33 : Int32, v33 = ((v23 + ((v23).toUInt32 >>> ((4 : Int32).toUInt32 &&& Int32.toUInt32 31)).toInt32) &&& 252645135) → ∀ v40 : Int32, v40 = (v33 + ((v33).toUInt32 >>> ((8 : Int32).toUInt32 &&& Int32.toUInt32 31)).toInt32) → ∀ v47 : Int32, v47 = (v40 + ((v40).toUInt32 >>> ((16 : Int32).toUInt32 &&& Int32.toUInt32 31)).toInt32) → K (v47 &&& 63) σ)
set_option maxRecDepth 4000 in
theorem sg_J6_bitCount_0f7a4_0 {x : Ctx} {K : Int32 → Mem → Prop} {X : String → Mem → Prop} (C : Cx x RJ6 cJ6_bitCount_0f7a4 1) (r : RtI x 1 0 (some .int) K X) (p0 : Int32)  (σ : Mem) (h : ∀ v9 : Int32, v9 = (p0 - (((p0).toUInt32 >>> ((1 : Int32).toUInt32 &&& Int32.toUInt32 31)).toInt32 &&& 1431655765)) → ∀ v23 : Int32, v23 = ((v9 &&& 858993459) + (((v9).toUInt32 >>> ((2 : Int32).toUInt32 &&& Int32.toUInt32 31)).toInt32 &&& 858993459)) → ∀ v33 : Int32, v33 = ((v23 + ((v23).toUInt32 >>> ((4 : Int32).toUInt32 &&& Int32.toUInt32 31)).toInt32) &&& 252645135) → ∀ v40 : Int32, v40 = (v33 + ((v33).toUInt32 >>> ((8 : Int32).toUInt32 &&& Int32.toUInt32 31)).toInt32) → ∀ v47 : Int32, v47 = (v40 + ((v40).toUInt32 >>> ((16 : Int32).toUInt32 &&& Int32.toUInt32 31)).toInt32) → K (v47 &&& 63) σ) : Ws x 0 0 [(0, .int p0)] [] σ := by
  refine r_iload_n (j := 0) C 1 dJ6_bitCount_0f7a4_0 rfl rfl ?_
  refine r_iload_n (j := 0) C 2 dJ6_bitCount_0f7a4_1 rfl rfl ?_
  refine r_iconst C 3 (v := 1) dJ6_bitCount_0f7a4_2 rfl (by decide) ?_
  refine r_iushr C 4 dJ6_bitCount_0f7a4_3 rfl ?_
  refine r_ldcw C 7 (v := 1431655765) dJ6_bitCount_0f7a4_4 rfl wd_761 ?_
  refine r_iand C 8 dJ6_bitCount_0f7a4_7 rfl ?_
  refine r_isub C 9 dJ6_bitCount_0f7a4_8 rfl ?_
  refine r_nmI (fun v9 e9 => ?_)
  have h := h v9 e9
  refine r_istore_n C 10 [(0, .int v9)] dJ6_bitCount_0f7a4_9 rfl (by decide) rfl ?_
  refine r_iload_n (j := 0) C 11 dJ6_bitCount_0f7a4_10 rfl rfl ?_
  refine r_ldcw C 14 (v := 858993459) dJ6_bitCount_0f7a4_11 rfl wd_762 ?_
  refine r_iand C 15 dJ6_bitCount_0f7a4_14 rfl ?_
  refine r_iload_n (j := 0) C 16 dJ6_bitCount_0f7a4_15 rfl rfl ?_
  refine r_iconst C 17 (v := 2) dJ6_bitCount_0f7a4_16 rfl (by decide) ?_
  refine r_iushr C 18 dJ6_bitCount_0f7a4_17 rfl ?_
  refine r_ldcw C 21 (v := 858993459) dJ6_bitCount_0f7a4_18 rfl wd_762 ?_
  refine r_iand C 22 dJ6_bitCount_0f7a4_21 rfl ?_
  refine r_iadd C 23 dJ6_bitCount_0f7a4_22 rfl ?_
  refine r_nmI (fun v23 e23 => ?_)
  have h := h v23 e23
  refine r_istore_n C 24 [(0, .int v23)] dJ6_bitCount_0f7a4_23 rfl (by decide) rfl ?_
  refine r_iload_n (j := 0) C 25 dJ6_bitCount_0f7a4_24 rfl rfl ?_
  refine r_iload_n (j := 0) C 26 dJ6_bitCount_0f7a4_25 rfl rfl ?_
  refine r_iconst C 27 (v := 4) dJ6_bitCount_0f7a4_26 rfl (by decide) ?_
  refine r_iushr C 28 dJ6_bitCount_0f7a4_27 rfl ?_
  refine r_iadd C 29 dJ6_bitCount_0f7a4_28 rfl ?_
  refine r_ldcw C 32 (v := 252645135) dJ6_bitCount_0f7a4_29 rfl wd_763 ?_
  refine r_iand C 33 dJ6_bitCount_0f7a4_32 rfl ?_
  refine r_nmI (fun v33 e33 => ?_)
  have h := h v33 e33
  refine r_istore_n C 34 [(0, .int v33)] dJ6_bitCount_0f7a4_33 rfl (by decide) rfl ?_
  refine r_iload_n (j := 0) C 35 dJ6_bitCount_0f7a4_34 rfl rfl ?_
  refine r_iload_n (j := 0) C 36 dJ6_bitCount_0f7a4_35 rfl rfl ?_
  refine r_bipush C 38 (v := 8) dJ6_bitCount_0f7a4_36 rfl (by decide) ?_
  refine r_iushr C 39 dJ6_bitCount_0f7a4_38 rfl ?_
  refine r_iadd C 40 dJ6_bitCount_0f7a4_39 rfl ?_
  refine r_nmI (fun v40 e40 => ?_)
  have h := h v40 e40
  refine r_istore_n C 41 [(0, .int v40)] dJ6_bitCount_0f7a4_40 rfl (by decide) rfl ?_
  refine r_iload_n (j := 0) C 42 dJ6_bitCount_0f7a4_41 rfl rfl ?_
  refine r_iload_n (j := 0) C 43 dJ6_bitCount_0f7a4_42 rfl rfl ?_
  refine r_bipush C 45 (v := 16) dJ6_bitCount_0f7a4_43 rfl (by decide) ?_
  refine r_iushr C 46 dJ6_bitCount_0f7a4_45 rfl ?_
  refine r_iadd C 47 dJ6_bitCount_0f7a4_46 rfl ?_
  refine r_nmI (fun v47 e47 => ?_)
  have h := h v47 e47
  refine r_istore_n C 48 [(0, .int v47)] dJ6_bitCount_0f7a4_47 rfl (by decide) rfl ?_
  refine r_iload_n (j := 0) C 49 dJ6_bitCount_0f7a4_48 rfl rfl ?_
  refine r_bipush C 51 (v := 63) dJ6_bitCount_0f7a4_49 rfl (by decide) ?_
  refine r_iand C 52 dJ6_bitCount_0f7a4_51 rfl ?_
  exact r_iret (S := []) C r dJ6_bitCount_0f7a4_52 (by decide) rfl h
theorem ct_J6_bitCount_0f7a4 (p0 : Int32) (σ : Mem) (K : Int32 → Mem → Prop) (X : String → Mem → Prop) (h : sp_J6_bitCount_0f7a4 p0 σ K X) : CtI yJ6_bitCount_0f7a4 cJ6_bitCount_0f7a4 1 (some .int) 1 0 [.int p0] σ K X := by
  have h := h
  exact ctI_of (by decide +kernel) (Nat.le_of_ble_eq_true rfl) (fun x C r => sg_J6_bitCount_0f7a4_0 C r p0  σ h)
/-! java/util/Arrays.fill([II)V: level 1, exceptions 0 -/
def sp_J7_fill_53178 (q N : Nat) (p1 : Int32) (σ : Mem) (K : Mem → Prop) (X : String → Mem → Prop) : Prop := kd q = .inl (.int, N) ∧ N < 1000 ∧ K (fi σ q N p1)
set_option maxRecDepth 4000 in
theorem sg_J7_fill_53178_0 {x : Ctx} {K : Mem → Prop} {X : String → Mem → Prop} (C : Cx x RJ7 cJ7_fill_53178 4) (r : RtV x 1 0 none K X) (q N : Nat) (p1 : Int32) (hq : kd q = .inl (.int, N)) (σ : Mem) (h : ∀ v4 : Int32, v4 = (Int32.ofNat N) → Ws x 0 5 [(0, .ref q), (1, .int p1), (2, .int 0), (3, .int v4)] [] σ) : Ws x 0 0 [(0, .ref q), (1, .int p1)] [] σ := by
  refine r_iconst C 1 (v := 0) dJ7_fill_53178_0 rfl (by decide) ?_
  refine r_istore_n C 2 [(2, .int 0), (0, .ref q), (1, .int p1)] dJ7_fill_53178_1 rfl (by decide) rfl ?_
  refine r_aload_n (j := 1) C 3 dJ7_fill_53178_2 rfl rfl ?_
  refine r_alen (t0 := 0) C 4 dJ7_fill_53178_3 rfl hq (fun _ => rfl) rfl (v := (Int32.ofNat N)) ?_
  refine r_nmI (fun v4 e4 => ?_)
  have h := h v4 e4
  refine r_istore_n C 5 [(3, .int v4), (2, .int 0), (0, .ref q), (1, .int p1)] dJ7_fill_53178_4 rfl (by decide) rfl ?_
  exact Ws_pick [2, 3, 1, 0] rfl h
set_option maxRecDepth 4000 in
theorem sg_J7_fill_53178_5 {x : Ctx} {K : Mem → Prop} {X : String → Mem → Prop} (C : Cx x RJ7 cJ7_fill_53178 4) (r : RtV x 1 0 none K X) (q N : Nat) (i1 : Int32) (i2 : Int32) (i3 : Int32) (hq : kd q = .inl (.int, N)) (σ : Mem) (h : (i3 ≤ i2 → K σ) ∧ (¬ i3 ≤ i2 → (vp_in i2 N) ∧ (∀ σ13 : Mem, σ13 = wi σ q i2.toNatClampNeg i1 → ∀ v14 : Int32, v14 = i2 + 1 → Ws x 0 5 [(0, .ref q), (1, .int i1), (2, .int v14), (3, .int i3)] [] σ13))) : Ws x 0 5 [(0, .ref q), (1, .int i1), (2, .int i2), (3, .int i3)] [] σ := by
  refine r_iload_n (j := 2) C 6 dJ7_fill_53178_5 rfl rfl ?_
  refine r_iload_n (j := 3) C 7 dJ7_fill_53178_6 rfl rfl ?_
  refine r_icmp_ge C 20 10 dJ7_fill_53178_7 (by decide) rfl (fun c7 => ?_) (fun c7 => ?_)
  · have h := h.1 c7
    exact r_vret (S := []) C r dJ7_fill_53178_20 (by decide) h
  · have h := h.2 c7
    refine r_aload_n (j := 0) C 11 dJ7_fill_53178_10 rfl rfl ?_
    refine r_iload_n (j := 2) C 12 dJ7_fill_53178_11 rfl rfl ?_
    refine r_iload_n (j := 1) C 13 dJ7_fill_53178_12 rfl rfl ?_
    obtain ⟨o13, h⟩ := h
    refine r_iast C 14 dJ7_fill_53178_13 rfl hq o13 ?_
    refine r_nmS (fun σ13 e13 => ?_)
    have h := h σ13 e13
    obtain ⟨v14, e14⟩ : ∃ y : Int32, y = i2 + 1 := ⟨_, rfl⟩
    have h := h v14 e14
    refine r_iinc (j := 2) C 17 [(2, .int v14), (0, .ref q), (1, .int i1), (3, .int i3)] dJ7_fill_53178_14 rfl rfl (by rw [e14]; rfl) (by decide) rfl ?_
    refine r_goto C 5 dJ7_fill_53178_17 (by decide) ?_
    exact Ws_pick [1, 2, 0, 3] rfl h
theorem vc_J7_fill_53178 {x : Ctx} {K : Mem → Prop} {X : String → Mem → Prop} (C : Cx x RJ7 cJ7_fill_53178 4) (r : RtV x 1 0 none K X) (q N : Nat) (p1 : Int32) (σ : Mem) (h : sp_J7_fill_53178 q N p1 σ K X) : Ws x 0 0 [(0, .ref q), (1, .int p1)] [] σ := by
  obtain ⟨hq, hN, h⟩ := h
  refine sg_J7_fill_53178_0 C r q N p1 hq σ (fun v4 e4 => ?_)
  have e4 : v4 = nI N := e4
  subst e4
  have H : ∀ (k : Nat) (_ : Unit), k ≤ N → True → Ws x 0 5 [(0, .ref q), (1, .int p1), (2, .int (nI k)), (3, .int (nI N))] [] (fi σ q k p1) := by
    refine cnt N (fun _ _ => True) (fun k _ => Ws x 0 5 [(0, .ref q), (1, .int p1), (2, .int (nI k)), (3, .int (nI N))] [] (fi σ q k p1)) ?_ ?_
    · intro _ _
      exact sg_J7_fill_53178_5 C r q N p1 (nI N) (nI N) hq _ ⟨fun _ => h, fun c => absurd (nI_le (Nat.le_refl N) (by omega)) c⟩
    · intro k _ hk _ ih
      refine sg_J7_fill_53178_5 C r q N p1 (nI k) (nI N) hq _ ⟨fun c => absurd (n_le (by omega) (by omega) c) (by omega), fun _ => ⟨n_inR hk (by omega), fun σ' e1 v e2 => ?_⟩⟩
      rw [n_cl (by omega)] at e1
      rw [e1, e2, nI_1, fi_step]
      exact ih () trivial
  have := H 0 () (Nat.zero_le N) trivial
  rw [fi_0] at this
  exact this
theorem ct_J7_fill_53178 (q : Nat) (N : Nat) (p1 : Int32) (σ : Mem) (K : Mem → Prop) (X : String → Mem → Prop) (h : sp_J7_fill_53178 q N p1 σ K X) : CtV yJ7_fill_53178 cJ7_fill_53178 4 none 1 0 [.ref q, .int p1] σ K X :=
  ctV_of (by decide +kernel) (Nat.le_of_ble_eq_true rfl) (fun x C r => vc_J7_fill_53178 C r q N p1 σ h)
/-! java/util/Arrays.fill([JJ)V: level 1, exceptions 0 -/
def sp_J7_fill_d0a16 (q N : Nat) (p1 : Int64) (σ : Mem) (K : Mem → Prop) (X : String → Mem → Prop) : Prop := kd q = .inl (.long, N) ∧ N < 1000 ∧ K (fl σ q N p1)
set_option maxRecDepth 4000 in
theorem sg_J7_fill_d0a16_0 {x : Ctx} {K : Mem → Prop} {X : String → Mem → Prop} (C : Cx x RJ7 cJ7_fill_d0a16 5) (r : RtV x 1 0 none K X) (q N : Nat) (p1 : Int64) (hq : kd q = .inl (.long, N)) (σ : Mem) (h : ∀ v4 : Int32, v4 = (Int32.ofNat N) → Ws x 0 6 [(0, .ref q), (1, .long p1), (3, .int 0), (4, .int v4)] [] σ) : Ws x 0 0 [(0, .ref q), (1, .long p1)] [] σ := by
  refine r_iconst C 1 (v := 0) dJ7_fill_d0a16_0 rfl (by decide) ?_
  refine r_istore_n C 2 [(3, .int 0), (0, .ref q), (1, .long p1)] dJ7_fill_d0a16_1 rfl (by decide) rfl ?_
  refine r_aload_n (j := 1) C 3 dJ7_fill_d0a16_2 rfl rfl ?_
  refine r_alen (t0 := 1) C 4 dJ7_fill_d0a16_3 rfl hq (fun _ => rfl) rfl (v := (Int32.ofNat N)) ?_
  refine r_nmI (fun v4 e4 => ?_)
  have h := h v4 e4
  refine r_istore C 6 [(4, .int v4), (3, .int 0), (0, .ref q), (1, .long p1)] dJ7_fill_d0a16_4 rfl (by decide) rfl ?_
  exact Ws_pick [2, 3, 1, 0] rfl h
set_option maxRecDepth 4000 in
theorem sg_J7_fill_d0a16_6 {x : Ctx} {K : Mem → Prop} {X : String → Mem → Prop} (C : Cx x RJ7 cJ7_fill_d0a16 5) (r : RtV x 1 0 none K X) (q N : Nat) (l1 : Int64) (i3 : Int32) (i4 : Int32) (hq : kd q = .inl (.long, N)) (σ : Mem) (h : (i4 ≤ i3 → K σ) ∧ (¬ i4 ≤ i3 → (vp_in i3 N) ∧ (∀ σ15 : Mem, σ15 = wl σ q i3.toNatClampNeg l1 → ∀ v16 : Int32, v16 = i3 + 1 → Ws x 0 6 [(0, .ref q), (1, .long l1), (3, .int v16), (4, .int i4)] [] σ15))) : Ws x 0 6 [(0, .ref q), (1, .long l1), (3, .int i3), (4, .int i4)] [] σ := by
  refine r_iload_n (j := 2) C 7 dJ7_fill_d0a16_6 rfl rfl ?_
  refine r_iload (j := 3) C 9 dJ7_fill_d0a16_7 rfl rfl ?_
  refine r_icmp_ge C 22 12 dJ7_fill_d0a16_9 (by decide) rfl (fun c9 => ?_) (fun c9 => ?_)
  · have h := h.1 c9
    exact r_vret (S := []) C r dJ7_fill_d0a16_22 (by decide) h
  · have h := h.2 c9
    refine r_aload_n (j := 0) C 13 dJ7_fill_d0a16_12 rfl rfl ?_
    refine r_iload_n (j := 2) C 14 dJ7_fill_d0a16_13 rfl rfl ?_
    refine r_lload_n (j := 1) C 15 dJ7_fill_d0a16_14 rfl rfl ?_
    obtain ⟨o15, h⟩ := h
    refine r_last C 16 dJ7_fill_d0a16_15 rfl hq o15 ?_
    refine r_nmS (fun σ15 e15 => ?_)
    have h := h σ15 e15
    obtain ⟨v16, e16⟩ : ∃ y : Int32, y = i3 + 1 := ⟨_, rfl⟩
    have h := h v16 e16
    refine r_iinc (j := 2) C 19 [(3, .int v16), (0, .ref q), (1, .long l1), (4, .int i4)] dJ7_fill_d0a16_16 rfl rfl (by rw [e16]; rfl) (by decide) rfl ?_
    refine r_goto C 6 dJ7_fill_d0a16_19 (by decide) ?_
    exact Ws_pick [1, 2, 0, 3] rfl h
theorem vc_J7_fill_d0a16 {x : Ctx} {K : Mem → Prop} {X : String → Mem → Prop} (C : Cx x RJ7 cJ7_fill_d0a16 5) (r : RtV x 1 0 none K X) (q N : Nat) (p1 : Int64) (σ : Mem) (h : sp_J7_fill_d0a16 q N p1 σ K X) : Ws x 0 0 [(0, .ref q), (1, .long p1)] [] σ := by
  obtain ⟨hq, hN, h⟩ := h
  refine sg_J7_fill_d0a16_0 C r q N p1 hq σ (fun v4 e4 => ?_)
  have e4 : v4 = nI N := e4
  subst e4
  have H : ∀ (k : Nat) (_ : Unit), k ≤ N → True → Ws x 0 6 [(0, .ref q), (1, .long p1), (3, .int (nI k)), (4, .int (nI N))] [] (fl σ q k p1) := by
    refine cnt N (fun _ _ => True) (fun k _ => Ws x 0 6 [(0, .ref q), (1, .long p1), (3, .int (nI k)), (4, .int (nI N))] [] (fl σ q k p1)) ?_ ?_
    · intro _ _
      exact sg_J7_fill_d0a16_6 C r q N p1 (nI N) (nI N) hq _ ⟨fun _ => h, fun c => absurd (nI_le (Nat.le_refl N) (by omega)) c⟩
    · intro k _ hk _ ih
      refine sg_J7_fill_d0a16_6 C r q N p1 (nI k) (nI N) hq _ ⟨fun c => absurd (n_le (by omega) (by omega) c) (by omega), fun _ => ⟨n_inR hk (by omega), fun σ' e1 v e2 => ?_⟩⟩
      rw [n_cl (by omega)] at e1
      rw [e1, e2, nI_1, fl_step]
      exact ih () trivial
  have := H 0 () (Nat.zero_le N) trivial
  rw [fl_0] at this
  exact this
theorem ct_J7_fill_d0a16 (q : Nat) (N : Nat) (p1 : Int64) (σ : Mem) (K : Mem → Prop) (X : String → Mem → Prop) (h : sp_J7_fill_d0a16 q N p1 σ K X) : CtV yJ7_fill_d0a16 cJ7_fill_d0a16 5 none 1 0 [.ref q, .long p1] σ K X :=
  ctV_of (by decide +kernel) (Nat.le_of_ble_eq_true rfl) (fun x C r => vc_J7_fill_d0a16 C r q N p1 σ h)
/-! java/lang/Math.abs(J)J: level 1, exceptions 0 -/
def sp_J9_abs_067f4 (p0 : Int64) (σ : Mem) (K : Int64 → Mem → Prop) (X : String → Mem → Prop) : Prop := ((0 ≤ p0 → K p0 σ) ∧ (¬ 0 ≤ p0 → K (-p0) σ))
set_option maxRecDepth 4000 in
theorem sg_J9_abs_067f4_0 {x : Ctx} {K : Int64 → Mem → Prop} {X : String → Mem → Prop} (C : Cx x RJ9 cJ9_abs_067f4 2) (r : RtL x 1 0 (some .long) K X) (p0 : Int64)  (σ : Mem) (h : (0 ≤ p0 → K p0 σ) ∧ (¬ 0 ≤ p0 → K (-p0) σ)) : Ws x 0 0 [(0, .long p0)] [] σ := by
  refine r_lload_n (j := 0) C 1 dJ9_abs_067f4_0 rfl rfl ?_
  refine r_lconst C 2 (v := 0) dJ9_abs_067f4_1 rfl rfl ?_
  refine r_lcmp_ge C 3 11 6 dJ9_abs_067f4_2 rfl dJ9_abs_067f4_3 (by decide) rfl (fun c2 => ?_) (fun c2 => ?_)
  · have h := h.1 c2
    refine r_lload_n (j := 0) C 12 dJ9_abs_067f4_11 rfl rfl ?_
    exact r_lret (S := []) C r dJ9_abs_067f4_12 (by decide) h
  · have h := h.2 c2
    refine r_lload_n (j := 0) C 7 dJ9_abs_067f4_6 rfl rfl ?_
    refine r_lneg C 8 dJ9_abs_067f4_7 rfl ?_
    refine r_goto C 12 dJ9_abs_067f4_8 (by decide) ?_
    exact r_lret (S := []) C r dJ9_abs_067f4_12 (by decide) h
theorem ct_J9_abs_067f4 (p0 : Int64) (σ : Mem) (K : Int64 → Mem → Prop) (X : String → Mem → Prop) (h : sp_J9_abs_067f4 p0 σ K X) : CtL yJ9_abs_067f4 cJ9_abs_067f4 2 (some .long) 1 0 [.long p0] σ K X := by
  have h := h
  exact ctL_of (by decide +kernel) (Nat.le_of_ble_eq_true rfl) (fun x C r => sg_J9_abs_067f4_0 C r p0  σ h)
/-! java/lang/Math.abs(I)I: level 1, exceptions 0 -/
def sp_J9_abs_0f7a4 (p0 : Int32) (σ : Mem) (K : Int32 → Mem → Prop) (X : String → Mem → Prop) : Prop := ((0 ≤ p0 → K p0 σ) ∧ (¬ 0 ≤ p0 → K (-p0) σ))
set_option maxRecDepth 4000 in
theorem sg_J9_abs_0f7a4_0 {x : Ctx} {K : Int32 → Mem → Prop} {X : String → Mem → Prop} (C : Cx x RJ9 cJ9_abs_0f7a4 1) (r : RtI x 1 0 (some .int) K X) (p0 : Int32)  (σ : Mem) (h : (0 ≤ p0 → K p0 σ) ∧ (¬ 0 ≤ p0 → K (-p0) σ)) : Ws x 0 0 [(0, .int p0)] [] σ := by
  refine r_iload_n (j := 0) C 1 dJ9_abs_0f7a4_0 rfl rfl ?_
  refine r_if_ge C 9 4 dJ9_abs_0f7a4_1 (by decide) rfl (fun c1 => ?_) (fun c1 => ?_)
  · have h := h.1 c1
    refine r_iload_n (j := 0) C 10 dJ9_abs_0f7a4_9 rfl rfl ?_
    exact r_iret (S := []) C r dJ9_abs_0f7a4_10 (by decide) rfl h
  · have h := h.2 c1
    refine r_iload_n (j := 0) C 5 dJ9_abs_0f7a4_4 rfl rfl ?_
    refine r_ineg C 6 dJ9_abs_0f7a4_5 rfl ?_
    refine r_goto C 10 dJ9_abs_0f7a4_6 (by decide) ?_
    exact r_iret (S := []) C r dJ9_abs_0f7a4_10 (by decide) rfl h
theorem ct_J9_abs_0f7a4 (p0 : Int32) (σ : Mem) (K : Int32 → Mem → Prop) (X : String → Mem → Prop) (h : sp_J9_abs_0f7a4 p0 σ K X) : CtI yJ9_abs_0f7a4 cJ9_abs_0f7a4 1 (some .int) 1 0 [.int p0] σ K X := by
  have h := h
  exact ctI_of (by decide +kernel) (Nat.le_of_ble_eq_true rfl) (fun x C r => sg_J9_abs_0f7a4_0 C r p0  σ h)
/-! java/lang/Math.floorDiv(II)I: level 1, exceptions 0 -/
def sp_J9_floorDiv_7cf53 (p0 : Int32) (p1 : Int32) (σ : Mem) (K : Int32 → Mem → Prop) (X : String → Mem → Prop) : Prop := ((¬ p1 = (0 : Int32)) ∧ (∀ v3 : Int32, v3 = (p0 / p1) → (0 ≤ (p0 ^^^ p1) → K v3 σ) ∧ (¬ 0 ≤ (p0 ^^^ p1) → ((v3 * p1) = p0 → K v3 σ) ∧ (¬ (v3 * p1) = p0 → K (v3 - 1) σ))))
set_option maxRecDepth 4000 in
theorem sg_J9_floorDiv_7cf53_0 {x : Ctx} {K : Int32 → Mem → Prop} {X : String → Mem → Prop} (C : Cx x RJ9 cJ9_floorDiv_7cf53 3) (r : RtI x 1 0 (some .int) K X) (p0 : Int32) (p1 : Int32)  (σ : Mem) (h : (¬ p1 = (0 : Int32)) ∧ (∀ v3 : Int32, v3 = (p0 / p1) → (0 ≤ (p0 ^^^ p1) → K v3 σ) ∧ (¬ 0 ≤ (p0 ^^^ p1) → ((v3 * p1) = p0 → K v3 σ) ∧ (¬ (v3 * p1) = p0 → K (v3 - 1) σ)))) : Ws x 0 0 [(0, .int p0), (1, .int p1)] [] σ := by
  refine r_iload_n (j := 0) C 1 dJ9_floorDiv_7cf53_0 rfl rfl ?_
  refine r_iload_n (j := 1) C 2 dJ9_floorDiv_7cf53_1 rfl rfl ?_
  obtain ⟨o2, h⟩ := h
  refine r_idiv C 3 dJ9_floorDiv_7cf53_2 rfl o2 ?_
  refine r_nmI (fun v3 e3 => ?_)
  have h := h v3 e3
  refine r_istore_n C 4 [(2, .int v3), (0, .int p0), (1, .int p1)] dJ9_floorDiv_7cf53_3 rfl (by decide) rfl ?_
  refine r_iload_n (j := 1) C 5 dJ9_floorDiv_7cf53_4 rfl rfl ?_
  refine r_iload_n (j := 2) C 6 dJ9_floorDiv_7cf53_5 rfl rfl ?_
  refine r_ixor C 7 dJ9_floorDiv_7cf53_6 rfl ?_
  refine r_if_ge C 21 10 dJ9_floorDiv_7cf53_7 (by decide) rfl (fun c7 => ?_) (fun c7 => ?_)
  · have h := h.1 c7
    refine r_iload_n (j := 0) C 22 dJ9_floorDiv_7cf53_21 rfl rfl ?_
    exact r_iret (S := []) C r dJ9_floorDiv_7cf53_22 (by decide) rfl h
  · have h := h.2 c7
    refine r_iload_n (j := 0) C 11 dJ9_floorDiv_7cf53_10 rfl rfl ?_
    refine r_iload_n (j := 2) C 12 dJ9_floorDiv_7cf53_11 rfl rfl ?_
    refine r_imul C 13 dJ9_floorDiv_7cf53_12 rfl ?_
    refine r_iload_n (j := 1) C 14 dJ9_floorDiv_7cf53_13 rfl rfl ?_
    refine r_icmp_eq C 21 17 dJ9_floorDiv_7cf53_14 (by decide) rfl (fun c14 => ?_) (fun c14 => ?_)
    · have h := h.1 c14
      refine r_iload_n (j := 0) C 22 dJ9_floorDiv_7cf53_21 rfl rfl ?_
      exact r_iret (S := []) C r dJ9_floorDiv_7cf53_22 (by decide) rfl h
    · have h := h.2 c14
      refine r_iload_n (j := 0) C 18 dJ9_floorDiv_7cf53_17 rfl rfl ?_
      refine r_iconst C 19 (v := 1) dJ9_floorDiv_7cf53_18 rfl (by decide) ?_
      refine r_isub C 20 dJ9_floorDiv_7cf53_19 rfl ?_
      exact r_iret (S := []) C r dJ9_floorDiv_7cf53_20 (by decide) rfl h
theorem ct_J9_floorDiv_7cf53 (p0 : Int32) (p1 : Int32) (σ : Mem) (K : Int32 → Mem → Prop) (X : String → Mem → Prop) (h : sp_J9_floorDiv_7cf53 p0 p1 σ K X) : CtI yJ9_floorDiv_7cf53 cJ9_floorDiv_7cf53 3 (some .int) 1 0 [.int p0, .int p1] σ K X := by
  have h := h
  exact ctI_of (by decide +kernel) (Nat.le_of_ble_eq_true rfl) (fun x C r => sg_J9_floorDiv_7cf53_0 C r p0 p1  σ h)
/-! java/lang/Math.floorDiv(JJ)J: level 1, exceptions 0 -/
def sp_J9_floorDiv_f86c9 (p0 : Int64) (p1 : Int64) (σ : Mem) (K : Int64 → Mem → Prop) (X : String → Mem → Prop) : Prop := ((¬ p1 = (0 : Int64)) ∧ (∀ v3 : Int64, v3 = (p0 / p1) → (0 ≤ (p0 ^^^ p1) → K v3 σ) ∧ (¬ 0 ≤ (p0 ^^^ p1) → ((v3 * p1) = p0 → K v3 σ) ∧ (¬ (v3 * p1) = p0 → K (v3 - 1) σ))))
set_option maxRecDepth 4000 in
theorem sg_J9_floorDiv_f86c9_0 {x : Ctx} {K : Int64 → Mem → Prop} {X : String → Mem → Prop} (C : Cx x RJ9 cJ9_floorDiv_f86c9 6) (r : RtL x 1 0 (some .long) K X) (p0 : Int64) (p1 : Int64)  (σ : Mem) (h : (¬ p1 = (0 : Int64)) ∧ (∀ v3 : Int64, v3 = (p0 / p1) → (0 ≤ (p0 ^^^ p1) → K v3 σ) ∧ (¬ 0 ≤ (p0 ^^^ p1) → ((v3 * p1) = p0 → K v3 σ) ∧ (¬ (v3 * p1) = p0 → K (v3 - 1) σ)))) : Ws x 0 0 [(0, .long p0), (2, .long p1)] [] σ := by
  refine r_lload_n (j := 0) C 1 dJ9_floorDiv_f86c9_0 rfl rfl ?_
  refine r_lload_n (j := 1) C 2 dJ9_floorDiv_f86c9_1 rfl rfl ?_
  obtain ⟨o2, h⟩ := h
  refine r_ldiv C 3 dJ9_floorDiv_f86c9_2 rfl o2 ?_
  refine r_nmL (fun v3 e3 => ?_)
  have h := h v3 e3
  refine r_lstore C 5 [(4, .long v3), (0, .long p0), (2, .long p1)] dJ9_floorDiv_f86c9_3 rfl (by decide) rfl ?_
  refine r_lload_n (j := 1) C 6 dJ9_floorDiv_f86c9_5 rfl rfl ?_
  refine r_lload_n (j := 2) C 7 dJ9_floorDiv_f86c9_6 rfl rfl ?_
  refine r_lxor C 8 dJ9_floorDiv_f86c9_7 rfl ?_
  refine r_lconst C 9 (v := 0) dJ9_floorDiv_f86c9_8 rfl rfl ?_
  refine r_lcmp_ge C 10 27 13 dJ9_floorDiv_f86c9_9 rfl dJ9_floorDiv_f86c9_10 (by decide) rfl (fun c9 => ?_) (fun c9 => ?_)
  · have h := h.1 c9
    refine r_lload (j := 0) C 29 dJ9_floorDiv_f86c9_27 rfl rfl ?_
    exact r_lret (S := []) C r dJ9_floorDiv_f86c9_29 (by decide) h
  · have h := h.2 c9
    refine r_lload (j := 0) C 15 dJ9_floorDiv_f86c9_13 rfl rfl ?_
    refine r_lload_n (j := 2) C 16 dJ9_floorDiv_f86c9_15 rfl rfl ?_
    refine r_lmul C 17 dJ9_floorDiv_f86c9_16 rfl ?_
    refine r_lload_n (j := 1) C 18 dJ9_floorDiv_f86c9_17 rfl rfl ?_
    refine r_lcmp_eq C 19 27 22 dJ9_floorDiv_f86c9_18 rfl dJ9_floorDiv_f86c9_19 (by decide) rfl (fun c18 => ?_) (fun c18 => ?_)
    · have h := h.1 c18
      refine r_lload (j := 0) C 29 dJ9_floorDiv_f86c9_27 rfl rfl ?_
      exact r_lret (S := []) C r dJ9_floorDiv_f86c9_29 (by decide) h
    · have h := h.2 c18
      refine r_lload (j := 0) C 24 dJ9_floorDiv_f86c9_22 rfl rfl ?_
      refine r_lconst C 25 (v := 1) dJ9_floorDiv_f86c9_24 rfl rfl ?_
      refine r_lsub C 26 dJ9_floorDiv_f86c9_25 rfl ?_
      exact r_lret (S := []) C r dJ9_floorDiv_f86c9_26 (by decide) h
theorem ct_J9_floorDiv_f86c9 (p0 : Int64) (p1 : Int64) (σ : Mem) (K : Int64 → Mem → Prop) (X : String → Mem → Prop) (h : sp_J9_floorDiv_f86c9 p0 p1 σ K X) : CtL yJ9_floorDiv_f86c9 cJ9_floorDiv_f86c9 6 (some .long) 1 0 [.long p0, .long p1] σ K X := by
  have h := h
  exact ctL_of (by decide +kernel) (Nat.le_of_ble_eq_true rfl) (fun x C r => sg_J9_floorDiv_f86c9_0 C r p0 p1  σ h)
/-! java/lang/Math.floorMod(JJ)J: level 1, exceptions 0 -/
def sp_J9_floorMod_f86c9 (p0 : Int64) (p1 : Int64) (σ : Mem) (K : Int64 → Mem → Prop) (X : String → Mem → Prop) : Prop := ((¬ p1 = (0 : Int64)) ∧ (∀ v3 : Int64, v3 = (p0 - p0 / p1 * p1) → (0 ≤ (p0 ^^^ p1) → K v3 σ) ∧ (¬ 0 ≤ (p0 ^^^ p1) → (v3 = 0 → K v3 σ) ∧ (¬ v3 = 0 → K (v3 + p1) σ))))
set_option maxRecDepth 4000 in
theorem sg_J9_floorMod_f86c9_0 {x : Ctx} {K : Int64 → Mem → Prop} {X : String → Mem → Prop} (C : Cx x RJ9 cJ9_floorMod_f86c9 6) (r : RtL x 1 0 (some .long) K X) (p0 : Int64) (p1 : Int64)  (σ : Mem) (h : (¬ p1 = (0 : Int64)) ∧ (∀ v3 : Int64, v3 = (p0 - p0 / p1 * p1) → (0 ≤ (p0 ^^^ p1) → K v3 σ) ∧ (¬ 0 ≤ (p0 ^^^ p1) → (v3 = 0 → K v3 σ) ∧ (¬ v3 = 0 → K (v3 + p1) σ)))) : Ws x 0 0 [(0, .long p0), (2, .long p1)] [] σ := by
  refine r_lload_n (j := 0) C 1 dJ9_floorMod_f86c9_0 rfl rfl ?_
  refine r_lload_n (j := 1) C 2 dJ9_floorMod_f86c9_1 rfl rfl ?_
  obtain ⟨o2, h⟩ := h
  refine r_lrem C 3 dJ9_floorMod_f86c9_2 rfl o2 ?_
  refine r_nmL (fun v3 e3 => ?_)
  have h := h v3 e3
  refine r_lstore C 5 [(4, .long v3), (0, .long p0), (2, .long p1)] dJ9_floorMod_f86c9_3 rfl (by decide) rfl ?_
  refine r_lload_n (j := 1) C 6 dJ9_floorMod_f86c9_5 rfl rfl ?_
  refine r_lload_n (j := 2) C 7 dJ9_floorMod_f86c9_6 rfl rfl ?_
  refine r_lxor C 8 dJ9_floorMod_f86c9_7 rfl ?_
  refine r_lconst C 9 (v := 0) dJ9_floorMod_f86c9_8 rfl rfl ?_
  refine r_lcmp_ge C 10 25 13 dJ9_floorMod_f86c9_9 rfl dJ9_floorMod_f86c9_10 (by decide) rfl (fun c9 => ?_) (fun c9 => ?_)
  · have h := h.1 c9
    refine r_lload (j := 0) C 27 dJ9_floorMod_f86c9_25 rfl rfl ?_
    exact r_lret (S := []) C r dJ9_floorMod_f86c9_27 (by decide) h
  · have h := h.2 c9
    refine r_lload (j := 0) C 15 dJ9_floorMod_f86c9_13 rfl rfl ?_
    refine r_lconst C 16 (v := 0) dJ9_floorMod_f86c9_15 rfl rfl ?_
    refine r_lcmp_eq C 17 25 20 dJ9_floorMod_f86c9_16 rfl dJ9_floorMod_f86c9_17 (by decide) rfl (fun c16 => ?_) (fun c16 => ?_)
    · have h := h.1 c16
      refine r_lload (j := 0) C 27 dJ9_floorMod_f86c9_25 rfl rfl ?_
      exact r_lret (S := []) C r dJ9_floorMod_f86c9_27 (by decide) h
    · have h := h.2 c16
      refine r_lload (j := 0) C 22 dJ9_floorMod_f86c9_20 rfl rfl ?_
      refine r_lload_n (j := 2) C 23 dJ9_floorMod_f86c9_22 rfl rfl ?_
      refine r_ladd C 24 dJ9_floorMod_f86c9_23 rfl ?_
      exact r_lret (S := []) C r dJ9_floorMod_f86c9_24 (by decide) h
theorem ct_J9_floorMod_f86c9 (p0 : Int64) (p1 : Int64) (σ : Mem) (K : Int64 → Mem → Prop) (X : String → Mem → Prop) (h : sp_J9_floorMod_f86c9 p0 p1 σ K X) : CtL yJ9_floorMod_f86c9 cJ9_floorMod_f86c9 6 (some .long) 1 0 [.long p0, .long p1] σ K X := by
  have h := h
  exact ctL_of (by decide +kernel) (Nat.le_of_ble_eq_true rfl) (fun x C r => sg_J9_floorMod_f86c9_0 C r p0 p1  σ h)
/-! java/lang/Math.max(II)I: level 1, exceptions 0 -/
def sp_J9_max_7cf53 (p0 : Int32) (p1 : Int32) (σ : Mem) (K : Int32 → Mem → Prop) (X : String → Mem → Prop) : Prop := ((p0 < p1 → K p1 σ) ∧ (¬ p0 < p1 → K p0 σ))
set_option maxRecDepth 4000 in
theorem sg_J9_max_7cf53_0 {x : Ctx} {K : Int32 → Mem → Prop} {X : String → Mem → Prop} (C : Cx x RJ9 cJ9_max_7cf53 2) (r : RtI x 1 0 (some .int) K X) (p0 : Int32) (p1 : Int32)  (σ : Mem) (h : (p0 < p1 → K p1 σ) ∧ (¬ p0 < p1 → K p0 σ)) : Ws x 0 0 [(0, .int p0), (1, .int p1)] [] σ := by
  refine r_iload_n (j := 0) C 1 dJ9_max_7cf53_0 rfl rfl ?_
  refine r_iload_n (j := 1) C 2 dJ9_max_7cf53_1 rfl rfl ?_
  refine r_icmp_lt C 9 5 dJ9_max_7cf53_2 (by decide) rfl (fun c2 => ?_) (fun c2 => ?_)
  · have h := h.1 c2
    refine r_iload_n (j := 1) C 10 dJ9_max_7cf53_9 rfl rfl ?_
    exact r_iret (S := []) C r dJ9_max_7cf53_10 (by decide) rfl h
  · have h := h.2 c2
    refine r_iload_n (j := 0) C 6 dJ9_max_7cf53_5 rfl rfl ?_
    refine r_goto C 10 dJ9_max_7cf53_6 (by decide) ?_
    exact r_iret (S := []) C r dJ9_max_7cf53_10 (by decide) rfl h
theorem ct_J9_max_7cf53 (p0 : Int32) (p1 : Int32) (σ : Mem) (K : Int32 → Mem → Prop) (X : String → Mem → Prop) (h : sp_J9_max_7cf53 p0 p1 σ K X) : CtI yJ9_max_7cf53 cJ9_max_7cf53 2 (some .int) 1 0 [.int p0, .int p1] σ K X := by
  have h := h
  exact ctI_of (by decide +kernel) (Nat.le_of_ble_eq_true rfl) (fun x C r => sg_J9_max_7cf53_0 C r p0 p1  σ h)
/-! java/lang/Math.max(JJ)J: level 1, exceptions 0 -/
def sp_J9_max_f86c9 (p0 : Int64) (p1 : Int64) (σ : Mem) (K : Int64 → Mem → Prop) (X : String → Mem → Prop) : Prop := ((p0 < p1 → K p1 σ) ∧ (¬ p0 < p1 → K p0 σ))
set_option maxRecDepth 4000 in
theorem sg_J9_max_f86c9_0 {x : Ctx} {K : Int64 → Mem → Prop} {X : String → Mem → Prop} (C : Cx x RJ9 cJ9_max_f86c9 4) (r : RtL x 1 0 (some .long) K X) (p0 : Int64) (p1 : Int64)  (σ : Mem) (h : (p0 < p1 → K p1 σ) ∧ (¬ p0 < p1 → K p0 σ)) : Ws x 0 0 [(0, .long p0), (2, .long p1)] [] σ := by
  refine r_lload_n (j := 0) C 1 dJ9_max_f86c9_0 rfl rfl ?_
  refine r_lload_n (j := 1) C 2 dJ9_max_f86c9_1 rfl rfl ?_
  refine r_lcmp_lt C 3 10 6 dJ9_max_f86c9_2 rfl dJ9_max_f86c9_3 (by decide) rfl (fun c2 => ?_) (fun c2 => ?_)
  · have h := h.1 c2
    refine r_lload_n (j := 1) C 11 dJ9_max_f86c9_10 rfl rfl ?_
    exact r_lret (S := []) C r dJ9_max_f86c9_11 (by decide) h
  · have h := h.2 c2
    refine r_lload_n (j := 0) C 7 dJ9_max_f86c9_6 rfl rfl ?_
    refine r_goto C 11 dJ9_max_f86c9_7 (by decide) ?_
    exact r_lret (S := []) C r dJ9_max_f86c9_11 (by decide) h
theorem ct_J9_max_f86c9 (p0 : Int64) (p1 : Int64) (σ : Mem) (K : Int64 → Mem → Prop) (X : String → Mem → Prop) (h : sp_J9_max_f86c9 p0 p1 σ K X) : CtL yJ9_max_f86c9 cJ9_max_f86c9 4 (some .long) 1 0 [.long p0, .long p1] σ K X := by
  have h := h
  exact ctL_of (by decide +kernel) (Nat.le_of_ble_eq_true rfl) (fun x C r => sg_J9_max_f86c9_0 C r p0 p1  σ h)
/-! java/lang/Math.min(II)I: level 1, exceptions 0 -/
def sp_J9_min_7cf53 (p0 : Int32) (p1 : Int32) (σ : Mem) (K : Int32 → Mem → Prop) (X : String → Mem → Prop) : Prop := ((p1 < p0 → K p1 σ) ∧ (¬ p1 < p0 → K p0 σ))
set_option maxRecDepth 4000 in
theorem sg_J9_min_7cf53_0 {x : Ctx} {K : Int32 → Mem → Prop} {X : String → Mem → Prop} (C : Cx x RJ9 cJ9_min_7cf53 2) (r : RtI x 1 0 (some .int) K X) (p0 : Int32) (p1 : Int32)  (σ : Mem) (h : (p1 < p0 → K p1 σ) ∧ (¬ p1 < p0 → K p0 σ)) : Ws x 0 0 [(0, .int p0), (1, .int p1)] [] σ := by
  refine r_iload_n (j := 0) C 1 dJ9_min_7cf53_0 rfl rfl ?_
  refine r_iload_n (j := 1) C 2 dJ9_min_7cf53_1 rfl rfl ?_
  refine r_icmp_gt C 9 5 dJ9_min_7cf53_2 (by decide) rfl (fun c2 => ?_) (fun c2 => ?_)
  · have h := h.1 c2
    refine r_iload_n (j := 1) C 10 dJ9_min_7cf53_9 rfl rfl ?_
    exact r_iret (S := []) C r dJ9_min_7cf53_10 (by decide) rfl h
  · have h := h.2 c2
    refine r_iload_n (j := 0) C 6 dJ9_min_7cf53_5 rfl rfl ?_
    refine r_goto C 10 dJ9_min_7cf53_6 (by decide) ?_
    exact r_iret (S := []) C r dJ9_min_7cf53_10 (by decide) rfl h
theorem ct_J9_min_7cf53 (p0 : Int32) (p1 : Int32) (σ : Mem) (K : Int32 → Mem → Prop) (X : String → Mem → Prop) (h : sp_J9_min_7cf53 p0 p1 σ K X) : CtI yJ9_min_7cf53 cJ9_min_7cf53 2 (some .int) 1 0 [.int p0, .int p1] σ K X := by
  have h := h
  exact ctI_of (by decide +kernel) (Nat.le_of_ble_eq_true rfl) (fun x C r => sg_J9_min_7cf53_0 C r p0 p1  σ h)
/-! HeatNetwork$Network.cooled(III)I: level 1, exceptions 0 -/
def sp_X0_cooled (a : Nat) (p0 : Int32) (p1 : Int32) (p2 : Int32) (σ : Mem) (K : Int32 → Mem → Prop) (X : String → Mem → Prop) : Prop := (NetA a) ∧ (∀ v6 : Int32, v6 = (σ.1 (a + 1) 1) → ∀ v14 : Int64, v14 = (100 * (p1).toInt64) → (vp_in p0 10) ∧ (∀ v33 : Int64, v33 = (v14 + (((σ.1 (a + 4) p0.toNatClampNeg) * (σ.1 (a + 1) 3))).toInt64) → (0 < v33 → (¬ v33 = (0 : Int64)) ∧ (K (v6 + (((((p2 - v6)).toInt64 * v14) / v33)).toInt32) σ)) ∧ (¬ 0 < v33 → K p2 σ)))
set_option maxRecDepth 4000 in
theorem sg_X0_cooled_0 {x : Ctx} {K : Int32 → Mem → Prop} {X : String → Mem → Prop} (C : Cx x RX0 cX0_cooled 9) (r : RtI x 1 0 (some .int) K X) (a : Nat) (p0 : Int32) (p1 : Int32) (p2 : Int32) (ha : NetA a) (σ : Mem) (h : ∀ v6 : Int32, v6 = (σ.1 (a + 1) 1) → ∀ v14 : Int64, v14 = (100 * (p1).toInt64) → (vp_in p0 10) ∧ (∀ v33 : Int64, v33 = (v14 + (((σ.1 (a + 4) p0.toNatClampNeg) * (σ.1 (a + 1) 3))).toInt64) → (0 < v33 → (¬ v33 = (0 : Int64)) ∧ (K (v6 + (((((p2 - v6)).toInt64 * v14) / v33)).toInt32) σ)) ∧ (¬ 0 < v33 → K p2 σ))) : Ws x 0 0 [(0, .ref a), (1, .int p0), (2, .int p1), (3, .int p2)] [] σ := by
  refine r_aload_n (j := 0) C 1 dX0_cooled_0 rfl rfl ?_
  refine r_get (k := 0) C cl2 4 dX0_cooled_1 rfl (net0 ha) (by decide) wd_134 (.ref (a + 1)) (fun _ => rfl) ?_
  refine r_iconst C 5 (v := 1) dX0_cooled_4 rfl (by decide) ?_
  refine r_iald C 6 dX0_cooled_5 rfl (net1 ha) (n_inR (n := 1) (by decide) (by decide)) ?_
  refine r_nmI (fun v6 e6 => ?_)
  have h := h v6 e6
  refine r_istore C 8 [(4, .int v6), (0, .ref a), (1, .int p0), (2, .int p1), (3, .int p2)] dX0_cooled_6 rfl (by decide) rfl ?_
  refine r_ldc2 C 11 (v := 100) dX0_cooled_8 rfl wd_550 ?_
  refine r_iload_n (j := 3) C 12 dX0_cooled_11 rfl rfl ?_
  refine r_i2l C 13 dX0_cooled_12 rfl ?_
  refine r_lmul C 14 dX0_cooled_13 rfl ?_
  refine r_nmL (fun v14 e14 => ?_)
  have h := h v14 e14
  refine r_lstore C 16 [(5, .long v14), (4, .int v6), (0, .ref a), (1, .int p0), (2, .int p1), (3, .int p2)] dX0_cooled_14 rfl (by decide) rfl ?_
  refine r_lload (j := 0) C 18 dX0_cooled_16 rfl rfl ?_
  refine r_aload_n (j := 2) C 19 dX0_cooled_18 rfl rfl ?_
  refine r_get (k := 4) C cl2 22 dX0_cooled_19 rfl (net0 ha) (by decide) wd_148 (.ref (a + 4)) (fun _ => rfl) ?_
  refine r_iload_n (j := 3) C 23 dX0_cooled_22 rfl rfl ?_
  obtain ⟨o23, h⟩ := h
  refine r_iald C 24 dX0_cooled_23 rfl (net4 ha) o23 ?_
  refine r_aload_n (j := 2) C 25 dX0_cooled_24 rfl rfl ?_
  refine r_get (k := 0) C cl2 28 dX0_cooled_25 rfl (net0 ha) (by decide) wd_134 (.ref (a + 1)) (fun _ => rfl) ?_
  refine r_iconst C 29 (v := 3) dX0_cooled_28 rfl (by decide) ?_
  refine r_iald C 30 dX0_cooled_29 rfl (net1 ha) (n_inR (n := 3) (by decide) (by decide)) ?_
  refine r_imul C 31 dX0_cooled_30 rfl ?_
  refine r_i2l C 32 dX0_cooled_31 rfl ?_
  refine r_ladd C 33 dX0_cooled_32 rfl ?_
  refine r_nmL (fun v33 e33 => ?_)
  have h := h v33 e33
  refine r_lstore C 35 [(7, .long v33), (5, .long v14), (4, .int v6), (0, .ref a), (1, .int p0), (2, .int p1), (3, .int p2)] dX0_cooled_33 rfl (by decide) rfl ?_
  refine r_lload (j := 0) C 37 dX0_cooled_35 rfl rfl ?_
  refine r_lconst C 38 (v := 0) dX0_cooled_37 rfl rfl ?_
  refine r_lcmp_gt C 39 46 42 dX0_cooled_38 rfl dX0_cooled_39 (by decide) rfl (fun c38 => ?_) (fun c38 => ?_)
  · have h := h.1 c38
    refine r_iload (j := 2) C 48 dX0_cooled_46 rfl rfl ?_
    refine r_iload_n (j := 6) C 49 dX0_cooled_48 rfl rfl ?_
    refine r_iload (j := 2) C 51 dX0_cooled_49 rfl rfl ?_
    refine r_isub C 52 dX0_cooled_51 rfl ?_
    refine r_i2l C 53 dX0_cooled_52 rfl ?_
    refine r_lload (j := 1) C 55 dX0_cooled_53 rfl rfl ?_
    refine r_lmul C 56 dX0_cooled_55 rfl ?_
    refine r_lload (j := 0) C 58 dX0_cooled_56 rfl rfl ?_
    obtain ⟨o58, h⟩ := h
    refine r_ldiv C 59 dX0_cooled_58 rfl o58 ?_
    refine r_l2i C 60 dX0_cooled_59 rfl ?_
    refine r_iadd C 61 dX0_cooled_60 rfl ?_
    exact r_iret (S := []) C r dX0_cooled_61 (by decide) rfl h
  · have h := h.2 c38
    refine r_iload_n (j := 6) C 43 dX0_cooled_42 rfl rfl ?_
    refine r_goto C 61 dX0_cooled_43 (by decide) ?_
    exact r_iret (S := []) C r dX0_cooled_61 (by decide) rfl h
theorem ct_X0_cooled (a : Nat) (p0 : Int32) (p1 : Int32) (p2 : Int32) (σ : Mem) (K : Int32 → Mem → Prop) (X : String → Mem → Prop) (h : sp_X0_cooled a p0 p1 p2 σ K X) : CtI yX0_cooled cX0_cooled 9 (some .int) 1 0 [.ref a, .int p0, .int p1, .int p2] σ K X := by
  obtain ⟨ha, h⟩ := h
  exact ctI_of (by decide +kernel) (Nat.le_of_ble_eq_true rfl) (fun x C r => sg_X0_cooled_0 C r a p0 p1 p2 ha σ h)
/-! HeatNetwork$Network.dropStation(I)V: level 1, exceptions 0 -/
def sp_X0_dropStation (a : Nat) (p0 : Int32) (σ : Mem) (K : Mem → Prop) (X : String → Mem → Prop) : Prop := (NetA a) ∧ ((vp_in p0 10) ∧ (∀ σ6 : Mem, σ6 = wi σ (a + 6) p0.toNatClampNeg 0 → K σ6))
set_option maxRecDepth 4000 in
theorem sg_X0_dropStation_0 {x : Ctx} {K : Mem → Prop} {X : String → Mem → Prop} (C : Cx x RX0 cX0_dropStation 2) (r : RtV x 1 0 none K X) (a : Nat) (p0 : Int32) (ha : NetA a) (σ : Mem) (h : (vp_in p0 10) ∧ (∀ σ6 : Mem, σ6 = wi σ (a + 6) p0.toNatClampNeg 0 → K σ6)) : Ws x 0 0 [(0, .ref a), (1, .int p0)] [] σ := by
  refine r_aload_n (j := 0) C 1 dX0_dropStation_0 rfl rfl ?_
  refine r_get (k := 6) C cl2 4 dX0_dropStation_1 rfl (net0 ha) (by decide) wd_152 (.ref (a + 6)) (fun _ => rfl) ?_
  refine r_iload_n (j := 1) C 5 dX0_dropStation_4 rfl rfl ?_
  refine r_iconst C 6 (v := 0) dX0_dropStation_5 rfl (by decide) ?_
  obtain ⟨o6, h⟩ := h
  refine r_iast C 7 dX0_dropStation_6 rfl (net6 ha) o6 ?_
  refine r_nmS (fun σ6 e6 => ?_)
  have h := h σ6 e6
  exact r_vret (S := []) C r dX0_dropStation_7 (by decide) h
theorem ct_X0_dropStation (a : Nat) (p0 : Int32) (σ : Mem) (K : Mem → Prop) (X : String → Mem → Prop) (h : sp_X0_dropStation a p0 σ K X) : CtV yX0_dropStation cX0_dropStation 2 none 1 0 [.ref a, .int p0] σ K X := by
  obtain ⟨ha, h⟩ := h
  exact ctV_of (by decide +kernel) (Nat.le_of_ble_eq_true rfl) (fun x C r => sg_X0_dropStation_0 C r a p0 ha σ h)
/-! HeatNetwork$Network.farEnd(II)I: level 1, exceptions 0 -/
def sp_X0_farEnd (a : Nat) (p0 : Int32) (p1 : Int32) (σ : Mem) (K : Int32 → Mem → Prop) (X : String → Mem → Prop) : Prop := (NetA a) ∧ ((vp_in p0 10) ∧ ((¬ (σ.1 (a + 2) p0.toNatClampNeg) = p1 → (vp_in p0 10) ∧ ((¬ (σ.1 (a + 3) p0.toNatClampNeg) = p1 → K (-1) σ) ∧ ((σ.1 (a + 3) p0.toNatClampNeg) = p1 → (vp_in p0 10) ∧ (K (σ.1 (a + 2) p0.toNatClampNeg) σ)))) ∧ ((σ.1 (a + 2) p0.toNatClampNeg) = p1 → (vp_in p0 10) ∧ (K (σ.1 (a + 3) p0.toNatClampNeg) σ))))
set_option maxRecDepth 4000 in
theorem sg_X0_farEnd_0 {x : Ctx} {K : Int32 → Mem → Prop} {X : String → Mem → Prop} (C : Cx x RX0 cX0_farEnd 3) (r : RtI x 1 0 (some .int) K X) (a : Nat) (p0 : Int32) (p1 : Int32) (ha : NetA a) (σ : Mem) (h : (vp_in p0 10) ∧ ((¬ (σ.1 (a + 2) p0.toNatClampNeg) = p1 → (vp_in p0 10) ∧ ((¬ (σ.1 (a + 3) p0.toNatClampNeg) = p1 → K (-1) σ) ∧ ((σ.1 (a + 3) p0.toNatClampNeg) = p1 → (vp_in p0 10) ∧ (K (σ.1 (a + 2) p0.toNatClampNeg) σ)))) ∧ ((σ.1 (a + 2) p0.toNatClampNeg) = p1 → (vp_in p0 10) ∧ (K (σ.1 (a + 3) p0.toNatClampNeg) σ)))) : Ws x 0 0 [(0, .ref a), (1, .int p0), (2, .int p1)] [] σ := by
  refine r_aload_n (j := 0) C 1 dX0_farEnd_0 rfl rfl ?_
  refine r_get (k := 2) C cl2 4 dX0_farEnd_1 rfl (net0 ha) (by decide) wd_140 (.ref (a + 2)) (fun _ => rfl) ?_
  refine r_iload_n (j := 1) C 5 dX0_farEnd_4 rfl rfl ?_
  obtain ⟨o5, h⟩ := h
  refine r_iald C 6 dX0_farEnd_5 rfl (net2 ha) o5 ?_
  refine r_iload_n (j := 2) C 7 dX0_farEnd_6 rfl rfl ?_
  refine r_icmp_ne C 17 10 dX0_farEnd_7 (by decide) rfl (fun c7 => ?_) (fun c7 => ?_)
  · have h := h.1 c7
    refine r_aload_n (j := 0) C 18 dX0_farEnd_17 rfl rfl ?_
    refine r_get (k := 3) C cl2 21 dX0_farEnd_18 rfl (net0 ha) (by decide) wd_144 (.ref (a + 3)) (fun _ => rfl) ?_
    refine r_iload_n (j := 1) C 22 dX0_farEnd_21 rfl rfl ?_
    obtain ⟨o22, h⟩ := h
    refine r_iald C 23 dX0_farEnd_22 rfl (net3 ha) o22 ?_
    refine r_iload_n (j := 2) C 24 dX0_farEnd_23 rfl rfl ?_
    refine r_icmp_ne C 36 27 dX0_farEnd_24 (by decide) rfl (fun c24 => ?_) (fun c24 => ?_)
    · have h := h.1 c24
      refine r_iconst C 37 (v := (-1)) dX0_farEnd_36 rfl (by decide) ?_
      exact r_iret (S := []) C r dX0_farEnd_37 (by decide) rfl h
    · have h := h.2 c24
      refine r_aload_n (j := 0) C 28 dX0_farEnd_27 rfl rfl ?_
      refine r_get (k := 2) C cl2 31 dX0_farEnd_28 rfl (net0 ha) (by decide) wd_140 (.ref (a + 2)) (fun _ => rfl) ?_
      refine r_iload_n (j := 1) C 32 dX0_farEnd_31 rfl rfl ?_
      obtain ⟨o32, h⟩ := h
      refine r_iald C 33 dX0_farEnd_32 rfl (net2 ha) o32 ?_
      refine r_goto C 37 dX0_farEnd_33 (by decide) ?_
      exact r_iret (S := []) C r dX0_farEnd_37 (by decide) rfl h
  · have h := h.2 c7
    refine r_aload_n (j := 0) C 11 dX0_farEnd_10 rfl rfl ?_
    refine r_get (k := 3) C cl2 14 dX0_farEnd_11 rfl (net0 ha) (by decide) wd_144 (.ref (a + 3)) (fun _ => rfl) ?_
    refine r_iload_n (j := 1) C 15 dX0_farEnd_14 rfl rfl ?_
    obtain ⟨o15, h⟩ := h
    refine r_iald C 16 dX0_farEnd_15 rfl (net3 ha) o15 ?_
    exact r_iret (S := []) C r dX0_farEnd_16 (by decide) rfl h
theorem ct_X0_farEnd (a : Nat) (p0 : Int32) (p1 : Int32) (σ : Mem) (K : Int32 → Mem → Prop) (X : String → Mem → Prop) (h : sp_X0_farEnd a p0 p1 σ K X) : CtI yX0_farEnd cX0_farEnd 3 (some .int) 1 0 [.ref a, .int p0, .int p1] σ K X := by
  obtain ⟨ha, h⟩ := h
  exact ctI_of (by decide +kernel) (Nat.le_of_ble_eq_true rfl) (fun x C r => sg_X0_farEnd_0 C r a p0 p1 ha σ h)
/-! HeatNetwork$Network.putPipe(IIII)V: level 1, exceptions 0 -/
def sp_X0_putPipe (a : Nat) (p0 : Int32) (p1 : Int32) (p2 : Int32) (p3 : Int32) (σ : Mem) (K : Mem → Prop) (X : String → Mem → Prop) : Prop := (NetA a) ∧ ((vp_in (σ.1 a 1) 10) ∧ (∀ σ9 : Mem, σ9 = wi σ (a + 2) ((σ.1 a 1)).toNatClampNeg p0 → (vp_in (σ9.1 a 1) 10) ∧ (∀ σ19 : Mem, σ19 = wi σ9 (a + 3) ((σ9.1 a 1)).toNatClampNeg p1 → (vp_in (σ19.1 a 1) 10) ∧ (∀ σ29 : Mem, σ29 = wi σ19 (a + 4) ((σ19.1 a 1)).toNatClampNeg p2 → (vp_in (σ29.1 a 1) 10) ∧ (∀ σ40 : Mem, σ40 = wi σ29 (a + 5) ((σ29.1 a 1)).toNatClampNeg p3 → ∀ σ48 : Mem, σ48 = wi σ40 a 1 ((σ40.1 a 1) + 1) → K σ48)))))
set_option maxRecDepth 4000 in
theorem sg_X0_putPipe_0 {x : Ctx} {K : Mem → Prop} {X : String → Mem → Prop} (C : Cx x RX0 cX0_putPipe 5) (r : RtV x 1 0 none K X) (a : Nat) (p0 : Int32) (p1 : Int32) (p2 : Int32) (p3 : Int32) (ha : NetA a) (σ : Mem) (h : (vp_in (σ.1 a 1) 10) ∧ (∀ σ9 : Mem, σ9 = wi σ (a + 2) ((σ.1 a 1)).toNatClampNeg p0 → (vp_in (σ9.1 a 1) 10) ∧ (∀ σ19 : Mem, σ19 = wi σ9 (a + 3) ((σ9.1 a 1)).toNatClampNeg p1 → (vp_in (σ19.1 a 1) 10) ∧ (∀ σ29 : Mem, σ29 = wi σ19 (a + 4) ((σ19.1 a 1)).toNatClampNeg p2 → (vp_in (σ29.1 a 1) 10) ∧ (∀ σ40 : Mem, σ40 = wi σ29 (a + 5) ((σ29.1 a 1)).toNatClampNeg p3 → ∀ σ48 : Mem, σ48 = wi σ40 a 1 ((σ40.1 a 1) + 1) → K σ48))))) : Ws x 0 0 [(0, .ref a), (1, .int p0), (2, .int p1), (3, .int p2), (4, .int p3)] [] σ := by
  refine r_aload_n (j := 0) C 1 dX0_putPipe_0 rfl rfl ?_
  refine r_get (k := 2) C cl2 4 dX0_putPipe_1 rfl (net0 ha) (by decide) wd_140 (.ref (a + 2)) (fun _ => rfl) ?_
  refine r_aload_n (j := 0) C 5 dX0_putPipe_4 rfl rfl ?_
  refine r_get (k := 1) C cl2 8 dX0_putPipe_5 rfl (net0 ha) (by decide) wd_137 (.int (σ.1 a 1)) (fun _ => rfl) ?_
  refine r_iload_n (j := 1) C 9 dX0_putPipe_8 rfl rfl ?_
  obtain ⟨o9, h⟩ := h
  refine r_iast C 10 dX0_putPipe_9 rfl (net2 ha) o9 ?_
  refine r_nmS (fun σ9 e9 => ?_)
  have h := h σ9 e9
  refine r_aload_n (j := 0) C 11 dX0_putPipe_10 rfl rfl ?_
  refine r_get (k := 3) C cl2 14 dX0_putPipe_11 rfl (net0 ha) (by decide) wd_144 (.ref (a + 3)) (fun _ => rfl) ?_
  refine r_aload_n (j := 0) C 15 dX0_putPipe_14 rfl rfl ?_
  refine r_get (k := 1) C cl2 18 dX0_putPipe_15 rfl (net0 ha) (by decide) wd_137 (.int (σ9.1 a 1)) (fun _ => rfl) ?_
  refine r_iload_n (j := 2) C 19 dX0_putPipe_18 rfl rfl ?_
  obtain ⟨o19, h⟩ := h
  refine r_iast C 20 dX0_putPipe_19 rfl (net3 ha) o19 ?_
  refine r_nmS (fun σ19 e19 => ?_)
  have h := h σ19 e19
  refine r_aload_n (j := 0) C 21 dX0_putPipe_20 rfl rfl ?_
  refine r_get (k := 4) C cl2 24 dX0_putPipe_21 rfl (net0 ha) (by decide) wd_148 (.ref (a + 4)) (fun _ => rfl) ?_
  refine r_aload_n (j := 0) C 25 dX0_putPipe_24 rfl rfl ?_
  refine r_get (k := 1) C cl2 28 dX0_putPipe_25 rfl (net0 ha) (by decide) wd_137 (.int (σ19.1 a 1)) (fun _ => rfl) ?_
  refine r_iload_n (j := 3) C 29 dX0_putPipe_28 rfl rfl ?_
  obtain ⟨o29, h⟩ := h
  refine r_iast C 30 dX0_putPipe_29 rfl (net4 ha) o29 ?_
  refine r_nmS (fun σ29 e29 => ?_)
  have h := h σ29 e29
  refine r_aload_n (j := 0) C 31 dX0_putPipe_30 rfl rfl ?_
  refine r_get (k := 5) C cl2 34 dX0_putPipe_31 rfl (net0 ha) (by decide) wd_150 (.ref (a + 5)) (fun _ => rfl) ?_
  refine r_aload_n (j := 0) C 35 dX0_putPipe_34 rfl rfl ?_
  refine r_get (k := 1) C cl2 38 dX0_putPipe_35 rfl (net0 ha) (by decide) wd_137 (.int (σ29.1 a 1)) (fun _ => rfl) ?_
  refine r_iload (j := 4) C 40 dX0_putPipe_38 rfl rfl ?_
  obtain ⟨o40, h⟩ := h
  refine r_iast C 41 dX0_putPipe_40 rfl (net5 ha) o40 ?_
  refine r_nmS (fun σ40 e40 => ?_)
  have h := h σ40 e40
  refine r_aload_n (j := 0) C 42 dX0_putPipe_41 rfl rfl ?_
  refine r_dup C 43 dX0_putPipe_42 rfl rfl ?_
  refine r_get (k := 1) C cl2 46 dX0_putPipe_43 rfl (net0 ha) (by decide) wd_137 (.int (σ40.1 a 1)) (fun _ => rfl) ?_
  refine r_iconst C 47 (v := 1) dX0_putPipe_46 rfl (by decide) ?_
  refine r_iadd C 48 dX0_putPipe_47 rfl ?_
  refine r_putI (k := 1) C cl2 51 dX0_putPipe_48 rfl (net0 ha) (by decide) wd_137 rfl rfl rfl rfl ?_
  refine r_nmS (fun σ48 e48 => ?_)
  have h := h σ48 e48
  exact r_vret (S := []) C r dX0_putPipe_51 (by decide) h
theorem ct_X0_putPipe (a : Nat) (p0 : Int32) (p1 : Int32) (p2 : Int32) (p3 : Int32) (σ : Mem) (K : Mem → Prop) (X : String → Mem → Prop) (h : sp_X0_putPipe a p0 p1 p2 p3 σ K X) : CtV yX0_putPipe cX0_putPipe 5 none 1 0 [.ref a, .int p0, .int p1, .int p2, .int p3] σ K X := by
  obtain ⟨ha, h⟩ := h
  exact ctV_of (by decide +kernel) (Nat.le_of_ble_eq_true rfl) (fun x C r => sg_X0_putPipe_0 C r a p0 p1 p2 p3 ha σ h)
/-! HeatNetwork$Network.putStation(IIII)V: level 1, exceptions 0 -/
def sp_X0_putStation (a : Nat) (p0 : Int32) (p1 : Int32) (p2 : Int32) (p3 : Int32) (σ : Mem) (K : Mem → Prop) (X : String → Mem → Prop) : Prop := (NetA a) ∧ ((vp_in p0 10) ∧ (∀ σ6 : Mem, σ6 = wi σ (a + 6) p0.toNatClampNeg p1 → (vp_in p0 10) ∧ (∀ σ13 : Mem, σ13 = wi σ6 (a + 7) p0.toNatClampNeg p2 → (vp_in p0 10) ∧ (∀ σ21 : Mem, σ21 = wi σ13 (a + 8) p0.toNatClampNeg p3 → (vp_in p0 10) ∧ (∀ σ28 : Mem, σ28 = wi σ21 (a + 9) p0.toNatClampNeg 0 → (vp_in p0 10) ∧ (∀ σ37 : Mem, σ37 = wi σ28 (a + 10) p0.toNatClampNeg 1000 → (vp_in p0 10) ∧ (∀ σ44 : Mem, σ44 = wl σ37 (a + 11) p0.toNatClampNeg 0 → (vp_in p0 10) ∧ (∀ σ51 : Mem, σ51 = wl σ44 (a + 12) p0.toNatClampNeg 0 → (vp_in p0 10) ∧ (∀ σ58 : Mem, σ58 = wl σ51 (a + 13) p0.toNatClampNeg 0 → K σ58)))))))))
set_option maxRecDepth 4000 in
theorem sg_X0_putStation_0 {x : Ctx} {K : Mem → Prop} {X : String → Mem → Prop} (C : Cx x RX0 cX0_putStation 5) (r : RtV x 1 0 none K X) (a : Nat) (p0 : Int32) (p1 : Int32) (p2 : Int32) (p3 : Int32) (ha : NetA a) (σ : Mem) (h : (vp_in p0 10) ∧ (∀ σ6 : Mem, σ6 = wi σ (a + 6) p0.toNatClampNeg p1 → (vp_in p0 10) ∧ (∀ σ13 : Mem, σ13 = wi σ6 (a + 7) p0.toNatClampNeg p2 → (vp_in p0 10) ∧ (∀ σ21 : Mem, σ21 = wi σ13 (a + 8) p0.toNatClampNeg p3 → (vp_in p0 10) ∧ (∀ σ28 : Mem, σ28 = wi σ21 (a + 9) p0.toNatClampNeg 0 → (vp_in p0 10) ∧ (∀ σ37 : Mem, σ37 = wi σ28 (a + 10) p0.toNatClampNeg 1000 → (vp_in p0 10) ∧ (∀ σ44 : Mem, σ44 = wl σ37 (a + 11) p0.toNatClampNeg 0 → (vp_in p0 10) ∧ (∀ σ51 : Mem, σ51 = wl σ44 (a + 12) p0.toNatClampNeg 0 → (vp_in p0 10) ∧ (∀ σ58 : Mem, σ58 = wl σ51 (a + 13) p0.toNatClampNeg 0 → K σ58))))))))) : Ws x 0 0 [(0, .ref a), (1, .int p0), (2, .int p1), (3, .int p2), (4, .int p3)] [] σ := by
  refine r_aload_n (j := 0) C 1 dX0_putStation_0 rfl rfl ?_
  refine r_get (k := 6) C cl2 4 dX0_putStation_1 rfl (net0 ha) (by decide) wd_152 (.ref (a + 6)) (fun _ => rfl) ?_
  refine r_iload_n (j := 1) C 5 dX0_putStation_4 rfl rfl ?_
  refine r_iload_n (j := 2) C 6 dX0_putStation_5 rfl rfl ?_
  obtain ⟨o6, h⟩ := h
  refine r_iast C 7 dX0_putStation_6 rfl (net6 ha) o6 ?_
  refine r_nmS (fun σ6 e6 => ?_)
  have h := h σ6 e6
  refine r_aload_n (j := 0) C 8 dX0_putStation_7 rfl rfl ?_
  refine r_get (k := 7) C cl2 11 dX0_putStation_8 rfl (net0 ha) (by decide) wd_154 (.ref (a + 7)) (fun _ => rfl) ?_
  refine r_iload_n (j := 1) C 12 dX0_putStation_11 rfl rfl ?_
  refine r_iload_n (j := 3) C 13 dX0_putStation_12 rfl rfl ?_
  obtain ⟨o13, h⟩ := h
  refine r_iast C 14 dX0_putStation_13 rfl (net7 ha) o13 ?_
  refine r_nmS (fun σ13 e13 => ?_)
  have h := h σ13 e13
  refine r_aload_n (j := 0) C 15 dX0_putStation_14 rfl rfl ?_
  refine r_get (k := 8) C cl2 18 dX0_putStation_15 rfl (net0 ha) (by decide) wd_157 (.ref (a + 8)) (fun _ => rfl) ?_
  refine r_iload_n (j := 1) C 19 dX0_putStation_18 rfl rfl ?_
  refine r_iload (j := 4) C 21 dX0_putStation_19 rfl rfl ?_
  obtain ⟨o21, h⟩ := h
  refine r_iast C 22 dX0_putStation_21 rfl (net8 ha) o21 ?_
  refine r_nmS (fun σ21 e21 => ?_)
  have h := h σ21 e21
  refine r_aload_n (j := 0) C 23 dX0_putStation_22 rfl rfl ?_
  refine r_get (k := 9) C cl2 26 dX0_putStation_23 rfl (net0 ha) (by decide) wd_160 (.ref (a + 9)) (fun _ => rfl) ?_
  refine r_iload_n (j := 1) C 27 dX0_putStation_26 rfl rfl ?_
  refine r_iconst C 28 (v := 0) dX0_putStation_27 rfl (by decide) ?_
  obtain ⟨o28, h⟩ := h
  refine r_iast C 29 dX0_putStation_28 rfl (net9 ha) o28 ?_
  refine r_nmS (fun σ28 e28 => ?_)
  have h := h σ28 e28
  refine r_aload_n (j := 0) C 30 dX0_putStation_29 rfl rfl ?_
  refine r_get (k := 10) C cl2 33 dX0_putStation_30 rfl (net0 ha) (by decide) wd_162 (.ref (a + 10)) (fun _ => rfl) ?_
  refine r_iload_n (j := 1) C 34 dX0_putStation_33 rfl rfl ?_
  refine r_sipush C 37 (v := 1000) dX0_putStation_34 rfl (by decide) ?_
  obtain ⟨o37, h⟩ := h
  refine r_iast C 38 dX0_putStation_37 rfl (net10 ha) o37 ?_
  refine r_nmS (fun σ37 e37 => ?_)
  have h := h σ37 e37
  refine r_aload_n (j := 0) C 39 dX0_putStation_38 rfl rfl ?_
  refine r_get (k := 11) C cl2 42 dX0_putStation_39 rfl (net0 ha) (by decide) wd_164 (.ref (a + 11)) (fun _ => rfl) ?_
  refine r_iload_n (j := 1) C 43 dX0_putStation_42 rfl rfl ?_
  refine r_lconst C 44 (v := 0) dX0_putStation_43 rfl rfl ?_
  obtain ⟨o44, h⟩ := h
  refine r_last C 45 dX0_putStation_44 rfl (net11 ha) o44 ?_
  refine r_nmS (fun σ44 e44 => ?_)
  have h := h σ44 e44
  refine r_aload_n (j := 0) C 46 dX0_putStation_45 rfl rfl ?_
  refine r_get (k := 12) C cl2 49 dX0_putStation_46 rfl (net0 ha) (by decide) wd_166 (.ref (a + 12)) (fun _ => rfl) ?_
  refine r_iload_n (j := 1) C 50 dX0_putStation_49 rfl rfl ?_
  refine r_lconst C 51 (v := 0) dX0_putStation_50 rfl rfl ?_
  obtain ⟨o51, h⟩ := h
  refine r_last C 52 dX0_putStation_51 rfl (net12 ha) o51 ?_
  refine r_nmS (fun σ51 e51 => ?_)
  have h := h σ51 e51
  refine r_aload_n (j := 0) C 53 dX0_putStation_52 rfl rfl ?_
  refine r_get (k := 13) C cl2 56 dX0_putStation_53 rfl (net0 ha) (by decide) wd_168 (.ref (a + 13)) (fun _ => rfl) ?_
  refine r_iload_n (j := 1) C 57 dX0_putStation_56 rfl rfl ?_
  refine r_lconst C 58 (v := 0) dX0_putStation_57 rfl rfl ?_
  obtain ⟨o58, h⟩ := h
  refine r_last C 59 dX0_putStation_58 rfl (net13 ha) o58 ?_
  refine r_nmS (fun σ58 e58 => ?_)
  have h := h σ58 e58
  exact r_vret (S := []) C r dX0_putStation_59 (by decide) h
theorem ct_X0_putStation (a : Nat) (p0 : Int32) (p1 : Int32) (p2 : Int32) (p3 : Int32) (σ : Mem) (K : Mem → Prop) (X : String → Mem → Prop) (h : sp_X0_putStation a p0 p1 p2 p3 σ K X) : CtV yX0_putStation cX0_putStation 5 none 1 0 [.ref a, .int p0, .int p1, .int p2, .int p3] σ K X := by
  obtain ⟨ha, h⟩ := h
  exact ctV_of (by decide +kernel) (Nat.le_of_ble_eq_true rfl) (fun x C r => sg_X0_putStation_0 C r a p0 p1 p2 p3 ha σ h)
/-! HeatNetwork$Network.takeOver(LHeatNetwork$Network;)V: level 1, exceptions 0 -/
def sp_X0_takeOver (a : Nat) (b : Nat) (σ : Mem) (K : Mem → Prop) (X : String → Mem → Prop) : Prop := (NetA a) ∧ (NetA b) ∧ (∀ σ12 : Mem, σ12 = ci σ (b + 1) (a + 1) 0 0 7 → ∀ σ20 : Mem, σ20 = wi σ12 a 1 (σ12.1 b 1) → ∀ σ35 : Mem, σ35 = ci σ20 (b + 2) (a + 2) 0 0 10 → ∀ σ50 : Mem, σ50 = ci σ35 (b + 3) (a + 3) 0 0 10 → ∀ σ65 : Mem, σ65 = ci σ50 (b + 4) (a + 4) 0 0 10 → ∀ σ80 : Mem, σ80 = ci σ65 (b + 5) (a + 5) 0 0 10 → ∀ σ95 : Mem, σ95 = ci σ80 (b + 6) (a + 6) 0 0 10 → ∀ σ110 : Mem, σ110 = ci σ95 (b + 7) (a + 7) 0 0 10 → ∀ σ125 : Mem, σ125 = ci σ110 (b + 8) (a + 8) 0 0 10 → ∀ σ140 : Mem, σ140 = ci σ125 (b + 9) (a + 9) 0 0 10 → ∀ σ155 : Mem, σ155 = ci σ140 (b + 10) (a + 10) 0 0 10 → ∀ σ170 : Mem, σ170 = cl σ155 (b + 11) (a + 11) 0 0 10 → ∀ σ185 : Mem, σ185 = cl σ170 (b + 12) (a + 12) 0 0 10 → ∀ σ200 : Mem, σ200 = cl σ185 (b + 13) (a + 13) 0 0 10 → ∀ σ208 : Mem, σ208 = wl σ200 a 14 (σ200.2.1 b 14) → ∀ σ216 : Mem, σ216 = wl σ208 a 15 (σ208.2.1 b 15) → ∀ σ224 : Mem, σ224 = wl σ216 a 16 (σ216.2.1 b 16) → ∀ σ232 : Mem, σ232 = wl σ224 a 17 (σ224.2.1 b 17) → K σ232)
set_option maxRecDepth 4000 in
theorem sg_X0_takeOver_0 {x : Ctx} {K : Mem → Prop} {X : String → Mem → Prop} (C : Cx x RX0 cX0_takeOver 2) (r : RtV x 1 0 none K X) (a : Nat) (b : Nat) (ha : NetA a) (hb : NetA b) (σ : Mem) (h : ∀ σ12 : Mem, σ12 = ci σ (b + 1) (a + 1) 0 0 7 → ∀ σ20 : Mem, σ20 = wi σ12 a 1 (σ12.1 b 1) → ∀ σ35 : Mem, σ35 = ci σ20 (b + 2) (a + 2) 0 0 10 → ∀ σ50 : Mem, σ50 = ci σ35 (b + 3) (a + 3) 0 0 10 → ∀ σ65 : Mem, σ65 = ci σ50 (b + 4) (a + 4) 0 0 10 → ∀ σ80 : Mem, σ80 = ci σ65 (b + 5) (a + 5) 0 0 10 → ∀ σ95 : Mem, σ95 = ci σ80 (b + 6) (a + 6) 0 0 10 → ∀ σ110 : Mem, σ110 = ci σ95 (b + 7) (a + 7) 0 0 10 → ∀ σ125 : Mem, σ125 = ci σ110 (b + 8) (a + 8) 0 0 10 → ∀ σ140 : Mem, σ140 = ci σ125 (b + 9) (a + 9) 0 0 10 → ∀ σ155 : Mem, σ155 = ci σ140 (b + 10) (a + 10) 0 0 10 → ∀ σ170 : Mem, σ170 = cl σ155 (b + 11) (a + 11) 0 0 10 → ∀ σ185 : Mem, σ185 = cl σ170 (b + 12) (a + 12) 0 0 10 → ∀ σ200 : Mem, σ200 = cl σ185 (b + 13) (a + 13) 0 0 10 → ∀ σ208 : Mem, σ208 = wl σ200 a 14 (σ200.2.1 b 14) → ∀ σ216 : Mem, σ216 = wl σ208 a 15 (σ208.2.1 b 15) → ∀ σ224 : Mem, σ224 = wl σ216 a 16 (σ216.2.1 b 16) → ∀ σ232 : Mem, σ232 = wl σ224 a 17 (σ224.2.1 b 17) → K σ232) : Ws x 0 0 [(0, .ref a), (1, .ref b)] [] σ := by
  refine r_aload_n (j := 1) C 1 dX0_takeOver_0 rfl rfl ?_
  refine r_get (k := 0) C cl2 4 dX0_takeOver_1 rfl (net0 hb) (by decide) wd_134 (.ref (b + 1)) (fun _ => rfl) ?_
  refine r_iconst C 5 (v := 0) dX0_takeOver_4 rfl (by decide) ?_
  refine r_aload_n (j := 0) C 6 dX0_takeOver_5 rfl rfl ?_
  refine r_get (k := 0) C cl2 9 dX0_takeOver_6 rfl (net0 ha) (by decide) wd_134 (.ref (a + 1)) (fun _ => rfl) ?_
  refine r_iconst C 10 (v := 0) dX0_takeOver_9 rfl (by decide) ?_
  refine r_bipush C 12 (v := 7) dX0_takeOver_10 rfl (by decide) ?_
  refine r_cpyI C (r.px.fr (by decide) (by decide)) 15 dX0_takeOver_12 rfl wd_591 wd_491 wd_490 wd_103 (net1 hb) (net1 ha) (by decide) (by decide) (by decide) (by decide) (by decide) (Nat.le_of_ble_eq_true rfl) ?_
  refine r_nmS (fun σ12 e12 => ?_)
  have h := h σ12 e12
  refine r_aload_n (j := 0) C 16 dX0_takeOver_15 rfl rfl ?_
  refine r_aload_n (j := 1) C 17 dX0_takeOver_16 rfl rfl ?_
  refine r_get (k := 1) C cl2 20 dX0_takeOver_17 rfl (net0 hb) (by decide) wd_137 (.int (σ12.1 b 1)) (fun _ => rfl) ?_
  refine r_putI (k := 1) C cl2 23 dX0_takeOver_20 rfl (net0 ha) (by decide) wd_137 rfl rfl rfl rfl ?_
  refine r_nmS (fun σ20 e20 => ?_)
  have h := h σ20 e20
  refine r_aload_n (j := 1) C 24 dX0_takeOver_23 rfl rfl ?_
  refine r_get (k := 2) C cl2 27 dX0_takeOver_24 rfl (net0 hb) (by decide) wd_140 (.ref (b + 2)) (fun _ => rfl) ?_
  refine r_iconst C 28 (v := 0) dX0_takeOver_27 rfl (by decide) ?_
  refine r_aload_n (j := 0) C 29 dX0_takeOver_28 rfl rfl ?_
  refine r_get (k := 2) C cl2 32 dX0_takeOver_29 rfl (net0 ha) (by decide) wd_140 (.ref (a + 2)) (fun _ => rfl) ?_
  refine r_iconst C 33 (v := 0) dX0_takeOver_32 rfl (by decide) ?_
  refine r_bipush C 35 (v := 10) dX0_takeOver_33 rfl (by decide) ?_
  refine r_cpyI C (r.px.fr (by decide) (by decide)) 38 dX0_takeOver_35 rfl wd_591 wd_491 wd_490 wd_103 (net2 hb) (net2 ha) (by decide) (by decide) (by decide) (by decide) (by decide) (Nat.le_of_ble_eq_true rfl) ?_
  refine r_nmS (fun σ35 e35 => ?_)
  have h := h σ35 e35
  refine r_aload_n (j := 1) C 39 dX0_takeOver_38 rfl rfl ?_
  refine r_get (k := 3) C cl2 42 dX0_takeOver_39 rfl (net0 hb) (by decide) wd_144 (.ref (b + 3)) (fun _ => rfl) ?_
  refine r_iconst C 43 (v := 0) dX0_takeOver_42 rfl (by decide) ?_
  refine r_aload_n (j := 0) C 44 dX0_takeOver_43 rfl rfl ?_
  refine r_get (k := 3) C cl2 47 dX0_takeOver_44 rfl (net0 ha) (by decide) wd_144 (.ref (a + 3)) (fun _ => rfl) ?_
  refine r_iconst C 48 (v := 0) dX0_takeOver_47 rfl (by decide) ?_
  refine r_bipush C 50 (v := 10) dX0_takeOver_48 rfl (by decide) ?_
  refine r_cpyI C (r.px.fr (by decide) (by decide)) 53 dX0_takeOver_50 rfl wd_591 wd_491 wd_490 wd_103 (net3 hb) (net3 ha) (by decide) (by decide) (by decide) (by decide) (by decide) (Nat.le_of_ble_eq_true rfl) ?_
  refine r_nmS (fun σ50 e50 => ?_)
  have h := h σ50 e50
  refine r_aload_n (j := 1) C 54 dX0_takeOver_53 rfl rfl ?_
  refine r_get (k := 4) C cl2 57 dX0_takeOver_54 rfl (net0 hb) (by decide) wd_148 (.ref (b + 4)) (fun _ => rfl) ?_
  refine r_iconst C 58 (v := 0) dX0_takeOver_57 rfl (by decide) ?_
  refine r_aload_n (j := 0) C 59 dX0_takeOver_58 rfl rfl ?_
  refine r_get (k := 4) C cl2 62 dX0_takeOver_59 rfl (net0 ha) (by decide) wd_148 (.ref (a + 4)) (fun _ => rfl) ?_
  refine r_iconst C 63 (v := 0) dX0_takeOver_62 rfl (by decide) ?_
  refine r_bipush C 65 (v := 10) dX0_takeOver_63 rfl (by decide) ?_
  refine r_cpyI C (r.px.fr (by decide) (by decide)) 68 dX0_takeOver_65 rfl wd_591 wd_491 wd_490 wd_103 (net4 hb) (net4 ha) (by decide) (by decide) (by decide) (by decide) (by decide) (Nat.le_of_ble_eq_true rfl) ?_
  refine r_nmS (fun σ65 e65 => ?_)
  have h := h σ65 e65
  refine r_aload_n (j := 1) C 69 dX0_takeOver_68 rfl rfl ?_
  refine r_get (k := 5) C cl2 72 dX0_takeOver_69 rfl (net0 hb) (by decide) wd_150 (.ref (b + 5)) (fun _ => rfl) ?_
  refine r_iconst C 73 (v := 0) dX0_takeOver_72 rfl (by decide) ?_
  refine r_aload_n (j := 0) C 74 dX0_takeOver_73 rfl rfl ?_
  refine r_get (k := 5) C cl2 77 dX0_takeOver_74 rfl (net0 ha) (by decide) wd_150 (.ref (a + 5)) (fun _ => rfl) ?_
  refine r_iconst C 78 (v := 0) dX0_takeOver_77 rfl (by decide) ?_
  refine r_bipush C 80 (v := 10) dX0_takeOver_78 rfl (by decide) ?_
  refine r_cpyI C (r.px.fr (by decide) (by decide)) 83 dX0_takeOver_80 rfl wd_591 wd_491 wd_490 wd_103 (net5 hb) (net5 ha) (by decide) (by decide) (by decide) (by decide) (by decide) (Nat.le_of_ble_eq_true rfl) ?_
  refine r_nmS (fun σ80 e80 => ?_)
  have h := h σ80 e80
  refine r_aload_n (j := 1) C 84 dX0_takeOver_83 rfl rfl ?_
  refine r_get (k := 6) C cl2 87 dX0_takeOver_84 rfl (net0 hb) (by decide) wd_152 (.ref (b + 6)) (fun _ => rfl) ?_
  refine r_iconst C 88 (v := 0) dX0_takeOver_87 rfl (by decide) ?_
  refine r_aload_n (j := 0) C 89 dX0_takeOver_88 rfl rfl ?_
  refine r_get (k := 6) C cl2 92 dX0_takeOver_89 rfl (net0 ha) (by decide) wd_152 (.ref (a + 6)) (fun _ => rfl) ?_
  refine r_iconst C 93 (v := 0) dX0_takeOver_92 rfl (by decide) ?_
  refine r_bipush C 95 (v := 10) dX0_takeOver_93 rfl (by decide) ?_
  refine r_cpyI C (r.px.fr (by decide) (by decide)) 98 dX0_takeOver_95 rfl wd_591 wd_491 wd_490 wd_103 (net6 hb) (net6 ha) (by decide) (by decide) (by decide) (by decide) (by decide) (Nat.le_of_ble_eq_true rfl) ?_
  refine r_nmS (fun σ95 e95 => ?_)
  have h := h σ95 e95
  refine r_aload_n (j := 1) C 99 dX0_takeOver_98 rfl rfl ?_
  refine r_get (k := 7) C cl2 102 dX0_takeOver_99 rfl (net0 hb) (by decide) wd_154 (.ref (b + 7)) (fun _ => rfl) ?_
  refine r_iconst C 103 (v := 0) dX0_takeOver_102 rfl (by decide) ?_
  refine r_aload_n (j := 0) C 104 dX0_takeOver_103 rfl rfl ?_
  refine r_get (k := 7) C cl2 107 dX0_takeOver_104 rfl (net0 ha) (by decide) wd_154 (.ref (a + 7)) (fun _ => rfl) ?_
  refine r_iconst C 108 (v := 0) dX0_takeOver_107 rfl (by decide) ?_
  refine r_bipush C 110 (v := 10) dX0_takeOver_108 rfl (by decide) ?_
  refine r_cpyI C (r.px.fr (by decide) (by decide)) 113 dX0_takeOver_110 rfl wd_591 wd_491 wd_490 wd_103 (net7 hb) (net7 ha) (by decide) (by decide) (by decide) (by decide) (by decide) (Nat.le_of_ble_eq_true rfl) ?_
  refine r_nmS (fun σ110 e110 => ?_)
  have h := h σ110 e110
  refine r_aload_n (j := 1) C 114 dX0_takeOver_113 rfl rfl ?_
  refine r_get (k := 8) C cl2 117 dX0_takeOver_114 rfl (net0 hb) (by decide) wd_157 (.ref (b + 8)) (fun _ => rfl) ?_
  refine r_iconst C 118 (v := 0) dX0_takeOver_117 rfl (by decide) ?_
  refine r_aload_n (j := 0) C 119 dX0_takeOver_118 rfl rfl ?_
  refine r_get (k := 8) C cl2 122 dX0_takeOver_119 rfl (net0 ha) (by decide) wd_157 (.ref (a + 8)) (fun _ => rfl) ?_
  refine r_iconst C 123 (v := 0) dX0_takeOver_122 rfl (by decide) ?_
  refine r_bipush C 125 (v := 10) dX0_takeOver_123 rfl (by decide) ?_
  refine r_cpyI C (r.px.fr (by decide) (by decide)) 128 dX0_takeOver_125 rfl wd_591 wd_491 wd_490 wd_103 (net8 hb) (net8 ha) (by decide) (by decide) (by decide) (by decide) (by decide) (Nat.le_of_ble_eq_true rfl) ?_
  refine r_nmS (fun σ125 e125 => ?_)
  have h := h σ125 e125
  refine r_aload_n (j := 1) C 129 dX0_takeOver_128 rfl rfl ?_
  refine r_get (k := 9) C cl2 132 dX0_takeOver_129 rfl (net0 hb) (by decide) wd_160 (.ref (b + 9)) (fun _ => rfl) ?_
  refine r_iconst C 133 (v := 0) dX0_takeOver_132 rfl (by decide) ?_
  refine r_aload_n (j := 0) C 134 dX0_takeOver_133 rfl rfl ?_
  refine r_get (k := 9) C cl2 137 dX0_takeOver_134 rfl (net0 ha) (by decide) wd_160 (.ref (a + 9)) (fun _ => rfl) ?_
  refine r_iconst C 138 (v := 0) dX0_takeOver_137 rfl (by decide) ?_
  refine r_bipush C 140 (v := 10) dX0_takeOver_138 rfl (by decide) ?_
  refine r_cpyI C (r.px.fr (by decide) (by decide)) 143 dX0_takeOver_140 rfl wd_591 wd_491 wd_490 wd_103 (net9 hb) (net9 ha) (by decide) (by decide) (by decide) (by decide) (by decide) (Nat.le_of_ble_eq_true rfl) ?_
  refine r_nmS (fun σ140 e140 => ?_)
  have h := h σ140 e140
  refine r_aload_n (j := 1) C 144 dX0_takeOver_143 rfl rfl ?_
  refine r_get (k := 10) C cl2 147 dX0_takeOver_144 rfl (net0 hb) (by decide) wd_162 (.ref (b + 10)) (fun _ => rfl) ?_
  refine r_iconst C 148 (v := 0) dX0_takeOver_147 rfl (by decide) ?_
  refine r_aload_n (j := 0) C 149 dX0_takeOver_148 rfl rfl ?_
  refine r_get (k := 10) C cl2 152 dX0_takeOver_149 rfl (net0 ha) (by decide) wd_162 (.ref (a + 10)) (fun _ => rfl) ?_
  refine r_iconst C 153 (v := 0) dX0_takeOver_152 rfl (by decide) ?_
  refine r_bipush C 155 (v := 10) dX0_takeOver_153 rfl (by decide) ?_
  refine r_cpyI C (r.px.fr (by decide) (by decide)) 158 dX0_takeOver_155 rfl wd_591 wd_491 wd_490 wd_103 (net10 hb) (net10 ha) (by decide) (by decide) (by decide) (by decide) (by decide) (Nat.le_of_ble_eq_true rfl) ?_
  refine r_nmS (fun σ155 e155 => ?_)
  have h := h σ155 e155
  refine r_aload_n (j := 1) C 159 dX0_takeOver_158 rfl rfl ?_
  refine r_get (k := 11) C cl2 162 dX0_takeOver_159 rfl (net0 hb) (by decide) wd_164 (.ref (b + 11)) (fun _ => rfl) ?_
  refine r_iconst C 163 (v := 0) dX0_takeOver_162 rfl (by decide) ?_
  refine r_aload_n (j := 0) C 164 dX0_takeOver_163 rfl rfl ?_
  refine r_get (k := 11) C cl2 167 dX0_takeOver_164 rfl (net0 ha) (by decide) wd_164 (.ref (a + 11)) (fun _ => rfl) ?_
  refine r_iconst C 168 (v := 0) dX0_takeOver_167 rfl (by decide) ?_
  refine r_bipush C 170 (v := 10) dX0_takeOver_168 rfl (by decide) ?_
  refine r_cpyL C (r.px.fr (by decide) (by decide)) 173 dX0_takeOver_170 rfl wd_591 wd_491 wd_490 wd_103 (net11 hb) (net11 ha) (by decide) (by decide) (by decide) (by decide) (by decide) (Nat.le_of_ble_eq_true rfl) ?_
  refine r_nmS (fun σ170 e170 => ?_)
  have h := h σ170 e170
  refine r_aload_n (j := 1) C 174 dX0_takeOver_173 rfl rfl ?_
  refine r_get (k := 12) C cl2 177 dX0_takeOver_174 rfl (net0 hb) (by decide) wd_166 (.ref (b + 12)) (fun _ => rfl) ?_
  refine r_iconst C 178 (v := 0) dX0_takeOver_177 rfl (by decide) ?_
  refine r_aload_n (j := 0) C 179 dX0_takeOver_178 rfl rfl ?_
  refine r_get (k := 12) C cl2 182 dX0_takeOver_179 rfl (net0 ha) (by decide) wd_166 (.ref (a + 12)) (fun _ => rfl) ?_
  refine r_iconst C 183 (v := 0) dX0_takeOver_182 rfl (by decide) ?_
  refine r_bipush C 185 (v := 10) dX0_takeOver_183 rfl (by decide) ?_
  refine r_cpyL C (r.px.fr (by decide) (by decide)) 188 dX0_takeOver_185 rfl wd_591 wd_491 wd_490 wd_103 (net12 hb) (net12 ha) (by decide) (by decide) (by decide) (by decide) (by decide) (Nat.le_of_ble_eq_true rfl) ?_
  refine r_nmS (fun σ185 e185 => ?_)
  have h := h σ185 e185
  refine r_aload_n (j := 1) C 189 dX0_takeOver_188 rfl rfl ?_
  refine r_get (k := 13) C cl2 192 dX0_takeOver_189 rfl (net0 hb) (by decide) wd_168 (.ref (b + 13)) (fun _ => rfl) ?_
  refine r_iconst C 193 (v := 0) dX0_takeOver_192 rfl (by decide) ?_
  refine r_aload_n (j := 0) C 194 dX0_takeOver_193 rfl rfl ?_
  refine r_get (k := 13) C cl2 197 dX0_takeOver_194 rfl (net0 ha) (by decide) wd_168 (.ref (a + 13)) (fun _ => rfl) ?_
  refine r_iconst C 198 (v := 0) dX0_takeOver_197 rfl (by decide) ?_
  refine r_bipush C 200 (v := 10) dX0_takeOver_198 rfl (by decide) ?_
  refine r_cpyL C (r.px.fr (by decide) (by decide)) 203 dX0_takeOver_200 rfl wd_591 wd_491 wd_490 wd_103 (net13 hb) (net13 ha) (by decide) (by decide) (by decide) (by decide) (by decide) (Nat.le_of_ble_eq_true rfl) ?_
  refine r_nmS (fun σ200 e200 => ?_)
  have h := h σ200 e200
  refine r_aload_n (j := 0) C 204 dX0_takeOver_203 rfl rfl ?_
  refine r_aload_n (j := 1) C 205 dX0_takeOver_204 rfl rfl ?_
  refine r_get (k := 14) C cl2 208 dX0_takeOver_205 rfl (net0 hb) (by decide) wd_170 (.long (σ200.2.1 b 14)) (fun _ => rfl) ?_
  refine r_putL (k := 14) C cl2 211 dX0_takeOver_208 rfl (net0 ha) (by decide) wd_170 rfl rfl ?_
  refine r_nmS (fun σ208 e208 => ?_)
  have h := h σ208 e208
  refine r_aload_n (j := 0) C 212 dX0_takeOver_211 rfl rfl ?_
  refine r_aload_n (j := 1) C 213 dX0_takeOver_212 rfl rfl ?_
  refine r_get (k := 15) C cl2 216 dX0_takeOver_213 rfl (net0 hb) (by decide) wd_172 (.long (σ208.2.1 b 15)) (fun _ => rfl) ?_
  refine r_putL (k := 15) C cl2 219 dX0_takeOver_216 rfl (net0 ha) (by decide) wd_172 rfl rfl ?_
  refine r_nmS (fun σ216 e216 => ?_)
  have h := h σ216 e216
  refine r_aload_n (j := 0) C 220 dX0_takeOver_219 rfl rfl ?_
  refine r_aload_n (j := 1) C 221 dX0_takeOver_220 rfl rfl ?_
  refine r_get (k := 16) C cl2 224 dX0_takeOver_221 rfl (net0 hb) (by decide) wd_174 (.long (σ216.2.1 b 16)) (fun _ => rfl) ?_
  refine r_putL (k := 16) C cl2 227 dX0_takeOver_224 rfl (net0 ha) (by decide) wd_174 rfl rfl ?_
  refine r_nmS (fun σ224 e224 => ?_)
  have h := h σ224 e224
  refine r_aload_n (j := 0) C 228 dX0_takeOver_227 rfl rfl ?_
  refine r_aload_n (j := 1) C 229 dX0_takeOver_228 rfl rfl ?_
  refine r_get (k := 17) C cl2 232 dX0_takeOver_229 rfl (net0 hb) (by decide) wd_176 (.long (σ224.2.1 b 17)) (fun _ => rfl) ?_
  refine r_putL (k := 17) C cl2 235 dX0_takeOver_232 rfl (net0 ha) (by decide) wd_176 rfl rfl ?_
  refine r_nmS (fun σ232 e232 => ?_)
  have h := h σ232 e232
  exact r_vret (S := []) C r dX0_takeOver_235 (by decide) h
theorem ct_X0_takeOver (a : Nat) (b : Nat) (σ : Mem) (K : Mem → Prop) (X : String → Mem → Prop) (h : sp_X0_takeOver a b σ K X) : CtV yX0_takeOver cX0_takeOver 2 none 1 0 [.ref a, .ref b] σ K X := by
  obtain ⟨ha, hb, h⟩ := h
  exact ctV_of (by decide +kernel) (Nat.le_of_ble_eq_true rfl) (fun x C r => sg_X0_takeOver_0 C r a b ha hb σ h)
/-! HeatNetwork$Shape.isLoopBeginning(I)Z: level 1, exceptions 0 -/
def sp_X1_isLoopBeginning (p0 : Int32) (σ : Mem) (K : Int32 → Mem → Prop) (X : String → Mem → Prop) : Prop := (((σ.1 44 8) ≤ 0 → K 0 σ) ∧ (¬ (σ.1 44 8) ≤ 0 → (¬ (σ.1 50 0) = p0 → K 0 σ) ∧ ((σ.1 50 0) = p0 → K 1 σ)))
set_option maxRecDepth 4000 in
theorem sg_X1_isLoopBeginning_0 {x : Ctx} {K : Int32 → Mem → Prop} {X : String → Mem → Prop} (C : Cx x RX1 cX1_isLoopBeginning 2) (r : RtI x 1 0 (some .boolean) K X) (p0 : Int32)  (σ : Mem) (h : ((σ.1 44 8) ≤ 0 → K 0 σ) ∧ (¬ (σ.1 44 8) ≤ 0 → (¬ (σ.1 50 0) = p0 → K 0 σ) ∧ ((σ.1 50 0) = p0 → K 1 σ))) : Ws x 0 0 [(0, .ref 44), (1, .int p0)] [] σ := by
  refine r_aload_n (j := 0) C 1 dX1_isLoopBeginning_0 rfl rfl ?_
  refine r_get (k := 8) C cl3 4 dX1_isLoopBeginning_1 rfl kd_44 (by decide) wd_243 (.int (σ.1 44 8)) (fun _ => rfl) ?_
  refine r_if_le C 21 7 dX1_isLoopBeginning_4 (by decide) rfl (fun c4 => ?_) (fun c4 => ?_)
  · have h := h.1 c4
    refine r_iconst C 22 (v := 0) dX1_isLoopBeginning_21 rfl (by decide) ?_
    exact r_iret (S := []) C r dX1_isLoopBeginning_22 (by decide) (by decide) h
  · have h := h.2 c4
    refine r_aload_n (j := 0) C 8 dX1_isLoopBeginning_7 rfl rfl ?_
    refine r_get (k := 6) C cl3 11 dX1_isLoopBeginning_8 rfl kd_44 (by decide) wd_238 (.ref 50) (fun _ => rfl) ?_
    refine r_iconst C 12 (v := 0) dX1_isLoopBeginning_11 rfl (by decide) ?_
    refine r_iald C 13 dX1_isLoopBeginning_12 rfl kd_50 (n_inR (n := 0) (by decide) (by decide)) ?_
    refine r_iload_n (j := 1) C 14 dX1_isLoopBeginning_13 rfl rfl ?_
    refine r_icmp_ne C 21 17 dX1_isLoopBeginning_14 (by decide) rfl (fun c14 => ?_) (fun c14 => ?_)
    · have h := h.1 c14
      refine r_iconst C 22 (v := 0) dX1_isLoopBeginning_21 rfl (by decide) ?_
      exact r_iret (S := []) C r dX1_isLoopBeginning_22 (by decide) (by decide) h
    · have h := h.2 c14
      refine r_iconst C 18 (v := 1) dX1_isLoopBeginning_17 rfl (by decide) ?_
      refine r_goto C 22 dX1_isLoopBeginning_18 (by decide) ?_
      exact r_iret (S := []) C r dX1_isLoopBeginning_22 (by decide) (by decide) h
theorem ct_X1_isLoopBeginning (p0 : Int32) (σ : Mem) (K : Int32 → Mem → Prop) (X : String → Mem → Prop) (h : sp_X1_isLoopBeginning p0 σ K X) : CtI yX1_isLoopBeginning cX1_isLoopBeginning 2 (some .boolean) 1 0 [.ref 44, .int p0] σ K X := by
  have h := h
  exact ctI_of (by decide +kernel) (Nat.le_of_ble_eq_true rfl) (fun x C r => sg_X1_isLoopBeginning_0 C r p0  σ h)
/-! HeatNetwork$State.madeHeat(LHeatNetwork$Network;)J: level 1, exceptions 0 -/
def sp_X2_madeHeat (t : Nat) (a : Nat) (σ : Mem) (K : Int64 → Mem → Prop) (X : String → Mem → Prop) : Prop := (StaA t) ∧ (NetA a) ∧ (K ((σ.2.1 (t + 8) 0) * (((σ.1 (a + 1) 0) - (σ.1 (t + 7) 0))).toInt64) σ)
set_option maxRecDepth 4000 in
theorem sg_X2_madeHeat_0 {x : Ctx} {K : Int64 → Mem → Prop} {X : String → Mem → Prop} (C : Cx x RX2 cX2_madeHeat 2) (r : RtL x 1 0 (some .long) K X) (t : Nat) (a : Nat) (ht : StaA t) (ha : NetA a) (σ : Mem) (h : K ((σ.2.1 (t + 8) 0) * (((σ.1 (a + 1) 0) - (σ.1 (t + 7) 0))).toInt64) σ) : Ws x 0 0 [(0, .ref t), (1, .ref a)] [] σ := by
  refine r_aload_n (j := 0) C 1 dX2_madeHeat_0 rfl rfl ?_
  refine r_get (k := 7) C cl4 4 dX2_madeHeat_1 rfl (sta0 ht) (by decide) wd_287 (.ref (t + 8)) (fun _ => rfl) ?_
  refine r_iconst C 5 (v := 0) dX2_madeHeat_4 rfl (by decide) ?_
  refine r_lald C 6 dX2_madeHeat_5 rfl (sta8 ht) (n_inR (n := 0) (by decide) (by decide)) ?_
  refine r_aload_n (j := 1) C 7 dX2_madeHeat_6 rfl rfl ?_
  refine r_get (k := 0) C cl2 10 dX2_madeHeat_7 rfl (net0 ha) (by decide) wd_135 (.ref (a + 1)) (fun _ => rfl) ?_
  refine r_iconst C 11 (v := 0) dX2_madeHeat_10 rfl (by decide) ?_
  refine r_iald C 12 dX2_madeHeat_11 rfl (net1 ha) (n_inR (n := 0) (by decide) (by decide)) ?_
  refine r_aload_n (j := 0) C 13 dX2_madeHeat_12 rfl rfl ?_
  refine r_get (k := 6) C cl4 16 dX2_madeHeat_13 rfl (sta0 ht) (by decide) wd_285 (.ref (t + 7)) (fun _ => rfl) ?_
  refine r_iconst C 17 (v := 0) dX2_madeHeat_16 rfl (by decide) ?_
  refine r_iald C 18 dX2_madeHeat_17 rfl (sta7 ht) (n_inR (n := 0) (by decide) (by decide)) ?_
  refine r_isub C 19 dX2_madeHeat_18 rfl ?_
  refine r_i2l C 20 dX2_madeHeat_19 rfl ?_
  refine r_lmul C 21 dX2_madeHeat_20 rfl ?_
  exact r_lret (S := []) C r dX2_madeHeat_21 (by decide) h
theorem ct_X2_madeHeat (t : Nat) (a : Nat) (σ : Mem) (K : Int64 → Mem → Prop) (X : String → Mem → Prop) (h : sp_X2_madeHeat t a σ K X) : CtL yX2_madeHeat cX2_madeHeat 2 (some .long) 1 0 [.ref t, .ref a] σ K X := by
  obtain ⟨ht, ha, h⟩ := h
  exact ctL_of (by decide +kernel) (Nat.le_of_ble_eq_true rfl) (fun x C r => sg_X2_madeHeat_0 C r t a ht ha σ h)
/-! HeatNetwork$State.stationHeat(LHeatNetwork$Network;I)J: level 1, exceptions 0 -/
def sp_X2_stationHeat (t : Nat) (a : Nat) (p1 : Int32) (σ : Mem) (K : Int64 → Mem → Prop) (X : String → Mem → Prop) : Prop := (StaA t) ∧ (NetA a) ∧ ((vp_in p1 10) ∧ ((vp_in p1 10) ∧ ((vp_in p1 10) ∧ (K (((σ.1 (t + 1) p1.toNatClampNeg)).toInt64 * (((σ.1 (t + 6) p1.toNatClampNeg) - (σ.1 (a + 7) p1.toNatClampNeg))).toInt64) σ))))
set_option maxRecDepth 4000 in
theorem sg_X2_stationHeat_0 {x : Ctx} {K : Int64 → Mem → Prop} {X : String → Mem → Prop} (C : Cx x RX2 cX2_stationHeat 3) (r : RtL x 1 0 (some .long) K X) (t : Nat) (a : Nat) (p1 : Int32) (ht : StaA t) (ha : NetA a) (σ : Mem) (h : (vp_in p1 10) ∧ ((vp_in p1 10) ∧ ((vp_in p1 10) ∧ (K (((σ.1 (t + 1) p1.toNatClampNeg)).toInt64 * (((σ.1 (t + 6) p1.toNatClampNeg) - (σ.1 (a + 7) p1.toNatClampNeg))).toInt64) σ)))) : Ws x 0 0 [(0, .ref t), (1, .ref a), (2, .int p1)] [] σ := by
  refine r_aload_n (j := 0) C 1 dX2_stationHeat_0 rfl rfl ?_
  refine r_get (k := 0) C cl4 4 dX2_stationHeat_1 rfl (sta0 ht) (by decide) wd_276 (.ref (t + 1)) (fun _ => rfl) ?_
  refine r_iload_n (j := 2) C 5 dX2_stationHeat_4 rfl rfl ?_
  obtain ⟨o5, h⟩ := h
  refine r_iald C 6 dX2_stationHeat_5 rfl (sta1 ht) o5 ?_
  refine r_i2l C 7 dX2_stationHeat_6 rfl ?_
  refine r_aload_n (j := 0) C 8 dX2_stationHeat_7 rfl rfl ?_
  refine r_get (k := 5) C cl4 11 dX2_stationHeat_8 rfl (sta0 ht) (by decide) wd_283 (.ref (t + 6)) (fun _ => rfl) ?_
  refine r_iload_n (j := 2) C 12 dX2_stationHeat_11 rfl rfl ?_
  obtain ⟨o12, h⟩ := h
  refine r_iald C 13 dX2_stationHeat_12 rfl (sta6 ht) o12 ?_
  refine r_aload_n (j := 1) C 14 dX2_stationHeat_13 rfl rfl ?_
  refine r_get (k := 7) C cl2 17 dX2_stationHeat_14 rfl (net0 ha) (by decide) wd_155 (.ref (a + 7)) (fun _ => rfl) ?_
  refine r_iload_n (j := 2) C 18 dX2_stationHeat_17 rfl rfl ?_
  obtain ⟨o18, h⟩ := h
  refine r_iald C 19 dX2_stationHeat_18 rfl (net7 ha) o18 ?_
  refine r_isub C 20 dX2_stationHeat_19 rfl ?_
  refine r_i2l C 21 dX2_stationHeat_20 rfl ?_
  refine r_lmul C 22 dX2_stationHeat_21 rfl ?_
  exact r_lret (S := []) C r dX2_stationHeat_22 (by decide) h
theorem ct_X2_stationHeat (t : Nat) (a : Nat) (p1 : Int32) (σ : Mem) (K : Int64 → Mem → Prop) (X : String → Mem → Prop) (h : sp_X2_stationHeat t a p1 σ K X) : CtL yX2_stationHeat cX2_stationHeat 3 (some .long) 1 0 [.ref t, .ref a, .int p1] σ K X := by
  obtain ⟨ht, ha, h⟩ := h
  exact ctL_of (by decide +kernel) (Nat.le_of_ble_eq_true rfl) (fun x C r => sg_X2_stationHeat_0 C r t a p1 ht ha σ h)
/-! HeatNetwork$Text.nextSign()C: level 1, exceptions 0 -/
def sp_X3_nextSign  (σ : Mem) (K : Int32 → Mem → Prop) (X : String → Mem → Prop) : Prop := (((σ.1 79 1) ≤ (σ.1 79 2) → K 0 σ) ∧ (¬ (σ.1 79 1) ≤ (σ.1 79 2) → (vp_in (σ.1 79 2) 60) ∧ ((narrow .char (.int (σ.1 80 ((σ.1 79 2)).toNatClampNeg)) = .int (σ.1 80 ((σ.1 79 2)).toNatClampNeg)) ∧ K (σ.1 80 ((σ.1 79 2)).toNatClampNeg) σ)))
set_option maxRecDepth 4000 in
theorem sg_X3_nextSign_0 {x : Ctx} {K : Int32 → Mem → Prop} {X : String → Mem → Prop} (C : Cx x RX3 cX3_nextSign 1) (r : RtI x 1 0 (some .char) K X)   (σ : Mem) (h : ((σ.1 79 1) ≤ (σ.1 79 2) → K 0 σ) ∧ (¬ (σ.1 79 1) ≤ (σ.1 79 2) → (vp_in (σ.1 79 2) 60) ∧ ((narrow .char (.int (σ.1 80 ((σ.1 79 2)).toNatClampNeg)) = .int (σ.1 80 ((σ.1 79 2)).toNatClampNeg)) ∧ K (σ.1 80 ((σ.1 79 2)).toNatClampNeg) σ))) : Ws x 0 0 [(0, .ref 79)] [] σ := by
  refine r_aload_n (j := 0) C 1 dX3_nextSign_0 rfl rfl ?_
  refine r_get (k := 2) C cl5 4 dX3_nextSign_1 rfl kd_79 (by decide) wd_338 (.int (σ.1 79 2)) (fun _ => rfl) ?_
  refine r_aload_n (j := 0) C 5 dX3_nextSign_4 rfl rfl ?_
  refine r_get (k := 1) C cl5 8 dX3_nextSign_5 rfl kd_79 (by decide) wd_336 (.int (σ.1 79 1)) (fun _ => rfl) ?_
  refine r_icmp_ge C 23 11 dX3_nextSign_8 (by decide) rfl (fun c8 => ?_) (fun c8 => ?_)
  · have h := h.1 c8
    refine r_iconst C 24 (v := 0) dX3_nextSign_23 rfl (by decide) ?_
    exact r_iret (S := []) C r dX3_nextSign_24 (by decide) (by decide) h
  · have h := h.2 c8
    refine r_aload_n (j := 0) C 12 dX3_nextSign_11 rfl rfl ?_
    refine r_get (k := 0) C cl5 15 dX3_nextSign_12 rfl kd_79 (by decide) wd_334 (.ref 80) (fun _ => rfl) ?_
    refine r_aload_n (j := 0) C 16 dX3_nextSign_15 rfl rfl ?_
    refine r_get (k := 2) C cl5 19 dX3_nextSign_16 rfl kd_79 (by decide) wd_338 (.int (σ.1 79 2)) (fun _ => rfl) ?_
    obtain ⟨o19, h⟩ := h
    refine r_cald C 20 dX3_nextSign_19 rfl kd_80 o19 ?_
    refine r_goto C 24 dX3_nextSign_20 (by decide) ?_
    exact r_iret (S := []) C r dX3_nextSign_24 (by decide) h.1 h.2
theorem ct_X3_nextSign  (σ : Mem) (K : Int32 → Mem → Prop) (X : String → Mem → Prop) (h : sp_X3_nextSign  σ K X) : CtI yX3_nextSign cX3_nextSign 1 (some .char) 1 0 [.ref 79] σ K X := by
  have h := h
  exact ctI_of (by decide +kernel) (Nat.le_of_ble_eq_true rfl) (fun x C r => sg_X3_nextSign_0 C r   σ h)
/-! HeatNetwork$Text.valueOf(II)I: level 1, exceptions 0 -/
def sp_X3_valueOf (p0 : Int32) (p1 : Int32) (σ : Mem) (K : Int32 → Mem → Prop) (X : String → Mem → Prop) : Prop := ((vp_in ((p0 * 4) + p1) 80) ∧ (K (σ.1 82 (((p0 * 4) + p1)).toNatClampNeg) σ))
set_option maxRecDepth 4000 in
theorem sg_X3_valueOf_0 {x : Ctx} {K : Int32 → Mem → Prop} {X : String → Mem → Prop} (C : Cx x RX3 cX3_valueOf 3) (r : RtI x 1 0 (some .int) K X) (p0 : Int32) (p1 : Int32)  (σ : Mem) (h : (vp_in ((p0 * 4) + p1) 80) ∧ (K (σ.1 82 (((p0 * 4) + p1)).toNatClampNeg) σ)) : Ws x 0 0 [(0, .ref 79), (1, .int p0), (2, .int p1)] [] σ := by
  refine r_aload_n (j := 0) C 1 dX3_valueOf_0 rfl rfl ?_
  refine r_get (k := 5) C cl5 4 dX3_valueOf_1 rfl kd_79 (by decide) wd_343 (.ref 82) (fun _ => rfl) ?_
  refine r_iload_n (j := 1) C 5 dX3_valueOf_4 rfl rfl ?_
  refine r_iconst C 6 (v := 4) dX3_valueOf_5 rfl (by decide) ?_
  refine r_imul C 7 dX3_valueOf_6 rfl ?_
  refine r_iload_n (j := 2) C 8 dX3_valueOf_7 rfl rfl ?_
  refine r_iadd C 9 dX3_valueOf_8 rfl ?_
  obtain ⟨o9, h⟩ := h
  refine r_iald C 10 dX3_valueOf_9 rfl kd_82 o9 ?_
  exact r_iret (S := []) C r dX3_valueOf_10 (by decide) rfl h
theorem ct_X3_valueOf (p0 : Int32) (p1 : Int32) (σ : Mem) (K : Int32 → Mem → Prop) (X : String → Mem → Prop) (h : sp_X3_valueOf p0 p1 σ K X) : CtI yX3_valueOf cX3_valueOf 3 (some .int) 1 0 [.ref 79, .int p0, .int p1] σ K X := by
  have h := h
  exact ctI_of (by decide +kernel) (Nat.le_of_ble_eq_true rfl) (fun x C r => sg_X3_valueOf_0 C r p0 p1  σ h)
/-! HeatNetwork.faultPosition()I: level 1, exceptions 0 -/
def sp_X4_faultPosition  (σ : Mem) (K : Int32 → Mem → Prop) (X : String → Mem → Prop) : Prop := (K (σ.1 0 12) σ)
set_option maxRecDepth 4000 in
theorem sg_X4_faultPosition_0 {x : Ctx} {K : Int32 → Mem → Prop} {X : String → Mem → Prop} (C : Cx x RX4 cX4_faultPosition 1) (r : RtI x 1 0 (some .int) K X)   (σ : Mem) (h : K (σ.1 0 12) σ) : Ws x 0 0 [(0, .ref 0)] [] σ := by
  refine r_aload_n (j := 0) C 1 dX4_faultPosition_0 rfl rfl ?_
  refine r_get (k := 12) C cl6 4 dX4_faultPosition_1 rfl kd_0 (by decide) wd_370 (.int (σ.1 0 12)) (fun _ => rfl) ?_
  exact r_iret (S := []) C r dX4_faultPosition_4 (by decide) rfl h
theorem ct_X4_faultPosition  (σ : Mem) (K : Int32 → Mem → Prop) (X : String → Mem → Prop) (h : sp_X4_faultPosition  σ K X) : CtI yX4_faultPosition cX4_faultPosition 1 (some .int) 1 0 [.ref 0] σ K X := by
  have h := h
  exact ctI_of (by decide +kernel) (Nat.le_of_ble_eq_true rfl) (fun x C r => sg_X4_faultPosition_0 C r   σ h)
/-! HeatNetwork.isWithin(III)Z: level 1, exceptions 0 -/
def sp_X4_isWithin (p0 : Int32) (p1 : Int32) (p2 : Int32) (σ : Mem) (K : Int32 → Mem → Prop) (X : String → Mem → Prop) : Prop := ((p0 < p1 → K 0 σ) ∧ (¬ p0 < p1 → (p2 < p0 → K 0 σ) ∧ (¬ p2 < p0 → K 1 σ)))
set_option maxRecDepth 4000 in
theorem sg_X4_isWithin_0 {x : Ctx} {K : Int32 → Mem → Prop} {X : String → Mem → Prop} (C : Cx x RX4 cX4_isWithin 3) (r : RtI x 1 0 (some .boolean) K X) (p0 : Int32) (p1 : Int32) (p2 : Int32)  (σ : Mem) (h : (p0 < p1 → K 0 σ) ∧ (¬ p0 < p1 → (p2 < p0 → K 0 σ) ∧ (¬ p2 < p0 → K 1 σ))) : Ws x 0 0 [(0, .int p0), (1, .int p1), (2, .int p2)] [] σ := by
  refine r_iload_n (j := 0) C 1 dX4_isWithin_0 rfl rfl ?_
  refine r_iload_n (j := 1) C 2 dX4_isWithin_1 rfl rfl ?_
  refine r_icmp_lt C 14 5 dX4_isWithin_2 (by decide) rfl (fun c2 => ?_) (fun c2 => ?_)
  · have h := h.1 c2
    refine r_iconst C 15 (v := 0) dX4_isWithin_14 rfl (by decide) ?_
    exact r_iret (S := []) C r dX4_isWithin_15 (by decide) (by decide) h
  · have h := h.2 c2
    refine r_iload_n (j := 0) C 6 dX4_isWithin_5 rfl rfl ?_
    refine r_iload_n (j := 2) C 7 dX4_isWithin_6 rfl rfl ?_
    refine r_icmp_gt C 14 10 dX4_isWithin_7 (by decide) rfl (fun c7 => ?_) (fun c7 => ?_)
    · have h := h.1 c7
      refine r_iconst C 15 (v := 0) dX4_isWithin_14 rfl (by decide) ?_
      exact r_iret (S := []) C r dX4_isWithin_15 (by decide) (by decide) h
    · have h := h.2 c7
      refine r_iconst C 11 (v := 1) dX4_isWithin_10 rfl (by decide) ?_
      refine r_goto C 15 dX4_isWithin_11 (by decide) ?_
      exact r_iret (S := []) C r dX4_isWithin_15 (by decide) (by decide) h
theorem ct_X4_isWithin (p0 : Int32) (p1 : Int32) (p2 : Int32) (σ : Mem) (K : Int32 → Mem → Prop) (X : String → Mem → Prop) (h : sp_X4_isWithin p0 p1 p2 σ K X) : CtI yX4_isWithin cX4_isWithin 3 (some .boolean) 1 0 [.int p0, .int p1, .int p2] σ K X := by
  have h := h
  exact ctI_of (by decide +kernel) (Nat.le_of_ble_eq_true rfl) (fun x C r => sg_X4_isWithin_0 C r p0 p1 p2  σ h)
/-! HeatNetworkModel.faultPosition()I: level 1, exceptions 0 -/
def sp_X5_faultPosition  (σ : Mem) (K : Int32 → Mem → Prop) (X : String → Mem → Prop) : Prop := (∀ σ2 : Mem, σ2 = wi σ 209 0 0 → K (σ2.1 209 14) σ2)
set_option maxRecDepth 4000 in
theorem sg_X5_faultPosition_0 {x : Ctx} {K : Int32 → Mem → Prop} {X : String → Mem → Prop} (C : Cx x RX5 cX5_faultPosition 1) (r : RtI x 1 0 (some .int) K X)   (σ : Mem) (h : ∀ σ2 : Mem, σ2 = wi σ 209 0 0 → K (σ2.1 209 14) σ2) : Ws x 0 0 [(0, .ref 209)] [] σ := by
  refine r_aload_n (j := 0) C 1 dX5_faultPosition_0 rfl rfl ?_
  refine r_iconst C 2 (v := 0) dX5_faultPosition_1 rfl (by decide) ?_
  refine r_putI (k := 0) C cl7 5 dX5_faultPosition_2 rfl kd_209 (by decide) wd_1212 rfl rfl rfl rfl ?_
  refine r_nmS (fun σ2 e2 => ?_)
  have h := h σ2 e2
  refine r_aload_n (j := 0) C 6 dX5_faultPosition_5 rfl rfl ?_
  refine r_get (k := 14) C cl7 9 dX5_faultPosition_6 rfl kd_209 (by decide) wd_1226 (.int (σ2.1 209 14)) (fun _ => rfl) ?_
  exact r_iret (S := []) C r dX5_faultPosition_9 (by decide) rfl h
theorem ct_X5_faultPosition  (σ : Mem) (K : Int32 → Mem → Prop) (X : String → Mem → Prop) (h : sp_X5_faultPosition  σ K X) : CtI yX5_faultPosition cX5_faultPosition 1 (some .int) 1 0 [.ref 209] σ K X := by
  have h := h
  exact ctI_of (by decide +kernel) (Nat.le_of_ble_eq_true rfl) (fun x C r => sg_X5_faultPosition_0 C r   σ h)
/-! HeatNetworkModel.here()I: level 1, exceptions 0 -/
def sp_X5_here  (σ : Mem) (K : Int32 → Mem → Prop) (X : String → Mem → Prop) : Prop := (((σ.1 209 12) ≤ (σ.1 209 13) → K 0 σ) ∧ (¬ (σ.1 209 12) ≤ (σ.1 209 13) → (vp_in (σ.1 209 13) 60) ∧ (K (σ.1 218 ((σ.1 209 13)).toNatClampNeg) σ)))
set_option maxRecDepth 4000 in
theorem sg_X5_here_0 {x : Ctx} {K : Int32 → Mem → Prop} {X : String → Mem → Prop} (C : Cx x RX5 cX5_here 1) (r : RtI x 1 0 (some .int) K X)   (σ : Mem) (h : ((σ.1 209 12) ≤ (σ.1 209 13) → K 0 σ) ∧ (¬ (σ.1 209 12) ≤ (σ.1 209 13) → (vp_in (σ.1 209 13) 60) ∧ (K (σ.1 218 ((σ.1 209 13)).toNatClampNeg) σ))) : Ws x 0 0 [(0, .ref 209)] [] σ := by
  refine r_aload_n (j := 0) C 1 dX5_here_0 rfl rfl ?_
  refine r_get (k := 13) C cl7 4 dX5_here_1 rfl kd_209 (by decide) wd_1225 (.int (σ.1 209 13)) (fun _ => rfl) ?_
  refine r_aload_n (j := 0) C 5 dX5_here_4 rfl rfl ?_
  refine r_get (k := 12) C cl7 8 dX5_here_5 rfl kd_209 (by decide) wd_1224 (.int (σ.1 209 12)) (fun _ => rfl) ?_
  refine r_icmp_ge C 23 11 dX5_here_8 (by decide) rfl (fun c8 => ?_) (fun c8 => ?_)
  · have h := h.1 c8
    refine r_iconst C 24 (v := 0) dX5_here_23 rfl (by decide) ?_
    exact r_iret (S := []) C r dX5_here_24 (by decide) rfl h
  · have h := h.2 c8
    refine r_aload_n (j := 0) C 12 dX5_here_11 rfl rfl ?_
    refine r_get (k := 11) C cl7 15 dX5_here_12 rfl kd_209 (by decide) wd_1223 (.ref 218) (fun _ => rfl) ?_
    refine r_aload_n (j := 0) C 16 dX5_here_15 rfl rfl ?_
    refine r_get (k := 13) C cl7 19 dX5_here_16 rfl kd_209 (by decide) wd_1225 (.int (σ.1 209 13)) (fun _ => rfl) ?_
    obtain ⟨o19, h⟩ := h
    refine r_iald C 20 dX5_here_19 rfl kd_218 o19 ?_
    refine r_goto C 24 dX5_here_20 (by decide) ?_
    exact r_iret (S := []) C r dX5_here_24 (by decide) rfl h
theorem ct_X5_here  (σ : Mem) (K : Int32 → Mem → Prop) (X : String → Mem → Prop) (h : sp_X5_here  σ K X) : CtI yX5_here cX5_here 1 (some .int) 1 0 [.ref 209] σ K X := by
  have h := h
  exact ctI_of (by decide +kernel) (Nat.le_of_ble_eq_true rfl) (fun x C r => sg_X5_here_0 C r   σ h)
/-! HeatNetworkModel.in(III)Z: level 1, exceptions 0 -/
def sp_X5_in (p0 : Int32) (p1 : Int32) (p2 : Int32) (σ : Mem) (K : Int32 → Mem → Prop) (X : String → Mem → Prop) : Prop := ((p0 < p1 → K 0 σ) ∧ (¬ p0 < p1 → (p2 < p0 → K 0 σ) ∧ (¬ p2 < p0 → K 1 σ)))
set_option maxRecDepth 4000 in
theorem sg_X5_in_0 {x : Ctx} {K : Int32 → Mem → Prop} {X : String → Mem → Prop} (C : Cx x RX5 cX5_in 3) (r : RtI x 1 0 (some .boolean) K X) (p0 : Int32) (p1 : Int32) (p2 : Int32)  (σ : Mem) (h : (p0 < p1 → K 0 σ) ∧ (¬ p0 < p1 → (p2 < p0 → K 0 σ) ∧ (¬ p2 < p0 → K 1 σ))) : Ws x 0 0 [(0, .int p0), (1, .int p1), (2, .int p2)] [] σ := by
  refine r_iload_n (j := 0) C 1 dX5_in_0 rfl rfl ?_
  refine r_iload_n (j := 1) C 2 dX5_in_1 rfl rfl ?_
  refine r_icmp_lt C 14 5 dX5_in_2 (by decide) rfl (fun c2 => ?_) (fun c2 => ?_)
  · have h := h.1 c2
    refine r_iconst C 15 (v := 0) dX5_in_14 rfl (by decide) ?_
    exact r_iret (S := []) C r dX5_in_15 (by decide) (by decide) h
  · have h := h.2 c2
    refine r_iload_n (j := 0) C 6 dX5_in_5 rfl rfl ?_
    refine r_iload_n (j := 2) C 7 dX5_in_6 rfl rfl ?_
    refine r_icmp_gt C 14 10 dX5_in_7 (by decide) rfl (fun c7 => ?_) (fun c7 => ?_)
    · have h := h.1 c7
      refine r_iconst C 15 (v := 0) dX5_in_14 rfl (by decide) ?_
      exact r_iret (S := []) C r dX5_in_15 (by decide) (by decide) h
    · have h := h.2 c7
      refine r_iconst C 11 (v := 1) dX5_in_10 rfl (by decide) ?_
      refine r_goto C 15 dX5_in_11 (by decide) ?_
      exact r_iret (S := []) C r dX5_in_15 (by decide) (by decide) h
theorem ct_X5_in (p0 : Int32) (p1 : Int32) (p2 : Int32) (σ : Mem) (K : Int32 → Mem → Prop) (X : String → Mem → Prop) (h : sp_X5_in p0 p1 p2 σ K X) : CtI yX5_in cX5_in 3 (some .boolean) 1 0 [.int p0, .int p1, .int p2] σ K X := by
  have h := h
  exact ctI_of (by decide +kernel) (Nat.le_of_ble_eq_true rfl) (fun x C r => sg_X5_in_0 C r p0 p1 p2  σ h)
/-! HeatNetworkModel.isLoopPipe(I)Z: level 1, exceptions 0 -/
/-- whether p is among the first n of the loop's pipes -/
def lpB (σ : Mem) (p : Int32) (n : Nat) : Bool := (List.range n).any (fun k => decide (σ.1 224 k = p))
def sp_X5_isLoopPipe (p0 : Int32) (σ : Mem) (K : Int32 → Mem → Prop) (X : String → Mem → Prop) : Prop := ∃ n : Nat, n ≤ 10 ∧ σ.1 209 22 = nI n ∧ K (if lpB σ p0 n then 1 else 0) σ
set_option maxRecDepth 4000 in
theorem sg_X5_isLoopPipe_0 {x : Ctx} {K : Int32 → Mem → Prop} {X : String → Mem → Prop} (C : Cx x RX5 cX5_isLoopPipe 3) (r : RtI x 1 0 (some .boolean) K X) (p0 : Int32)  (σ : Mem) (h : Ws x 0 2 [(0, .ref 209), (1, .int p0), (2, .int 0)] [] σ) : Ws x 0 0 [(0, .ref 209), (1, .int p0)] [] σ := by
  refine r_iconst C 1 (v := 0) dX5_isLoopPipe_0 rfl (by decide) ?_
  refine r_istore_n C 2 [(2, .int 0), (0, .ref 209), (1, .int p0)] dX5_isLoopPipe_1 rfl (by decide) rfl ?_
  exact Ws_pick [1, 2, 0] rfl h
set_option maxRecDepth 4000 in
theorem sg_X5_isLoopPipe_2 {x : Ctx} {K : Int32 → Mem → Prop} {X : String → Mem → Prop} (C : Cx x RX5 cX5_isLoopPipe 3) (r : RtI x 1 0 (some .boolean) K X) (i1 : Int32) (i2 : Int32)  (σ : Mem) (h : ((σ.1 209 22) ≤ i2 → K 0 σ) ∧ (¬ (σ.1 209 22) ≤ i2 → (vp_in i2 10) ∧ ((¬ (σ.1 224 i2.toNatClampNeg) = i1 → ∀ v22 : Int32, v22 = i2 + 1 → Ws x 0 2 [(0, .ref 209), (1, .int i1), (2, .int v22)] [] σ) ∧ ((σ.1 224 i2.toNatClampNeg) = i1 → K 1 σ)))) : Ws x 0 2 [(0, .ref 209), (1, .int i1), (2, .int i2)] [] σ := by
  refine r_iload_n (j := 2) C 3 dX5_isLoopPipe_2 rfl rfl ?_
  refine r_aload_n (j := 0) C 4 dX5_isLoopPipe_3 rfl rfl ?_
  refine r_get (k := 22) C cl7 7 dX5_isLoopPipe_4 rfl kd_209 (by decide) wd_1234 (.int (σ.1 209 22)) (fun _ => rfl) ?_
  refine r_icmp_ge C 28 10 dX5_isLoopPipe_7 (by decide) rfl (fun c7 => ?_) (fun c7 => ?_)
  · have h := h.1 c7
    refine r_iconst C 29 (v := 0) dX5_isLoopPipe_28 rfl (by decide) ?_
    exact r_iret (S := []) C r dX5_isLoopPipe_29 (by decide) (by decide) h
  · have h := h.2 c7
    refine r_aload_n (j := 0) C 11 dX5_isLoopPipe_10 rfl rfl ?_
    refine r_get (k := 21) C cl7 14 dX5_isLoopPipe_11 rfl kd_209 (by decide) wd_1233 (.ref 224) (fun _ => rfl) ?_
    refine r_iload_n (j := 2) C 15 dX5_isLoopPipe_14 rfl rfl ?_
    obtain ⟨o15, h⟩ := h
    refine r_iald C 16 dX5_isLoopPipe_15 rfl kd_224 o15 ?_
    refine r_iload_n (j := 1) C 17 dX5_isLoopPipe_16 rfl rfl ?_
    refine r_icmp_ne C 22 20 dX5_isLoopPipe_17 (by decide) rfl (fun c17 => ?_) (fun c17 => ?_)
    · have h := h.1 c17
      obtain ⟨v22, e22⟩ : ∃ y : Int32, y = i2 + 1 := ⟨_, rfl⟩
      have h := h v22 e22
      refine r_iinc (j := 2) C 25 [(2, .int v22), (0, .ref 209), (1, .int i1)] dX5_isLoopPipe_22 rfl rfl (by rw [e22]; rfl) (by decide) rfl ?_
      refine r_goto C 2 dX5_isLoopPipe_25 (by decide) ?_
      exact Ws_pick [1, 2, 0] rfl h
    · have h := h.2 c17
      refine r_iconst C 21 (v := 1) dX5_isLoopPipe_20 rfl (by decide) ?_
      exact r_iret (S := []) C r dX5_isLoopPipe_21 (by decide) (by decide) h
theorem vc_X5_isLoopPipe {x : Ctx} {K : Int32 → Mem → Prop} {X : String → Mem → Prop} (C : Cx x RX5 cX5_isLoopPipe 3) (r : RtI x 1 0 (some .boolean) K X) (p0 : Int32) (σ : Mem) (h : sp_X5_isLoopPipe p0 σ K X) : Ws x 0 0 [(0, .ref 209), (1, .int p0)] [] σ := by
  obtain ⟨n, hn, e0, h⟩ := h
  refine sg_X5_isLoopPipe_0 C r p0 σ ?_
  have H : ∀ (k : Nat) (_ : Unit), k ≤ n → lpB σ p0 k = false → Ws x 0 2 [(0, .ref 209), (1, .int p0), (2, .int (nI k))] [] σ := by
    refine cnt n (fun k _ => lpB σ p0 k = false) (fun k _ => Ws x 0 2 [(0, .ref 209), (1, .int p0), (2, .int (nI k))] [] σ) ?_ ?_
    · intro _ hl
      refine sg_X5_isLoopPipe_2 C r p0 (nI n) σ ⟨fun _ => ?_, fun c => absurd (by rw [e0]; exact nI_le (Nat.le_refl n) (by omega)) c⟩
      rw [hl] at h
      exact h
    · intro k _ hk hl ih
      refine sg_X5_isLoopPipe_2 C r p0 (nI k) σ ⟨fun c => absurd (by rw [e0] at c; exact n_le (by omega) (by omega) c) (by omega), fun _ => ⟨n_inR (by omega) (by decide), fun c v e => ?_, fun c => ?_⟩⟩
      · rw [e, nI_1]
        refine ih () ?_
        rw [n_cl (by omega)] at c
        simp only [lpB, List.range_succ, List.any_append, List.any_cons, List.any_nil, Bool.or_false] at hl ⊢
        rw [hl]; simp [c]
      · rw [n_cl (by omega)] at c
        have : lpB σ p0 n = true := by
          simp only [lpB, List.any_eq_true, List.mem_range, decide_eq_true_eq]
          exact ⟨k, hk, c⟩
        rw [this] at h
        exact h
  exact H 0 () (Nat.zero_le n) rfl
theorem ct_X5_isLoopPipe (p0 : Int32) (σ : Mem) (K : Int32 → Mem → Prop) (X : String → Mem → Prop) (h : sp_X5_isLoopPipe p0 σ K X) : CtI yX5_isLoopPipe cX5_isLoopPipe 3 (some .boolean) 1 0 [.ref 209, .int p0] σ K X :=
  ctI_of (by decide +kernel) (Nat.le_of_ble_eq_true rfl) (fun x C r => vc_X5_isLoopPipe C r p0 σ h)
/-! HeatNetworkModel.made()J: level 1, exceptions 0 -/
def sp_X5_made  (σ : Mem) (K : Int64 → Mem → Prop) (X : String → Mem → Prop) : Prop := (K ((σ.2.1 227 0) * (((σ.1 210 0) - (σ.1 230 0))).toInt64) σ)
set_option maxRecDepth 4000 in
theorem sg_X5_made_0 {x : Ctx} {K : Int64 → Mem → Prop} {X : String → Mem → Prop} (C : Cx x RX5 cX5_made 1) (r : RtL x 1 0 (some .long) K X)   (σ : Mem) (h : K ((σ.2.1 227 0) * (((σ.1 210 0) - (σ.1 230 0))).toInt64) σ) : Ws x 0 0 [(0, .ref 209)] [] σ := by
  refine r_aload_n (j := 0) C 1 dX5_made_0 rfl rfl ?_
  refine r_get (k := 25) C cl7 4 dX5_made_1 rfl kd_209 (by decide) wd_1237 (.ref 227) (fun _ => rfl) ?_
  refine r_iconst C 5 (v := 0) dX5_made_4 rfl (by decide) ?_
  refine r_lald C 6 dX5_made_5 rfl kd_227 (n_inR (n := 0) (by decide) (by decide)) ?_
  refine r_aload_n (j := 0) C 7 dX5_made_6 rfl rfl ?_
  refine r_get (k := 1) C cl7 10 dX5_made_7 rfl kd_209 (by decide) wd_1213 (.ref 210) (fun _ => rfl) ?_
  refine r_iconst C 11 (v := 0) dX5_made_10 rfl (by decide) ?_
  refine r_iald C 12 dX5_made_11 rfl kd_210 (n_inR (n := 0) (by decide) (by decide)) ?_
  refine r_aload_n (j := 0) C 13 dX5_made_12 rfl rfl ?_
  refine r_get (k := 28) C cl7 16 dX5_made_13 rfl kd_209 (by decide) wd_1240 (.ref 230) (fun _ => rfl) ?_
  refine r_iconst C 17 (v := 0) dX5_made_16 rfl (by decide) ?_
  refine r_iald C 18 dX5_made_17 rfl kd_230 (n_inR (n := 0) (by decide) (by decide)) ?_
  refine r_isub C 19 dX5_made_18 rfl ?_
  refine r_i2l C 20 dX5_made_19 rfl ?_
  refine r_lmul C 21 dX5_made_20 rfl ?_
  exact r_lret (S := []) C r dX5_made_21 (by decide) h
theorem ct_X5_made  (σ : Mem) (K : Int64 → Mem → Prop) (X : String → Mem → Prop) (h : sp_X5_made  σ K X) : CtL yX5_made cX5_made 1 (some .long) 1 0 [.ref 209] σ K X := by
  have h := h
  exact ctL_of (by decide +kernel) (Nat.le_of_ble_eq_true rfl) (fun x C r => sg_X5_made_0 C r   σ h)
/-! HeatNetworkModel.of(II)I: level 1, exceptions 0 -/
def sp_X5_of (p0 : Int32) (p1 : Int32) (σ : Mem) (K : Int32 → Mem → Prop) (X : String → Mem → Prop) : Prop := ((vp_in ((8 + (4 * p0)) + p1) 108) ∧ (K (σ.1 210 (((8 + (4 * p0)) + p1)).toNatClampNeg) σ))
set_option maxRecDepth 4000 in
theorem sg_X5_of_0 {x : Ctx} {K : Int32 → Mem → Prop} {X : String → Mem → Prop} (C : Cx x RX5 cX5_of 3) (r : RtI x 1 0 (some .int) K X) (p0 : Int32) (p1 : Int32)  (σ : Mem) (h : (vp_in ((8 + (4 * p0)) + p1) 108) ∧ (K (σ.1 210 (((8 + (4 * p0)) + p1)).toNatClampNeg) σ)) : Ws x 0 0 [(0, .ref 209), (1, .int p0), (2, .int p1)] [] σ := by
  refine r_aload_n (j := 0) C 1 dX5_of_0 rfl rfl ?_
  refine r_get (k := 1) C cl7 4 dX5_of_1 rfl kd_209 (by decide) wd_1213 (.ref 210) (fun _ => rfl) ?_
  refine r_bipush C 6 (v := 8) dX5_of_4 rfl (by decide) ?_
  refine r_iconst C 7 (v := 4) dX5_of_6 rfl (by decide) ?_
  refine r_iload_n (j := 1) C 8 dX5_of_7 rfl rfl ?_
  refine r_imul C 9 dX5_of_8 rfl ?_
  refine r_iadd C 10 dX5_of_9 rfl ?_
  refine r_iload_n (j := 2) C 11 dX5_of_10 rfl rfl ?_
  refine r_iadd C 12 dX5_of_11 rfl ?_
  obtain ⟨o12, h⟩ := h
  refine r_iald C 13 dX5_of_12 rfl kd_210 o12 ?_
  exact r_iret (S := []) C r dX5_of_13 (by decide) rfl h
theorem ct_X5_of (p0 : Int32) (p1 : Int32) (σ : Mem) (K : Int32 → Mem → Prop) (X : String → Mem → Prop) (h : sp_X5_of p0 p1 σ K X) : CtI yX5_of cX5_of 3 (some .int) 1 0 [.ref 209, .int p0, .int p1] σ K X := by
  have h := h
  exact ctI_of (by decide +kernel) (Nat.le_of_ble_eq_true rfl) (fun x C r => sg_X5_of_0 C r p0 p1  σ h)
/-! HeatNetworkModel.pipes()I: level 1, exceptions 0 -/
def sp_X5_pipes  (σ : Mem) (K : Int32 → Mem → Prop) (X : String → Mem → Prop) : Prop := (K (σ.1 210 7) σ)
set_option maxRecDepth 4000 in
theorem sg_X5_pipes_0 {x : Ctx} {K : Int32 → Mem → Prop} {X : String → Mem → Prop} (C : Cx x RX5 cX5_pipes 1) (r : RtI x 1 0 (some .int) K X)   (σ : Mem) (h : K (σ.1 210 7) σ) : Ws x 0 0 [(0, .ref 209)] [] σ := by
  refine r_aload_n (j := 0) C 1 dX5_pipes_0 rfl rfl ?_
  refine r_get (k := 1) C cl7 4 dX5_pipes_1 rfl kd_209 (by decide) wd_1213 (.ref 210) (fun _ => rfl) ?_
  refine r_bipush C 6 (v := 7) dX5_pipes_4 rfl (by decide) ?_
  refine r_iald C 7 dX5_pipes_6 rfl kd_210 (n_inR (n := 7) (by decide) (by decide)) ?_
  exact r_iret (S := []) C r dX5_pipes_7 (by decide) rfl h
theorem ct_X5_pipes  (σ : Mem) (K : Int32 → Mem → Prop) (X : String → Mem → Prop) (h : sp_X5_pipes  σ K X) : CtI yX5_pipes cX5_pipes 1 (some .int) 1 0 [.ref 209] σ K X := by
  have h := h
  exact ctI_of (by decide +kernel) (Nat.le_of_ble_eq_true rfl) (fun x C r => sg_X5_pipes_0 C r   σ h)
/-! HeatNetworkModel.raises(I)I: level 1, exceptions 0 -/
def sp_X5_raises (p0 : Int32) (σ : Mem) (K : Int32 → Mem → Prop) (X : String → Mem → Prop) : Prop := (∀ σ2 : Mem, σ2 = wi σ 209 0 p0 → K 0 σ2)
set_option maxRecDepth 4000 in
theorem sg_X5_raises_0 {x : Ctx} {K : Int32 → Mem → Prop} {X : String → Mem → Prop} (C : Cx x RX5 cX5_raises 2) (r : RtI x 1 0 (some .int) K X) (p0 : Int32)  (σ : Mem) (h : ∀ σ2 : Mem, σ2 = wi σ 209 0 p0 → K 0 σ2) : Ws x 0 0 [(0, .ref 209), (1, .int p0)] [] σ := by
  refine r_aload_n (j := 0) C 1 dX5_raises_0 rfl rfl ?_
  refine r_iload_n (j := 1) C 2 dX5_raises_1 rfl rfl ?_
  refine r_putI (k := 0) C cl7 5 dX5_raises_2 rfl kd_209 (by decide) wd_1212 rfl rfl rfl rfl ?_
  refine r_nmS (fun σ2 e2 => ?_)
  have h := h σ2 e2
  refine r_iconst C 6 (v := 0) dX5_raises_5 rfl (by decide) ?_
  exact r_iret (S := []) C r dX5_raises_6 (by decide) rfl h
theorem ct_X5_raises (p0 : Int32) (σ : Mem) (K : Int32 → Mem → Prop) (X : String → Mem → Prop) (h : sp_X5_raises p0 σ K X) : CtI yX5_raises cX5_raises 2 (some .int) 1 0 [.ref 209, .int p0] σ K X := by
  have h := h
  exact ctI_of (by decide +kernel) (Nat.le_of_ble_eq_true rfl) (fun x C r => sg_X5_raises_0 C r p0  σ h)
/-! HeatNetworkModel.thrown()I: level 1, exceptions 0 -/
def sp_X5_thrown  (σ : Mem) (K : Int32 → Mem → Prop) (X : String → Mem → Prop) : Prop := (K (σ.1 209 0) σ)
set_option maxRecDepth 4000 in
theorem sg_X5_thrown_0 {x : Ctx} {K : Int32 → Mem → Prop} {X : String → Mem → Prop} (C : Cx x RX5 cX5_thrown 1) (r : RtI x 1 0 (some .int) K X)   (σ : Mem) (h : K (σ.1 209 0) σ) : Ws x 0 0 [(0, .ref 209)] [] σ := by
  refine r_aload_n (j := 0) C 1 dX5_thrown_0 rfl rfl ?_
  refine r_get (k := 0) C cl7 4 dX5_thrown_1 rfl kd_209 (by decide) wd_1212 (.int (σ.1 209 0)) (fun _ => rfl) ?_
  exact r_iret (S := []) C r dX5_thrown_4 (by decide) rfl h
theorem ct_X5_thrown  (σ : Mem) (K : Int32 → Mem → Prop) (X : String → Mem → Prop) (h : sp_X5_thrown  σ K X) : CtI yX5_thrown cX5_thrown 1 (some .int) 1 0 [.ref 209] σ K X := by
  have h := h
  exact ctI_of (by decide +kernel) (Nat.le_of_ble_eq_true rfl) (fun x C r => sg_X5_thrown_0 C r   σ h)
/-! HeatNetworkModel.tries()V: level 1, exceptions 0 -/
def sp_X5_tries (σ : Mem) (K : Mem → Prop) (X : String → Mem → Prop) : Prop := K (cl (ci σ 210 216 0 0 108) 211 217 0 0 34)
set_option maxRecDepth 4000 in
theorem sg_X5_tries_0 {x : Ctx} {K : Mem → Prop} {X : String → Mem → Prop} (C : Cx x RX5 cX5_tries 2) (r : RtV x 1 0 none K X)   (σ : Mem) (h : Ws x 0 2 [(0, .ref 209), (1, .int 0)] [] σ) : Ws x 0 0 [(0, .ref 209)] [] σ := by
  refine r_iconst C 1 (v := 0) dX5_tries_0 rfl (by decide) ?_
  refine r_istore_n C 2 [(1, .int 0), (0, .ref 209)] dX5_tries_1 rfl (by decide) rfl ?_
  exact Ws_pick [1, 0] rfl h
set_option maxRecDepth 4000 in
theorem sg_X5_tries_2 {x : Ctx} {K : Mem → Prop} {X : String → Mem → Prop} (C : Cx x RX5 cX5_tries 2) (r : RtV x 1 0 none K X) (i1 : Int32)  (σ : Mem) (h : (108 ≤ i1 → Ws x 0 28 [(0, .ref 209), (1, .int 0)] [] σ) ∧ (¬ 108 ≤ i1 → (vp_in i1 108) ∧ ((vp_in i1 108) ∧ (∀ σ19 : Mem, σ19 = wi σ 216 i1.toNatClampNeg (σ.1 210 i1.toNatClampNeg) → ∀ v20 : Int32, v20 = i1 + 1 → Ws x 0 2 [(0, .ref 209), (1, .int v20)] [] σ19)))) : Ws x 0 2 [(0, .ref 209), (1, .int i1)] [] σ := by
  refine r_iload_n (j := 1) C 3 dX5_tries_2 rfl rfl ?_
  refine r_bipush C 5 (v := 108) dX5_tries_3 rfl (by decide) ?_
  refine r_icmp_ge C 26 8 dX5_tries_5 (by decide) rfl (fun c5 => ?_) (fun c5 => ?_)
  · have h := h.1 c5
    refine r_iconst C 27 (v := 0) dX5_tries_26 rfl (by decide) ?_
    refine r_istore_n C 28 [(1, .int 0), (0, .ref 209)] dX5_tries_27 rfl (by decide) rfl ?_
    exact Ws_pick [1, 0] rfl h
  · have h := h.2 c5
    refine r_aload_n (j := 0) C 9 dX5_tries_8 rfl rfl ?_
    refine r_get (k := 9) C cl7 12 dX5_tries_9 rfl kd_209 (by decide) wd_1221 (.ref 216) (fun _ => rfl) ?_
    refine r_iload_n (j := 1) C 13 dX5_tries_12 rfl rfl ?_
    refine r_aload_n (j := 0) C 14 dX5_tries_13 rfl rfl ?_
    refine r_get (k := 1) C cl7 17 dX5_tries_14 rfl kd_209 (by decide) wd_1213 (.ref 210) (fun _ => rfl) ?_
    refine r_iload_n (j := 1) C 18 dX5_tries_17 rfl rfl ?_
    obtain ⟨o18, h⟩ := h
    refine r_iald C 19 dX5_tries_18 rfl kd_210 o18 ?_
    obtain ⟨o19, h⟩ := h
    refine r_iast C 20 dX5_tries_19 rfl kd_216 o19 ?_
    refine r_nmS (fun σ19 e19 => ?_)
    have h := h σ19 e19
    obtain ⟨v20, e20⟩ : ∃ y : Int32, y = i1 + 1 := ⟨_, rfl⟩
    have h := h v20 e20
    refine r_iinc (j := 1) C 23 [(1, .int v20), (0, .ref 209)] dX5_tries_20 rfl rfl (by rw [e20]; rfl) (by decide) rfl ?_
    refine r_goto C 2 dX5_tries_23 (by decide) ?_
    exact Ws_pick [1, 0] rfl h
set_option maxRecDepth 4000 in
theorem sg_X5_tries_28 {x : Ctx} {K : Mem → Prop} {X : String → Mem → Prop} (C : Cx x RX5 cX5_tries 2) (r : RtV x 1 0 none K X) (i1 : Int32)  (σ : Mem) (h : (34 ≤ i1 → K σ) ∧ (¬ 34 ≤ i1 → (vp_in i1 34) ∧ ((vp_in i1 34) ∧ (∀ σ45 : Mem, σ45 = wl σ 217 i1.toNatClampNeg (σ.2.1 211 i1.toNatClampNeg) → ∀ v46 : Int32, v46 = i1 + 1 → Ws x 0 28 [(0, .ref 209), (1, .int v46)] [] σ45)))) : Ws x 0 28 [(0, .ref 209), (1, .int i1)] [] σ := by
  refine r_iload_n (j := 1) C 29 dX5_tries_28 rfl rfl ?_
  refine r_bipush C 31 (v := 34) dX5_tries_29 rfl (by decide) ?_
  refine r_icmp_ge C 52 34 dX5_tries_31 (by decide) rfl (fun c31 => ?_) (fun c31 => ?_)
  · have h := h.1 c31
    exact r_vret (S := []) C r dX5_tries_52 (by decide) h
  · have h := h.2 c31
    refine r_aload_n (j := 0) C 35 dX5_tries_34 rfl rfl ?_
    refine r_get (k := 10) C cl7 38 dX5_tries_35 rfl kd_209 (by decide) wd_1222 (.ref 217) (fun _ => rfl) ?_
    refine r_iload_n (j := 1) C 39 dX5_tries_38 rfl rfl ?_
    refine r_aload_n (j := 0) C 40 dX5_tries_39 rfl rfl ?_
    refine r_get (k := 2) C cl7 43 dX5_tries_40 rfl kd_209 (by decide) wd_1214 (.ref 211) (fun _ => rfl) ?_
    refine r_iload_n (j := 1) C 44 dX5_tries_43 rfl rfl ?_
    obtain ⟨o44, h⟩ := h
    refine r_lald C 45 dX5_tries_44 rfl kd_211 o44 ?_
    obtain ⟨o45, h⟩ := h
    refine r_last C 46 dX5_tries_45 rfl kd_217 o45 ?_
    refine r_nmS (fun σ45 e45 => ?_)
    have h := h σ45 e45
    obtain ⟨v46, e46⟩ : ∃ y : Int32, y = i1 + 1 := ⟨_, rfl⟩
    have h := h v46 e46
    refine r_iinc (j := 1) C 49 [(1, .int v46), (0, .ref 209)] dX5_tries_46 rfl rfl (by rw [e46]; rfl) (by decide) rfl ?_
    refine r_goto C 28 dX5_tries_49 (by decide) ?_
    exact Ws_pick [1, 0] rfl h
theorem vc_X5_tries {x : Ctx} {K : Mem → Prop} {X : String → Mem → Prop} (C : Cx x RX5 cX5_tries 2) (r : RtV x 1 0 none K X) (σ : Mem) (h : sp_X5_tries σ K X) : Ws x 0 0 [(0, .ref 209)] [] σ := by
  refine sg_X5_tries_0 C r σ ?_
  have H2 : ∀ (k : Nat) (_ : Unit), k ≤ 34 → True → Ws x 0 28 [(0, .ref 209), (1, .int (nI k))] [] (cl (ci σ 210 216 0 0 108) 211 217 0 0 k) := by
    refine cnt 34 (fun _ _ => True) (fun k _ => Ws x 0 28 [(0, .ref 209), (1, .int (nI k))] [] (cl (ci σ 210 216 0 0 108) 211 217 0 0 k)) ?_ ?_
    · intro _ _
      exact sg_X5_tries_28 C r (nI 34) _ ⟨fun _ => h, fun c => absurd (nI_le (Nat.le_refl 34) (by decide)) c⟩
    · intro k _ hk _ ih
      refine sg_X5_tries_28 C r (nI k) _ ⟨fun c => absurd (n_le (a := 34) (by decide) (by omega) c) (by omega), fun _ => ⟨n_inR hk (by decide), n_inR hk (by decide), fun σ' e1 v e2 => ?_⟩⟩
      rw [n_cl (by omega)] at e1
      have e3 := cl_step (ci σ 210 216 0 0 108) 211 217 0 0 k (Or.inl (by decide))
      rw [Nat.zero_add] at e3
      rw [e1, e2, nI_1, e3]
      exact ih () trivial
  have H1 : ∀ (k : Nat) (_ : Unit), k ≤ 108 → True → Ws x 0 2 [(0, .ref 209), (1, .int (nI k))] [] (ci σ 210 216 0 0 k) := by
    refine cnt 108 (fun _ _ => True) (fun k _ => Ws x 0 2 [(0, .ref 209), (1, .int (nI k))] [] (ci σ 210 216 0 0 k)) ?_ ?_
    · intro _ _
      refine sg_X5_tries_2 C r (nI 108) _ ⟨fun _ => ?_, fun c => absurd (nI_le (Nat.le_refl 108) (by decide)) c⟩
      have := H2 0 () (by decide) trivial
      rw [cl_0] at this
      exact this
    · intro k _ hk _ ih
      refine sg_X5_tries_2 C r (nI k) _ ⟨fun c => absurd (n_le (a := 108) (by decide) (by omega) c) (by omega), fun _ => ⟨n_inR hk (by decide), n_inR hk (by decide), fun σ' e1 v e2 => ?_⟩⟩
      rw [n_cl (by omega)] at e1
      have e3 := ci_step σ 210 216 0 0 k (Or.inl (by decide))
      rw [Nat.zero_add] at e3
      rw [e1, e2, nI_1, e3]
      exact ih () trivial
  have := H1 0 () (by decide) trivial
  rw [ci_0] at this
  exact this
theorem ct_X5_tries  (σ : Mem) (K : Mem → Prop) (X : String → Mem → Prop) (h : sp_X5_tries  σ K X) : CtV yX5_tries cX5_tries 2 none 1 0 [.ref 209] σ K X :=
  ctV_of (by decide +kernel) (Nat.le_of_ble_eq_true rfl) (fun x C r => vc_X5_tries C r  σ h)
