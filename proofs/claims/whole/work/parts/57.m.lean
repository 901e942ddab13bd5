/-! HeatNetwork$Network.dropPipe(I)V: level 1, exceptions 0 -/
def sp_X0_dropPipe (a : Nat) (p0 : Int32) (σ : Mem) (K : Mem → Prop) (X : String → Mem → Prop) : Prop := NetA a ∧ ∃ p n : Nat, p0 = nI p ∧ p ≤ n ∧ n < 10 ∧ σ.1 a 1 = nI (n + 1) ∧ K (drK σ a p n n)
set_option maxRecDepth 4000 in
theorem sg_X0_dropPipe_0 {x : Ctx} {K : Mem → Prop} {X : String → Mem → Prop} (C : Cx x RX0 cX0_dropPipe 3) (r : RtV x 1 0 none K X) (a : Nat) (p0 : Int32) (ha : NetA a) (σ : Mem) (h : ∀ σ7 : Mem, σ7 = wi σ a 1 ((σ.1 a 1) - 1) → Ws x 0 12 [(0, .ref a), (2, .int p0)] [] σ7) : Ws x 0 0 [(0, .ref a), (1, .int p0)] [] σ := by
  refine r_aload_n (j := 0) C 1 dX0_dropPipe_0 rfl rfl ?_
  refine r_dup C 2 dX0_dropPipe_1 rfl rfl ?_
  refine r_get (k := 1) C cl2 5 dX0_dropPipe_2 rfl (net0 ha) (by decide) wd_137 (.int (σ.1 a 1)) (fun _ => rfl) ?_
  refine r_iconst C 6 (v := 1) dX0_dropPipe_5 rfl (by decide) ?_
  refine r_isub C 7 dX0_dropPipe_6 rfl ?_
  refine r_putI (k := 1) C cl2 10 dX0_dropPipe_7 rfl (net0 ha) (by decide) wd_137 rfl rfl rfl rfl ?_
  refine r_nmS (fun σ7 e7 => ?_)
  have h := h σ7 e7
  refine r_iload_n (j := 1) C 11 dX0_dropPipe_10 rfl rfl ?_
  refine r_istore_n C 12 [(2, .int p0), (0, .ref a), (1, .int p0)] dX0_dropPipe_11 rfl (by decide) rfl ?_
  exact Ws_pick [1, 0] rfl h
set_option maxRecDepth 4000 in
theorem sg_X0_dropPipe_12 {x : Ctx} {K : Mem → Prop} {X : String → Mem → Prop} (C : Cx x RX0 cX0_dropPipe 3) (r : RtV x 1 0 none K X) (a : Nat) (i2 : Int32) (ha : NetA a) (σ : Mem) (h : ((σ.1 a 1) ≤ i2 → K σ) ∧ (¬ (σ.1 a 1) ≤ i2 → (vp_in (i2 + 1) 10) ∧ ((vp_in i2 10) ∧ (∀ σ33 : Mem, σ33 = wi σ (a + 2) i2.toNatClampNeg (σ.1 (a + 2) ((i2 + 1)).toNatClampNeg) → (vp_in (i2 + 1) 10) ∧ ((vp_in i2 10) ∧ (∀ σ47 : Mem, σ47 = wi σ33 (a + 3) i2.toNatClampNeg (σ33.1 (a + 3) ((i2 + 1)).toNatClampNeg) → (vp_in (i2 + 1) 10) ∧ ((vp_in i2 10) ∧ (∀ σ61 : Mem, σ61 = wi σ47 (a + 4) i2.toNatClampNeg (σ47.1 (a + 4) ((i2 + 1)).toNatClampNeg) → (vp_in (i2 + 1) 10) ∧ ((vp_in i2 10) ∧ (∀ σ75 : Mem, σ75 = wi σ61 (a + 5) i2.toNatClampNeg (σ61.1 (a + 5) ((i2 + 1)).toNatClampNeg) → ∀ v76 : Int32, v76 = i2 + 1 → Ws x 0 12 [(0, .ref a), (2, .int v76)] [] σ75)))))))))) : Ws x 0 12 [(0, .ref a), (2, .int i2)] [] σ := by
  refine r_iload_n (j := 1) C 13 dX0_dropPipe_12 rfl rfl ?_
  refine r_aload_n (j := 0) C 14 dX0_dropPipe_13 rfl rfl ?_
  refine r_get (k := 1) C cl2 17 dX0_dropPipe_14 rfl (net0 ha) (by decide) wd_137 (.int (σ.1 a 1)) (fun _ => rfl) ?_
  refine r_icmp_ge C 82 20 dX0_dropPipe_17 (by decide) rfl (fun c17 => ?_) (fun c17 => ?_)
  · have h := h.1 c17
    exact r_vret (S := []) C r dX0_dropPipe_82 (by decide) h
  · have h := h.2 c17
    refine r_aload_n (j := 0) C 21 dX0_dropPipe_20 rfl rfl ?_
    refine r_get (k := 2) C cl2 24 dX0_dropPipe_21 rfl (net0 ha) (by decide) wd_140 (.ref (a + 2)) (fun _ => rfl) ?_
    refine r_iload_n (j := 1) C 25 dX0_dropPipe_24 rfl rfl ?_
    refine r_aload_n (j := 0) C 26 dX0_dropPipe_25 rfl rfl ?_
    refine r_get (k := 2) C cl2 29 dX0_dropPipe_26 rfl (net0 ha) (by decide) wd_140 (.ref (a + 2)) (fun _ => rfl) ?_
    refine r_iload_n (j := 1) C 30 dX0_dropPipe_29 rfl rfl ?_
    refine r_iconst C 31 (v := 1) dX0_dropPipe_30 rfl (by decide) ?_
    refine r_iadd C 32 dX0_dropPipe_31 rfl ?_
    obtain ⟨o32, h⟩ := h
    refine r_iald C 33 dX0_dropPipe_32 rfl (net2 ha) o32 ?_
    obtain ⟨o33, h⟩ := h
    refine r_iast C 34 dX0_dropPipe_33 rfl (net2 ha) o33 ?_
    refine r_nmS (fun σ33 e33 => ?_)
    have h := h σ33 e33
    refine r_aload_n (j := 0) C 35 dX0_dropPipe_34 rfl rfl ?_
    refine r_get (k := 3) C cl2 38 dX0_dropPipe_35 rfl (net0 ha) (by decide) wd_144 (.ref (a + 3)) (fun _ => rfl) ?_
    refine r_iload_n (j := 1) C 39 dX0_dropPipe_38 rfl rfl ?_
    refine r_aload_n (j := 0) C 40 dX0_dropPipe_39 rfl rfl ?_
    refine r_get (k := 3) C cl2 43 dX0_dropPipe_40 rfl (net0 ha) (by decide) wd_144 (.ref (a + 3)) (fun _ => rfl) ?_
    refine r_iload_n (j := 1) C 44 dX0_dropPipe_43 rfl rfl ?_
    refine r_iconst C 45 (v := 1) dX0_dropPipe_44 rfl (by decide) ?_
    refine r_iadd C 46 dX0_dropPipe_45 rfl ?_
    obtain ⟨o46, h⟩ := h
    refine r_iald C 47 dX0_dropPipe_46 rfl (net3 ha) o46 ?_
    obtain ⟨o47, h⟩ := h
    refine r_iast C 48 dX0_dropPipe_47 rfl (net3 ha) o47 ?_
    refine r_nmS (fun σ47 e47 => ?_)
    have h := h σ47 e47
    refine r_aload_n (j := 0) C 49 dX0_dropPipe_48 rfl rfl ?_
    refine r_get (k := 4) C cl2 52 dX0_dropPipe_49 rfl (net0 ha) (by decide) wd_148 (.ref (a + 4)) (fun _ => rfl) ?_
    refine r_iload_n (j := 1) C 53 dX0_dropPipe_52 rfl rfl ?_
    refine r_aload_n (j := 0) C 54 dX0_dropPipe_53 rfl rfl ?_
    refine r_get (k := 4) C cl2 57 dX0_dropPipe_54 rfl (net0 ha) (by decide) wd_148 (.ref (a + 4)) (fun _ => rfl) ?_
    refine r_iload_n (j := 1) C 58 dX0_dropPipe_57 rfl rfl ?_
    refine r_iconst C 59 (v := 1) dX0_dropPipe_58 rfl (by decide) ?_
    refine r_iadd C 60 dX0_dropPipe_59 rfl ?_
    obtain ⟨o60, h⟩ := h
    refine r_iald C 61 dX0_dropPipe_60 rfl (net4 ha) o60 ?_
    obtain ⟨o61, h⟩ := h
    refine r_iast C 62 dX0_dropPipe_61 rfl (net4 ha) o61 ?_
    refine r_nmS (fun σ61 e61 => ?_)
    have h := h σ61 e61
    refine r_aload_n (j := 0) C 63 dX0_dropPipe_62 rfl rfl ?_
    refine r_get (k := 5) C cl2 66 dX0_dropPipe_63 rfl (net0 ha) (by decide) wd_150 (.ref (a + 5)) (fun _ => rfl) ?_
    refine r_iload_n (j := 1) C 67 dX0_dropPipe_66 rfl rfl ?_
    refine r_aload_n (j := 0) C 68 dX0_dropPipe_67 rfl rfl ?_
    refine r_get (k := 5) C cl2 71 dX0_dropPipe_68 rfl (net0 ha) (by decide) wd_150 (.ref (a + 5)) (fun _ => rfl) ?_
    refine r_iload_n (j := 1) C 72 dX0_dropPipe_71 rfl rfl ?_
    refine r_iconst C 73 (v := 1) dX0_dropPipe_72 rfl (by decide) ?_
    refine r_iadd C 74 dX0_dropPipe_73 rfl ?_
    obtain ⟨o74, h⟩ := h
    refine r_iald C 75 dX0_dropPipe_74 rfl (net5 ha) o74 ?_
    obtain ⟨o75, h⟩ := h
    refine r_iast C 76 dX0_dropPipe_75 rfl (net5 ha) o75 ?_
    refine r_nmS (fun σ75 e75 => ?_)
    have h := h σ75 e75
    obtain ⟨v76, e76⟩ : ∃ y : Int32, y = i2 + 1 := ⟨_, rfl⟩
    have h := h v76 e76
    refine r_iinc (j := 1) C 79 [(2, .int v76), (0, .ref a)] dX0_dropPipe_76 rfl rfl (by rw [e76]; rfl) (by decide) rfl ?_
    refine r_goto C 12 dX0_dropPipe_79 (by decide) ?_
    exact Ws_pick [1, 0] rfl h
theorem vc_X0_dropPipe {x : Ctx} {K : Mem → Prop} {X : String → Mem → Prop} (C : Cx x RX0 cX0_dropPipe 3) (r : RtV x 1 0 none K X) (a : Nat) (p0 : Int32) (σ : Mem) (h : sp_X0_dropPipe a p0 σ K X) : Ws x 0 0 [(0, .ref a), (1, .int p0)] [] σ := by
  obtain ⟨ha, p, n, rfl, hpn, hn, e1, h⟩ := h
  refine sg_X0_dropPipe_0 C r a _ ha σ (fun σ7 e7 => ?_)
  rw [e1, nI_pred, drK_0 σ a p n] at e7
  subst e7
  have er : ∀ k, (drK σ a p n k).1 a 1 = nI n := fun k => by rw [drK_i, if_pos ⟨rfl, rfl⟩]
  have H := cnt n (fun k (_ : Unit) => p ≤ k) (fun k _ => Ws x 0 12 [(0, .ref a), (2, .int (nI k))] [] (drK σ a p n k))
    (fun _ _ => by
      refine sg_X0_dropPipe_12 C r a _ ha _ ?_
      rw [er]
      exact ⟨fun _ => h, fun q => absurd (nI_le (Nat.le_refl n) (by omega)) q⟩)
    (fun k _ hk hp ih => by
      refine sg_X0_dropPipe_12 C r a _ ha _ ?_
      rw [er]
      refine ⟨fun q => absurd hk (by have := n_le (by omega) (by omega) q; omega), fun _ => ?_⟩
      have i0 : vp_in (nI k) 10 := n_inR (by omega) (by decide)
      have i1 : vp_in (nI k + 1) 10 := by rw [nI_1]; exact n_inR (by omega) (by decide)
      have go := fun (b : Nat) (hb : b = a + 2 ∨ b = a + 3 ∨ b = a + 4 ∨ b = a + 5) => show (drK σ a p n k).1 b (k + 1) = σ.1 b (k + 1) by rw [drK_i, if_neg (by omega), if_neg (fun z => by omega)]
      rw [nI_1, n_cl (show k < 2147483648 by omega), n_cl (show k + 1 < 2147483648 by omega)]
      rw [nI_1] at i1
      refine ⟨i1, i0, fun σ33 e33 => ⟨i1, i0, fun σ47 e47 => ⟨i1, i0, fun σ61 e61 => ⟨i1, i0, fun σ75 e75 v e => ?_⟩⟩⟩⟩
      rw [go _ (.inl rfl)] at e33
      have e33' : σ33.1 (a + 3) (k + 1) = σ.1 (a + 3) (k + 1) := by rw [e33, wi_i, if_neg (by omega)]; exact go _ (.inr (.inl rfl))
      rw [e33'] at e47
      have e47' : σ47.1 (a + 4) (k + 1) = σ.1 (a + 4) (k + 1) := by rw [e47, e33, wi_i, if_neg (by omega), wi_i, if_neg (by omega)]; exact go _ (.inr (.inr (.inl rfl)))
      rw [e47'] at e61
      have e61' : σ61.1 (a + 5) (k + 1) = σ.1 (a + 5) (k + 1) := by rw [e61, e47, e33, wi_i, if_neg (by omega), wi_i, if_neg (by omega), wi_i, if_neg (by omega)]; exact go _ (.inr (.inr (.inr rfl)))
      rw [e61'] at e75
      rw [e75, e61, e47, e33, drK_s σ a p n k hp, e]
      exact ih () (by omega)) p () hpn (Nat.le_refl p)
  exact H
theorem ct_X0_dropPipe (a : Nat) (p0 : Int32) (σ : Mem) (K : Mem → Prop) (X : String → Mem → Prop) (h : sp_X0_dropPipe a p0 σ K X) : CtV yX0_dropPipe cX0_dropPipe 3 none 1 0 [.ref a, .int p0] σ K X :=
  ctV_of (by decide +kernel) (Nat.le_of_ble_eq_true rfl) (fun x C r => vc_X0_dropPipe C r a p0 σ h)
/-! HeatNetwork$State.greatestHead(LHeatNetwork$Shape;)J: level 2, exceptions 0 -/
def sp_X2_greatestHead (t : Nat) (σ : Mem) (K : Int64 → Mem → Prop) (X : String → Mem → Prop) : Prop := StaA t ∧ ∃ (N : Nat) (o : Nat → Nat), N ≤ 10 ∧ σ.1 44 2 = nI N ∧ (∀ k, k < N → σ.1 46 k = nI (o k) ∧ o k < 10) ∧ ∀ v, GMx (fun n => (∃ k, k < N ∧ o k = n) ∧ ¬ σ.1 (t + 1) n ≤ 0) (σ.2.1 (t + 12)) v → K v σ
set_option maxRecDepth 4000 in
theorem sg_X2_greatestHead_0 {x : Ctx} {K : Int64 → Mem → Prop} {X : String → Mem → Prop} (C : Cx x RX2 cX2_greatestHead 7) (r : RtL x 2 0 (some .long) K X) (t : Nat) (ht : StaA t) (σ : Mem) (h : Ws x 0 8 [(0, .ref t), (1, .ref 44), (2, .long 0), (4, .int 0), (5, .int 0)] [] σ) : Ws x 0 0 [(0, .ref t), (1, .ref 44)] [] σ := by
  refine r_lconst C 1 (v := 0) dX2_greatestHead_0 rfl rfl ?_
  refine r_lstore_n C 2 [(2, .long 0), (0, .ref t), (1, .ref 44)] dX2_greatestHead_1 rfl (by decide) rfl ?_
  refine r_iconst C 3 (v := 0) dX2_greatestHead_2 rfl (by decide) ?_
  refine r_istore C 5 [(4, .int 0), (2, .long 0), (0, .ref t), (1, .ref 44)] dX2_greatestHead_3 rfl (by decide) rfl ?_
  refine r_iconst C 6 (v := 0) dX2_greatestHead_5 rfl (by decide) ?_
  refine r_istore C 8 [(5, .int 0), (4, .int 0), (2, .long 0), (0, .ref t), (1, .ref 44)] dX2_greatestHead_6 rfl (by decide) rfl ?_
  exact Ws_pick [3, 4, 2, 1, 0] rfl h
set_option maxRecDepth 4000 in
theorem sg_X2_greatestHead_8 {x : Ctx} {K : Int64 → Mem → Prop} {X : String → Mem → Prop} (C : Cx x RX2 cX2_greatestHead 7) (r : RtL x 2 0 (some .long) K X) (t : Nat) (l2 : Int64) (i4 : Int32) (i5 : Int32) (ht : StaA t) (σ : Mem) (h : ((σ.1 44 2) ≤ i5 → K l2 σ) ∧ (¬ (σ.1 44 2) ≤ i5 → (vp_in i5 10) ∧ (∀ v24 : Int32, v24 = (σ.1 46 i5.toNatClampNeg) → (vp_in v24 10) ∧ (((σ.1 (t + 1) v24.toNatClampNeg) ≤ 0 → ∀ v66 : Int32, v66 = i5 + 1 → Ws x 0 8 [(0, .ref t), (1, .ref 44), (2, .long l2), (4, .int i4), (5, .int v66)] [] σ) ∧ (¬ (σ.1 (t + 1) v24.toNatClampNeg) ≤ 0 → (i4 = 0 → (vp_in v24 10) ∧ (∀ v62 : Int64, v62 = (σ.2.1 (t + 12) v24.toNatClampNeg) → ∀ v66 : Int32, v66 = i5 + 1 → Ws x 0 8 [(0, .ref t), (1, .ref 44), (2, .long v62), (4, .int 1), (5, .int v66)] [] σ)) ∧ (¬ i4 = 0 → (vp_in v24 10) ∧ (sp_J9_max_f86c9 l2 (σ.2.1 (t + 12) v24.toNatClampNeg) σ (fun r49 σ49 => ∀ v66 : Int32, v66 = i5 + 1 → Ws x 0 8 [(0, .ref t), (1, .ref 44), (2, .long r49), (4, .int 1), (5, .int v66)] [] σ49) X))))))) : Ws x 0 8 [(0, .ref t), (1, .ref 44), (2, .long l2), (4, .int i4), (5, .int i5)] [] σ := by
  refine r_iload (j := 4) C 10 dX2_greatestHead_8 rfl rfl ?_
  refine r_aload_n (j := 1) C 11 dX2_greatestHead_10 rfl rfl ?_
  refine r_get (k := 2) C cl3 14 dX2_greatestHead_11 rfl kd_44 (by decide) wd_230 (.int (σ.1 44 2)) (fun _ => rfl) ?_
  refine r_icmp_ge C 72 17 dX2_greatestHead_14 (by decide) rfl (fun c14 => ?_) (fun c14 => ?_)
  · have h := h.1 c14
    refine r_lload_n (j := 2) C 73 dX2_greatestHead_72 rfl rfl ?_
    exact r_lret (S := []) C r dX2_greatestHead_73 (by decide) h
  · have h := h.2 c14
    refine r_aload_n (j := 1) C 18 dX2_greatestHead_17 rfl rfl ?_
    refine r_get (k := 1) C cl3 21 dX2_greatestHead_18 rfl kd_44 (by decide) wd_228 (.ref 46) (fun _ => rfl) ?_
    refine r_iload (j := 4) C 23 dX2_greatestHead_21 rfl rfl ?_
    obtain ⟨o23, h⟩ := h
    refine r_iald C 24 dX2_greatestHead_23 rfl kd_46 o23 ?_
    refine r_nmI (fun v24 e24 => ?_)
    have h := h v24 e24
    refine r_istore C 26 [(6, .int v24), (0, .ref t), (1, .ref 44), (2, .long l2), (4, .int i4), (5, .int i5)] dX2_greatestHead_24 rfl (by decide) rfl ?_
    refine r_aload_n (j := 1) C 27 dX2_greatestHead_26 rfl rfl ?_
    refine r_get (k := 0) C cl4 30 dX2_greatestHead_27 rfl (sta0 ht) (by decide) wd_276 (.ref (t + 1)) (fun _ => rfl) ?_
    refine r_iload (j := 0) C 32 dX2_greatestHead_30 rfl rfl ?_
    obtain ⟨o32, h⟩ := h
    refine r_iald C 33 dX2_greatestHead_32 rfl (sta1 ht) o32 ?_
    refine r_if_le C 66 36 dX2_greatestHead_33 (by decide) rfl (fun c33 => ?_) (fun c33 => ?_)
    · have h := h.1 c33
      obtain ⟨v66, e66⟩ : ∃ y : Int32, y = i5 + 1 := ⟨_, rfl⟩
      have h := h v66 e66
      refine r_iinc (j := 5) C 69 [(5, .int v66), (6, .int v24), (0, .ref t), (1, .ref 44), (2, .long l2), (4, .int i4)] dX2_greatestHead_66 rfl rfl (by rw [e66]; rfl) (by decide) rfl ?_
      refine r_goto C 8 dX2_greatestHead_69 (by decide) ?_
      exact Ws_pick [2, 3, 4, 5, 0] rfl h
    · have h := h.2 c33
      refine r_iload (j := 4) C 38 dX2_greatestHead_36 rfl rfl ?_
      refine r_if_eq C 55 41 dX2_greatestHead_38 (by decide) rfl (fun c38 => ?_) (fun c38 => ?_)
      · have h := h.1 c38
        refine r_aload_n (j := 1) C 56 dX2_greatestHead_55 rfl rfl ?_
        refine r_get (k := 11) C cl4 59 dX2_greatestHead_56 rfl (sta0 ht) (by decide) wd_293 (.ref (t + 12)) (fun _ => rfl) ?_
        refine r_iload (j := 0) C 61 dX2_greatestHead_59 rfl rfl ?_
        obtain ⟨o61, h⟩ := h
        refine r_lald C 62 dX2_greatestHead_61 rfl (sta12 ht) o61 ?_
        refine r_nmL (fun v62 e62 => ?_)
        have h := h v62 e62
        refine r_lstore_n C 63 [(2, .long v62), (6, .int v24), (0, .ref t), (1, .ref 44), (4, .int i4), (5, .int i5)] dX2_greatestHead_62 rfl (by decide) rfl ?_
        refine r_iconst C 64 (v := 1) dX2_greatestHead_63 rfl (by decide) ?_
        refine r_istore C 66 [(4, .int 1), (2, .long v62), (6, .int v24), (0, .ref t), (1, .ref 44), (5, .int i5)] dX2_greatestHead_64 rfl (by decide) rfl ?_
        obtain ⟨v66, e66⟩ : ∃ y : Int32, y = i5 + 1 := ⟨_, rfl⟩
        have h := h v66 e66
        refine r_iinc (j := 5) C 69 [(5, .int v66), (4, .int 1), (2, .long v62), (6, .int v24), (0, .ref t), (1, .ref 44)] dX2_greatestHead_66 rfl rfl (by rw [e66]; rfl) (by decide) rfl ?_
        refine r_goto C 8 dX2_greatestHead_69 (by decide) ?_
        exact Ws_pick [4, 5, 2, 1, 0] rfl h
      · have h := h.2 c38
        refine r_lload_n (j := 3) C 42 dX2_greatestHead_41 rfl rfl ?_
        refine r_aload_n (j := 1) C 43 dX2_greatestHead_42 rfl rfl ?_
        refine r_get (k := 11) C cl4 46 dX2_greatestHead_43 rfl (sta0 ht) (by decide) wd_293 (.ref (t + 12)) (fun _ => rfl) ?_
        refine r_iload (j := 0) C 48 dX2_greatestHead_46 rfl rfl ?_
        obtain ⟨o48, h⟩ := h
        refine r_lald C 49 dX2_greatestHead_48 rfl (sta12 ht) o48 ?_
        refine r_cSL (b := 0) (as := [.long l2, .long (σ.2.1 (t + 12) v24.toNatClampNeg)]) (S := []) C r.px 52 (ct_J9_max_f86c9 _ _ _ _ _ h) dX2_greatestHead_49 rfl wd_572 wd_571 wd_573 wd_104 yd_J9_max_f86c9 ⟨Nat.le_of_ble_eq_true rfl, Nat.le_of_ble_eq_true rfl⟩ (Nat.le_of_ble_eq_true rfl) (by decide) (fun r49 σ49 h => ?_)
        refine r_goto C 62 dX2_greatestHead_52 (by decide) ?_
        refine r_lstore_n C 63 [(2, .long r49), (6, .int v24), (0, .ref t), (1, .ref 44), (4, .int i4), (5, .int i5)] dX2_greatestHead_62 rfl (by decide) rfl ?_
        refine r_iconst C 64 (v := 1) dX2_greatestHead_63 rfl (by decide) ?_
        refine r_istore C 66 [(4, .int 1), (2, .long r49), (6, .int v24), (0, .ref t), (1, .ref 44), (5, .int i5)] dX2_greatestHead_64 rfl (by decide) rfl ?_
        obtain ⟨v66, e66⟩ : ∃ y : Int32, y = i5 + 1 := ⟨_, rfl⟩
        have h := h v66 e66
        refine r_iinc (j := 5) C 69 [(5, .int v66), (4, .int 1), (2, .long r49), (6, .int v24), (0, .ref t), (1, .ref 44)] dX2_greatestHead_66 rfl rfl (by rw [e66]; rfl) (by decide) rfl ?_
        refine r_goto C 8 dX2_greatestHead_69 (by decide) ?_
        exact Ws_pick [4, 5, 2, 1, 0] rfl h
theorem vc_X2_greatestHead {x : Ctx} {K : Int64 → Mem → Prop} {X : String → Mem → Prop} (C : Cx x RX2 cX2_greatestHead 7) (r : RtL x 2 0 (some .long) K X) (t : Nat) (σ : Mem) (h : sp_X2_greatestHead t σ K X) : Ws x 0 0 [(0, .ref t), (1, .ref 44)] [] σ := by
  obtain ⟨ht, N, o, hN, e2, ho, hK⟩ := h
  refine sg_X2_greatestHead_0 C r t ht σ ?_
  have H := cnt N (fun k (s : Int64 × Int32) => GMx (fun n => (∃ j, j < k ∧ o j = n) ∧ ¬ σ.1 (t + 1) n ≤ 0) (σ.2.1 (t + 12)) s.1 ∧ ((s.2 = 0 ∧ ∀ n, ¬ ((∃ j, j < k ∧ o j = n) ∧ ¬ σ.1 (t + 1) n ≤ 0)) ∨ (¬ s.2 = 0 ∧ ∃ n, (∃ j, j < k ∧ o j = n) ∧ ¬ σ.1 (t + 1) n ≤ 0))) (fun k s => Ws x 0 8 [(0, .ref t), (1, .ref 44), (2, .long s.1), (4, .int s.2), (5, .int (nI k))] [] σ)
    (fun s ⟨j1, _⟩ => by
      refine sg_X2_greatestHead_8 C r t _ _ _ ht σ ?_
      rw [e2]
      exact ⟨fun _ => hK _ j1, fun q => absurd (nI_le (Nat.le_refl N) (by omega)) q⟩)
    (fun k s hk ⟨j1, j2⟩ ih => by
      refine sg_X2_greatestHead_8 C r t _ _ _ ht σ ?_
      obtain ⟨o1, o2⟩ := ho k hk
      have ex : ∀ n, (∃ j, j < k + 1 ∧ o j = n) ↔ (∃ j, j < k ∧ o j = n) ∨ n = o k := fun n => by
        refine ⟨fun ⟨j, q1, q2⟩ => ?_, fun q => ?_⟩
        · by_cases e : j = k
          · exact .inr (by rw [← q2, e])
          · exact .inl ⟨j, by omega, q2⟩
        · rcases q with ⟨j, q1, q2⟩ | q
          · exact ⟨j, by omega, q2⟩
          · exact ⟨k, by omega, q.symm⟩
      rw [e2, n_cl (show k < 2147483648 by omega), o1]
      refine ⟨fun q => absurd hk (by have := n_le (by omega) (by omega) q; omega), fun _ => ⟨n_inR (by omega) (by decide), fun v24 e24 => ?_⟩⟩
      rw [e24, n_cl (show o k < 2147483648 by omega)]
      refine ⟨n_inR o2 (by decide), fun q v66 e66 => ?_, fun q => ⟨fun z => ⟨n_inR o2 (by decide), fun v62 e62 v66 e66 => ?_⟩, fun z => ⟨n_inR o2 (by decide), ?_⟩⟩⟩
      · rw [e66, nI_1]
        have eS : ∀ n, ((∃ j, j < k ∧ o j = n) ∧ ¬ σ.1 (t + 1) n ≤ 0) ↔ ((∃ j, j < k + 1 ∧ o j = n) ∧ ¬ σ.1 (t + 1) n ≤ 0) := fun n => by
          rw [ex n]
          refine ⟨fun y => ⟨.inl y.1, y.2⟩, fun ⟨y1, y2⟩ => ?_⟩
          rcases y1 with y1 | y1
          · exact ⟨y1, y2⟩
          · rw [y1] at y2; exact absurd q y2
        refine ih s ⟨j1.cg eS, ?_⟩
        rcases j2 with ⟨y1, y2⟩ | ⟨y1, n, y2⟩
        · exact .inl ⟨y1, fun n y => y2 n ((eS n).mpr y)⟩
        · exact .inr ⟨y1, n, (eS n).mp y2⟩
      · have eS : ∀ n, ((∃ j, j < k + 1 ∧ o j = n) ∧ ¬ σ.1 (t + 1) n ≤ 0) ↔ ((∃ j, j < k ∧ o j = n) ∧ ¬ σ.1 (t + 1) n ≤ 0) ∨ n = o k := fun n => by
          rw [ex n]
          refine ⟨fun ⟨y1, y2⟩ => y1.elim (fun y1 => .inl ⟨y1, y2⟩) .inr, fun y => ?_⟩
          rcases y with y | y
          · exact ⟨.inl y.1, y.2⟩
          · exact ⟨.inr y, by rw [y]; exact q⟩
        rw [e66, nI_1, e62]
        rcases j2 with ⟨y1, y2⟩ | ⟨y1, -⟩
        · exact ih (_, 1) ⟨GMx.one y2 eS, .inr ⟨(by decide : ¬ (1 : Int32) = 0), o k, (eS _).mpr (.inr rfl)⟩⟩
        · exact absurd z y1
      · have eS : ∀ n, ((∃ j, j < k + 1 ∧ o j = n) ∧ ¬ σ.1 (t + 1) n ≤ 0) ↔ ((∃ j, j < k ∧ o j = n) ∧ ¬ σ.1 (t + 1) n ≤ 0) ∨ n = o k := fun n => by
          rw [ex n]
          refine ⟨fun ⟨y1, y2⟩ => y1.elim (fun y1 => .inl ⟨y1, y2⟩) .inr, fun y => ?_⟩
          rcases y with y | y
          · exact ⟨.inl y.1, y.2⟩
          · exact ⟨.inr y, by rw [y]; exact q⟩
        rcases j2 with ⟨y1, -⟩ | ⟨y1, n, y2⟩
        · exact absurd y1 z
        · refine ⟨fun c v66 e66 => ?_, fun c v66 e66 => ?_⟩
          · rw [e66, nI_1]
            exact ih (_, 1) ⟨j1.add y2 eS (fun _ => rfl) (fun c' => absurd c c'), .inr ⟨(by decide : ¬ (1 : Int32) = 0), o k, (eS _).mpr (.inr rfl)⟩⟩
          · rw [e66, nI_1]
            exact ih (_, 1) ⟨j1.add y2 eS (fun c' => absurd c' c) (fun _ => rfl), .inr ⟨(by decide : ¬ (1 : Int32) = 0), o k, (eS _).mpr (.inr rfl)⟩⟩) 0 (0, 0) (Nat.zero_le N) ⟨GMx.nil (fun n y => by obtain ⟨⟨j, q, -⟩, -⟩ := y; omega), .inl ⟨rfl, fun n y => by obtain ⟨⟨j, q, -⟩, -⟩ := y; omega⟩⟩
  exact H
theorem ct_X2_greatestHead (t : Nat) (σ : Mem) (K : Int64 → Mem → Prop) (X : String → Mem → Prop) (h : sp_X2_greatestHead t σ K X) : CtL yX2_greatestHead cX2_greatestHead 7 (some .long) 2 0 [.ref t, .ref 44] σ K X :=
  ctL_of (by decide +kernel) (Nat.le_of_ble_eq_true rfl) (fun x C r => vc_X2_greatestHead C r t σ h)
/-! HeatNetwork.hoursReason()I: level 3, exceptions 0 -/
def sp_X4_hoursReason  (σ : Mem) (K : Int32 → Mem → Prop) (X : String → Mem → Prop) : Prop := (sp_X2_greatestHead 53 σ (fun r8 σ8 => (r8 ≤ ((σ8.1 2 4)).toInt64 → K 0 σ8) ∧ (¬ r8 ≤ ((σ8.1 2 4)).toInt64 → K 7 σ8)) X)
set_option maxRecDepth 4000 in
theorem sg_X4_hoursReason_0 {x : Ctx} {K : Int32 → Mem → Prop} {X : String → Mem → Prop} (C : Cx x RX4 cX4_hoursReason 1) (r : RtI x 3 0 (some .int) K X)   (σ : Mem) (h : sp_X2_greatestHead 53 σ (fun r8 σ8 => (r8 ≤ ((σ8.1 2 4)).toInt64 → K 0 σ8) ∧ (¬ r8 ≤ ((σ8.1 2 4)).toInt64 → K 7 σ8)) X) : Ws x 0 0 [(0, .ref 0)] [] σ := by
  refine r_aload_n (j := 0) C 1 dX4_hoursReason_0 rfl rfl ?_
  refine r_get (k := 5) C cl6 4 dX4_hoursReason_1 rfl kd_0 (by decide) wd_363 (.ref 53) (fun _ => rfl) ?_
  refine r_aload_n (j := 0) C 5 dX4_hoursReason_4 rfl rfl ?_
  refine r_get (k := 4) C cl6 8 dX4_hoursReason_5 rfl kd_0 (by decide) wd_362 (.ref 44) (fun _ => rfl) ?_
  refine r_cVL (as := [.ref 44]) (S := []) C r.px 11 (ct_X2_greatestHead _ _ _ _ h) dX4_hoursReason_8 rfl cl4 kd_53 wd_569 wd_568 rfl wd_567 wd_570 wd_93 yd_X2_greatestHead ⟨Nat.le_of_ble_eq_true rfl, Nat.le_of_ble_eq_true rfl⟩ (Nat.le_of_ble_eq_true rfl) (by decide) (fun r8 σ8 h => ?_)
  refine r_aload_n (j := 0) C 12 dX4_hoursReason_11 rfl rfl ?_
  refine r_get (k := 0) C cl6 15 dX4_hoursReason_12 rfl kd_0 (by decide) wd_358 (.ref 1) (fun _ => rfl) ?_
  refine r_get (k := 0) C cl2 18 dX4_hoursReason_15 rfl kd_1 (by decide) wd_136 (.ref 2) (fun _ => rfl) ?_
  refine r_iconst C 19 (v := 4) dX4_hoursReason_18 rfl (by decide) ?_
  refine r_iald C 20 dX4_hoursReason_19 rfl kd_2 (n_inR (n := 4) (by decide) (by decide)) ?_
  refine r_i2l C 21 dX4_hoursReason_20 rfl ?_
  refine r_lcmp_le C 22 30 25 dX4_hoursReason_21 rfl dX4_hoursReason_22 (by decide) rfl (fun c21 => ?_) (fun c21 => ?_)
  · have h := h.1 c21
    refine r_iconst C 31 (v := 0) dX4_hoursReason_30 rfl (by decide) ?_
    exact r_iret (S := []) C r dX4_hoursReason_31 (by decide) rfl h
  · have h := h.2 c21
    refine r_bipush C 27 (v := 7) dX4_hoursReason_25 rfl (by decide) ?_
    refine r_goto C 31 dX4_hoursReason_27 (by decide) ?_
    exact r_iret (S := []) C r dX4_hoursReason_31 (by decide) rfl h
theorem ct_X4_hoursReason  (σ : Mem) (K : Int32 → Mem → Prop) (X : String → Mem → Prop) (h : sp_X4_hoursReason  σ K X) : CtI yX4_hoursReason cX4_hoursReason 1 (some .int) 3 0 [.ref 0] σ K X := by
  have h := h
  exact ctI_of (by decide +kernel) (Nat.le_of_ble_eq_true rfl) (fun x C r => sg_X4_hoursReason_0 C r   σ h)
/-! HeatNetwork.definitionReason(CIIII)I: level 5, exceptions 0 -/
def sp_X4_definitionReason (p0 : Int32) (p1 : Int32) (p2 : Int32) (p3 : Int32) (p4 : Int32) (σ : Mem) (K : Int32 → Mem → Prop) (X : String → Mem → Prop) : Prop := ((p0 = 112 → sp_X0_pipeReason 1 p1 p2 p3 p4 σ (fun r62 σ62 => K r62 σ62) X) ∧ (p0 = 113 → sp_X4_isWithin p1 1 24 σ (fun r99 σ99 => (r99 = 0 → K 2 σ99) ∧ (¬ r99 = 0 → sp_X4_hoursReason  σ99 (fun r106 σ106 => K r106 σ106) X)) X) ∧ (p0 = 114 → sp_X4_isWithin p1 1 24 σ (fun r99 σ99 => (r99 = 0 → K 2 σ99) ∧ (¬ r99 = 0 → sp_X4_hoursReason  σ99 (fun r106 σ106 => K r106 σ106) X)) X) ∧ (p0 = 115 → sp_X0_stationReason 1 p1 p2 p3 p4 σ (fun r76 σ76 => K r76 σ76) X) ∧ (p0 = 116 → sp_X4_settingReason p1 p2 σ (fun r91 σ91 => K r91 σ91) X) ∧ (p0 = 117 → sp_X4_isWithin p1 1 24 σ (fun r99 σ99 => (r99 = 0 → K 2 σ99) ∧ (¬ r99 = 0 → sp_X4_hoursReason  σ99 (fun r106 σ106 => K r106 σ106) X)) X) ∧ (p0 = 118 → sp_X4_isWithin p1 1 24 σ (fun r99 σ99 => (r99 = 0 → K 2 σ99) ∧ (¬ r99 = 0 → sp_X4_hoursReason  σ99 (fun r106 σ106 => K r106 σ106) X)) X) ∧ (p0 = 119 → sp_X4_isWithin p1 1 24 σ (fun r99 σ99 => (r99 = 0 → K 2 σ99) ∧ (¬ r99 = 0 → sp_X4_hoursReason  σ99 (fun r106 σ106 => K r106 σ106) X)) X) ∧ (p0 = 120 → sp_X0_removalReason 1 p1 σ (fun r85 σ85 => K r85 σ85) X) ∧ (¬ p0 = 112 → ¬ p0 = 113 → ¬ p0 = 114 → ¬ p0 = 115 → ¬ p0 = 116 → ¬ p0 = 117 → ¬ p0 = 118 → ¬ p0 = 119 → ¬ p0 = 120 → sp_X4_isWithin p1 1 24 σ (fun r99 σ99 => (r99 = 0 → K 2 σ99) ∧ (¬ r99 = 0 → sp_X4_hoursReason  σ99 (fun r106 σ106 => K r106 σ106) X)) X))
set_option maxRecDepth 4000 in
theorem sg_X4_definitionReason_0 {x : Ctx} {K : Int32 → Mem → Prop} {X : String → Mem → Prop} (C : Cx x RX4 cX4_definitionReason 6) (r : RtI x 5 0 (some .int) K X) (p0 : Int32) (p1 : Int32) (p2 : Int32) (p3 : Int32) (p4 : Int32)  (σ : Mem) (h : (p0 = 112 → sp_X0_pipeReason 1 p1 p2 p3 p4 σ (fun r62 σ62 => K r62 σ62) X) ∧ (p0 = 113 → sp_X4_isWithin p1 1 24 σ (fun r99 σ99 => (r99 = 0 → K 2 σ99) ∧ (¬ r99 = 0 → sp_X4_hoursReason  σ99 (fun r106 σ106 => K r106 σ106) X)) X) ∧ (p0 = 114 → sp_X4_isWithin p1 1 24 σ (fun r99 σ99 => (r99 = 0 → K 2 σ99) ∧ (¬ r99 = 0 → sp_X4_hoursReason  σ99 (fun r106 σ106 => K r106 σ106) X)) X) ∧ (p0 = 115 → sp_X0_stationReason 1 p1 p2 p3 p4 σ (fun r76 σ76 => K r76 σ76) X) ∧ (p0 = 116 → sp_X4_settingReason p1 p2 σ (fun r91 σ91 => K r91 σ91) X) ∧ (p0 = 117 → sp_X4_isWithin p1 1 24 σ (fun r99 σ99 => (r99 = 0 → K 2 σ99) ∧ (¬ r99 = 0 → sp_X4_hoursReason  σ99 (fun r106 σ106 => K r106 σ106) X)) X) ∧ (p0 = 118 → sp_X4_isWithin p1 1 24 σ (fun r99 σ99 => (r99 = 0 → K 2 σ99) ∧ (¬ r99 = 0 → sp_X4_hoursReason  σ99 (fun r106 σ106 => K r106 σ106) X)) X) ∧ (p0 = 119 → sp_X4_isWithin p1 1 24 σ (fun r99 σ99 => (r99 = 0 → K 2 σ99) ∧ (¬ r99 = 0 → sp_X4_hoursReason  σ99 (fun r106 σ106 => K r106 σ106) X)) X) ∧ (p0 = 120 → sp_X0_removalReason 1 p1 σ (fun r85 σ85 => K r85 σ85) X) ∧ (¬ p0 = 112 → ¬ p0 = 113 → ¬ p0 = 114 → ¬ p0 = 115 → ¬ p0 = 116 → ¬ p0 = 117 → ¬ p0 = 118 → ¬ p0 = 119 → ¬ p0 = 120 → sp_X4_isWithin p1 1 24 σ (fun r99 σ99 => (r99 = 0 → K 2 σ99) ∧ (¬ r99 = 0 → sp_X4_hoursReason  σ99 (fun r106 σ106 => K r106 σ106) X)) X)) : Ws x 0 0 [(0, .ref 0), (1, .int p0), (2, .int p1), (3, .int p2), (4, .int p3), (5, .int p4)] [] σ := by
  refine r_iload_n (j := 1) C 1 dX4_definitionReason_0 rfl rfl ?_
  by_cases c1_0 : p0 = 112
  · have h := h.1 c1_0
    refine r_tblIn C 52 (off := 51) dX4_definitionReason_1 (by rw [c1_0]; decide) (by rw [c1_0]; decide) (by rw [c1_0] <;> rfl) (by decide) ?_
    refine r_aload_n (j := 0) C 53 dX4_definitionReason_52 rfl rfl ?_
    refine r_get (k := 0) C cl6 56 dX4_definitionReason_53 rfl kd_0 (by decide) wd_358 (.ref 1) (fun _ => rfl) ?_
    refine r_iload_n (j := 2) C 57 dX4_definitionReason_56 rfl rfl ?_
    refine r_iload_n (j := 3) C 58 dX4_definitionReason_57 rfl rfl ?_
    refine r_iload (j := 4) C 60 dX4_definitionReason_58 rfl rfl ?_
    refine r_iload (j := 5) C 62 dX4_definitionReason_60 rfl rfl ?_
    refine r_cVI (as := [.int p1, .int p2, .int p3, .int p4]) (S := []) C r.px 65 (ct_X0_pipeReason _ _ _ _ _ _ _ _ h) dX4_definitionReason_62 rfl cl2 kd_1 wd_742 wd_741 rfl wd_740 wd_743 wd_91 yd_X0_pipeReason ⟨Nat.le_of_ble_eq_true rfl, Nat.le_of_ble_eq_true rfl⟩ (Nat.le_of_ble_eq_true rfl) (by decide) (fun r62 σ62 h => ?_)
    exact r_iret (S := []) C r dX4_definitionReason_65 (by decide) rfl h
  by_cases c1_1 : p0 = 113
  · have h := h.2.1 c1_1
    refine r_tblIn C 95 (off := 94) dX4_definitionReason_1 (by rw [c1_1]; decide) (by rw [c1_1]; decide) (by rw [c1_1] <;> rfl) (by decide) ?_
    refine r_iload_n (j := 2) C 96 dX4_definitionReason_95 rfl rfl ?_
    refine r_iconst C 97 (v := 1) dX4_definitionReason_96 rfl (by decide) ?_
    refine r_bipush C 99 (v := 24) dX4_definitionReason_97 rfl (by decide) ?_
    refine r_cSI (b := 0) (as := [.int p1, .int 1, .int 24]) (S := []) C r.px 102 (ct_X4_isWithin _ _ _ _ _ _ h) dX4_definitionReason_99 rfl wd_432 wd_431 wd_433 wd_90 yd_X4_isWithin ⟨Nat.le_of_ble_eq_true rfl, Nat.le_of_ble_eq_true rfl⟩ (Nat.le_of_ble_eq_true rfl) (by decide) (fun r99 σ99 h => ?_)
    refine r_if_eq C 112 105 dX4_definitionReason_102 (by decide) rfl (fun c102 => ?_) (fun c102 => ?_)
    · have h := h.1 c102
      refine r_iconst C 113 (v := 2) dX4_definitionReason_112 rfl (by decide) ?_
      exact r_iret (S := []) C r dX4_definitionReason_113 (by decide) rfl h
    · have h := h.2 c102
      refine r_aload_n (j := 0) C 106 dX4_definitionReason_105 rfl rfl ?_
      refine r_cVI (as := []) (S := []) C r.px 109 (ct_X4_hoursReason  _ _ _ h) dX4_definitionReason_106 rfl cl6 kd_0 wd_29 wd_888 rfl wd_886 wd_889 wd_90 yd_X4_hoursReason ⟨Nat.le_of_ble_eq_true rfl, Nat.le_of_ble_eq_true rfl⟩ (Nat.le_of_ble_eq_true rfl) (by decide) (fun r106 σ106 h => ?_)
      refine r_goto C 113 dX4_definitionReason_109 (by decide) ?_
      exact r_iret (S := []) C r dX4_definitionReason_113 (by decide) rfl h
  by_cases c1_2 : p0 = 114
  · have h := h.2.2.1 c1_2
    refine r_tblIn C 95 (off := 94) dX4_definitionReason_1 (by rw [c1_2]; decide) (by rw [c1_2]; decide) (by rw [c1_2] <;> rfl) (by decide) ?_
    refine r_iload_n (j := 2) C 96 dX4_definitionReason_95 rfl rfl ?_
    refine r_iconst C 97 (v := 1) dX4_definitionReason_96 rfl (by decide) ?_
    refine r_bipush C 99 (v := 24) dX4_definitionReason_97 rfl (by decide) ?_
    refine r_cSI (b := 0) (as := [.int p1, .int 1, .int 24]) (S := []) C r.px 102 (ct_X4_isWithin _ _ _ _ _ _ h) dX4_definitionReason_99 rfl wd_432 wd_431 wd_433 wd_90 yd_X4_isWithin ⟨Nat.le_of_ble_eq_true rfl, Nat.le_of_ble_eq_true rfl⟩ (Nat.le_of_ble_eq_true rfl) (by decide) (fun r99 σ99 h => ?_)
    refine r_if_eq C 112 105 dX4_definitionReason_102 (by decide) rfl (fun c102 => ?_) (fun c102 => ?_)
    · have h := h.1 c102
      refine r_iconst C 113 (v := 2) dX4_definitionReason_112 rfl (by decide) ?_
      exact r_iret (S := []) C r dX4_definitionReason_113 (by decide) rfl h
    · have h := h.2 c102
      refine r_aload_n (j := 0) C 106 dX4_definitionReason_105 rfl rfl ?_
      refine r_cVI (as := []) (S := []) C r.px 109 (ct_X4_hoursReason  _ _ _ h) dX4_definitionReason_106 rfl cl6 kd_0 wd_29 wd_888 rfl wd_886 wd_889 wd_90 yd_X4_hoursReason ⟨Nat.le_of_ble_eq_true rfl, Nat.le_of_ble_eq_true rfl⟩ (Nat.le_of_ble_eq_true rfl) (by decide) (fun r106 σ106 h => ?_)
      refine r_goto C 113 dX4_definitionReason_109 (by decide) ?_
      exact r_iret (S := []) C r dX4_definitionReason_113 (by decide) rfl h
  by_cases c1_3 : p0 = 115
  · have h := h.2.2.2.1 c1_3
    refine r_tblIn C 66 (off := 65) dX4_definitionReason_1 (by rw [c1_3]; decide) (by rw [c1_3]; decide) (by rw [c1_3] <;> rfl) (by decide) ?_
    refine r_aload_n (j := 0) C 67 dX4_definitionReason_66 rfl rfl ?_
    refine r_get (k := 0) C cl6 70 dX4_definitionReason_67 rfl kd_0 (by decide) wd_358 (.ref 1) (fun _ => rfl) ?_
    refine r_iload_n (j := 2) C 71 dX4_definitionReason_70 rfl rfl ?_
    refine r_iload_n (j := 3) C 72 dX4_definitionReason_71 rfl rfl ?_
    refine r_iload (j := 4) C 74 dX4_definitionReason_72 rfl rfl ?_
    refine r_iload (j := 5) C 76 dX4_definitionReason_74 rfl rfl ?_
    refine r_cVI (as := [.int p1, .int p2, .int p3, .int p4]) (S := []) C r.px 79 (ct_X0_stationReason _ _ _ _ _ _ _ _ h) dX4_definitionReason_76 rfl cl2 kd_1 wd_813 wd_812 rfl wd_811 wd_814 wd_91 yd_X0_stationReason ⟨Nat.le_of_ble_eq_true rfl, Nat.le_of_ble_eq_true rfl⟩ (Nat.le_of_ble_eq_true rfl) (by decide) (fun r76 σ76 h => ?_)
    exact r_iret (S := []) C r dX4_definitionReason_79 (by decide) rfl h
  by_cases c1_4 : p0 = 116
  · have h := h.2.2.2.2.1 c1_4
    refine r_tblIn C 89 (off := 88) dX4_definitionReason_1 (by rw [c1_4]; decide) (by rw [c1_4]; decide) (by rw [c1_4] <;> rfl) (by decide) ?_
    refine r_iload_n (j := 2) C 90 dX4_definitionReason_89 rfl rfl ?_
    refine r_iload_n (j := 3) C 91 dX4_definitionReason_90 rfl rfl ?_
    refine r_cSI (b := 0) (as := [.int p1, .int p2]) (S := []) C r.px 94 (ct_X4_settingReason _ _ _ _ _ h) dX4_definitionReason_91 rfl wd_681 wd_680 wd_682 wd_90 yd_X4_settingReason ⟨Nat.le_of_ble_eq_true rfl, Nat.le_of_ble_eq_true rfl⟩ (Nat.le_of_ble_eq_true rfl) (by decide) (fun r91 σ91 h => ?_)
    exact r_iret (S := []) C r dX4_definitionReason_94 (by decide) rfl h
  by_cases c1_5 : p0 = 117
  · have h := h.2.2.2.2.2.1 c1_5
    refine r_tblIn C 95 (off := 94) dX4_definitionReason_1 (by rw [c1_5]; decide) (by rw [c1_5]; decide) (by rw [c1_5] <;> rfl) (by decide) ?_
    refine r_iload_n (j := 2) C 96 dX4_definitionReason_95 rfl rfl ?_
    refine r_iconst C 97 (v := 1) dX4_definitionReason_96 rfl (by decide) ?_
    refine r_bipush C 99 (v := 24) dX4_definitionReason_97 rfl (by decide) ?_
    refine r_cSI (b := 0) (as := [.int p1, .int 1, .int 24]) (S := []) C r.px 102 (ct_X4_isWithin _ _ _ _ _ _ h) dX4_definitionReason_99 rfl wd_432 wd_431 wd_433 wd_90 yd_X4_isWithin ⟨Nat.le_of_ble_eq_true rfl, Nat.le_of_ble_eq_true rfl⟩ (Nat.le_of_ble_eq_true rfl) (by decide) (fun r99 σ99 h => ?_)
    refine r_if_eq C 112 105 dX4_definitionReason_102 (by decide) rfl (fun c102 => ?_) (fun c102 => ?_)
    · have h := h.1 c102
      refine r_iconst C 113 (v := 2) dX4_definitionReason_112 rfl (by decide) ?_
      exact r_iret (S := []) C r dX4_definitionReason_113 (by decide) rfl h
    · have h := h.2 c102
      refine r_aload_n (j := 0) C 106 dX4_definitionReason_105 rfl rfl ?_
      refine r_cVI (as := []) (S := []) C r.px 109 (ct_X4_hoursReason  _ _ _ h) dX4_definitionReason_106 rfl cl6 kd_0 wd_29 wd_888 rfl wd_886 wd_889 wd_90 yd_X4_hoursReason ⟨Nat.le_of_ble_eq_true rfl, Nat.le_of_ble_eq_true rfl⟩ (Nat.le_of_ble_eq_true rfl) (by decide) (fun r106 σ106 h => ?_)
      refine r_goto C 113 dX4_definitionReason_109 (by decide) ?_
      exact r_iret (S := []) C r dX4_definitionReason_113 (by decide) rfl h
  by_cases c1_6 : p0 = 118
  · have h := h.2.2.2.2.2.2.1 c1_6
    refine r_tblIn C 95 (off := 94) dX4_definitionReason_1 (by rw [c1_6]; decide) (by rw [c1_6]; decide) (by rw [c1_6] <;> rfl) (by decide) ?_
    refine r_iload_n (j := 2) C 96 dX4_definitionReason_95 rfl rfl ?_
    refine r_iconst C 97 (v := 1) dX4_definitionReason_96 rfl (by decide) ?_
    refine r_bipush C 99 (v := 24) dX4_definitionReason_97 rfl (by decide) ?_
    refine r_cSI (b := 0) (as := [.int p1, .int 1, .int 24]) (S := []) C r.px 102 (ct_X4_isWithin _ _ _ _ _ _ h) dX4_definitionReason_99 rfl wd_432 wd_431 wd_433 wd_90 yd_X4_isWithin ⟨Nat.le_of_ble_eq_true rfl, Nat.le_of_ble_eq_true rfl⟩ (Nat.le_of_ble_eq_true rfl) (by decide) (fun r99 σ99 h => ?_)
    refine r_if_eq C 112 105 dX4_definitionReason_102 (by decide) rfl (fun c102 => ?_) (fun c102 => ?_)
    · have h := h.1 c102
      refine r_iconst C 113 (v := 2) dX4_definitionReason_112 rfl (by decide) ?_
      exact r_iret (S := []) C r dX4_definitionReason_113 (by decide) rfl h
    · have h := h.2 c102
      refine r_aload_n (j := 0) C 106 dX4_definitionReason_105 rfl rfl ?_
      refine r_cVI (as := []) (S := []) C r.px 109 (ct_X4_hoursReason  _ _ _ h) dX4_definitionReason_106 rfl cl6 kd_0 wd_29 wd_888 rfl wd_886 wd_889 wd_90 yd_X4_hoursReason ⟨Nat.le_of_ble_eq_true rfl, Nat.le_of_ble_eq_true rfl⟩ (Nat.le_of_ble_eq_true rfl) (by decide) (fun r106 σ106 h => ?_)
      refine r_goto C 113 dX4_definitionReason_109 (by decide) ?_
      exact r_iret (S := []) C r dX4_definitionReason_113 (by decide) rfl h
  by_cases c1_7 : p0 = 119
  · have h := h.2.2.2.2.2.2.2.1 c1_7
    refine r_tblIn C 95 (off := 94) dX4_definitionReason_1 (by rw [c1_7]; decide) (by rw [c1_7]; decide) (by rw [c1_7] <;> rfl) (by decide) ?_
    refine r_iload_n (j := 2) C 96 dX4_definitionReason_95 rfl rfl ?_
    refine r_iconst C 97 (v := 1) dX4_definitionReason_96 rfl (by decide) ?_
    refine r_bipush C 99 (v := 24) dX4_definitionReason_97 rfl (by decide) ?_
    refine r_cSI (b := 0) (as := [.int p1, .int 1, .int 24]) (S := []) C r.px 102 (ct_X4_isWithin _ _ _ _ _ _ h) dX4_definitionReason_99 rfl wd_432 wd_431 wd_433 wd_90 yd_X4_isWithin ⟨Nat.le_of_ble_eq_true rfl, Nat.le_of_ble_eq_true rfl⟩ (Nat.le_of_ble_eq_true rfl) (by decide) (fun r99 σ99 h => ?_)
    refine r_if_eq C 112 105 dX4_definitionReason_102 (by decide) rfl (fun c102 => ?_) (fun c102 => ?_)
    · have h := h.1 c102
      refine r_iconst C 113 (v := 2) dX4_definitionReason_112 rfl (by decide) ?_
      exact r_iret (S := []) C r dX4_definitionReason_113 (by decide) rfl h
    · have h := h.2 c102
      refine r_aload_n (j := 0) C 106 dX4_definitionReason_105 rfl rfl ?_
      refine r_cVI (as := []) (S := []) C r.px 109 (ct_X4_hoursReason  _ _ _ h) dX4_definitionReason_106 rfl cl6 kd_0 wd_29 wd_888 rfl wd_886 wd_889 wd_90 yd_X4_hoursReason ⟨Nat.le_of_ble_eq_true rfl, Nat.le_of_ble_eq_true rfl⟩ (Nat.le_of_ble_eq_true rfl) (by decide) (fun r106 σ106 h => ?_)
      refine r_goto C 113 dX4_definitionReason_109 (by decide) ?_
      exact r_iret (S := []) C r dX4_definitionReason_113 (by decide) rfl h
  by_cases c1_8 : p0 = 120
  · have h := h.2.2.2.2.2.2.2.2.1 c1_8
    refine r_tblIn C 80 (off := 79) dX4_definitionReason_1 (by rw [c1_8]; decide) (by rw [c1_8]; decide) (by rw [c1_8] <;> rfl) (by decide) ?_
    refine r_aload_n (j := 0) C 81 dX4_definitionReason_80 rfl rfl ?_
    refine r_get (k := 0) C cl6 84 dX4_definitionReason_81 rfl kd_0 (by decide) wd_358 (.ref 1) (fun _ => rfl) ?_
    refine r_iload_n (j := 2) C 85 dX4_definitionReason_84 rfl rfl ?_
    refine r_cVI (as := [.int p1]) (S := []) C r.px 88 (ct_X0_removalReason _ _ _ _ _ h) dX4_definitionReason_85 rfl cl2 kd_1 wd_833 wd_832 rfl wd_831 wd_834 wd_91 yd_X0_removalReason ⟨Nat.le_of_ble_eq_true rfl, Nat.le_of_ble_eq_true rfl⟩ (Nat.le_of_ble_eq_true rfl) (by decide) (fun r85 σ85 h => ?_)
    exact r_iret (S := []) C r dX4_definitionReason_88 (by decide) rfl h
  have h := h.2.2.2.2.2.2.2.2.2 c1_0 c1_1 c1_2 c1_3 c1_4 c1_5 c1_6 c1_7 c1_8
  refine r_tblOut C 95 dX4_definitionReason_1 (tsw_outL 112 9 (by decide) (by decide) (by decide) (fun k hk => by
    match k, hk with
    | 0, _ => exact c1_0
    | 1, _ => exact c1_1
    | 2, _ => exact c1_2
    | 3, _ => exact c1_3
    | 4, _ => exact c1_4
    | 5, _ => exact c1_5
    | 6, _ => exact c1_6
    | 7, _ => exact c1_7
    | 8, _ => exact c1_8
    | k + 9, hk => exact absurd hk (by omega))) (by decide) ?_
  refine r_iload_n (j := 2) C 96 dX4_definitionReason_95 rfl rfl ?_
  refine r_iconst C 97 (v := 1) dX4_definitionReason_96 rfl (by decide) ?_
  refine r_bipush C 99 (v := 24) dX4_definitionReason_97 rfl (by decide) ?_
  refine r_cSI (b := 0) (as := [.int p1, .int 1, .int 24]) (S := []) C r.px 102 (ct_X4_isWithin _ _ _ _ _ _ h) dX4_definitionReason_99 rfl wd_432 wd_431 wd_433 wd_90 yd_X4_isWithin ⟨Nat.le_of_ble_eq_true rfl, Nat.le_of_ble_eq_true rfl⟩ (Nat.le_of_ble_eq_true rfl) (by decide) (fun r99 σ99 h => ?_)
  refine r_if_eq C 112 105 dX4_definitionReason_102 (by decide) rfl (fun c102 => ?_) (fun c102 => ?_)
  · have h := h.1 c102
    refine r_iconst C 113 (v := 2) dX4_definitionReason_112 rfl (by decide) ?_
    exact r_iret (S := []) C r dX4_definitionReason_113 (by decide) rfl h
  · have h := h.2 c102
    refine r_aload_n (j := 0) C 106 dX4_definitionReason_105 rfl rfl ?_
    refine r_cVI (as := []) (S := []) C r.px 109 (ct_X4_hoursReason  _ _ _ h) dX4_definitionReason_106 rfl cl6 kd_0 wd_29 wd_888 rfl wd_886 wd_889 wd_90 yd_X4_hoursReason ⟨Nat.le_of_ble_eq_true rfl, Nat.le_of_ble_eq_true rfl⟩ (Nat.le_of_ble_eq_true rfl) (by decide) (fun r106 σ106 h => ?_)
    refine r_goto C 113 dX4_definitionReason_109 (by decide) ?_
    exact r_iret (S := []) C r dX4_definitionReason_113 (by decide) rfl h
theorem ct_X4_definitionReason (p0 : Int32) (p1 : Int32) (p2 : Int32) (p3 : Int32) (p4 : Int32) (σ : Mem) (K : Int32 → Mem → Prop) (X : String → Mem → Prop) (h : sp_X4_definitionReason p0 p1 p2 p3 p4 σ K X) : CtI yX4_definitionReason cX4_definitionReason 6 (some .int) 5 0 [.ref 0, .int p0, .int p1, .int p2, .int p3, .int p4] σ K X := by
  have h := h
  exact ctI_of (by decide +kernel) (Nat.le_of_ble_eq_true rfl) (fun x C r => sg_X4_definitionReason_0 C r p0 p1 p2 p3 p4  σ h)
/-! HeatNetwork.neededHead()J: level 8, exceptions 0 -/
def sp_X4_neededHead  (σ : Mem) (K : Int64 → Mem → Prop) (X : String → Mem → Prop) : Prop := (sp_X4_settle  σ (fun σ1 => sp_X2_greatestHead 53 σ1 (fun r12 σ12 => K r12 σ12) X) X)
set_option maxRecDepth 4000 in
theorem sg_X4_neededHead_0 {x : Ctx} {K : Int64 → Mem → Prop} {X : String → Mem → Prop} (C : Cx x RX4 cX4_neededHead 1) (r : RtL x 8 0 (some .long) K X)   (σ : Mem) (h : sp_X4_settle  σ (fun σ1 => sp_X2_greatestHead 53 σ1 (fun r12 σ12 => K r12 σ12) X) X) : Ws x 0 0 [(0, .ref 0)] [] σ := by
  refine r_aload_n (j := 0) C 1 dX4_neededHead_0 rfl rfl ?_
  refine r_cVV (as := []) (S := []) C r.px 4 (ct_X4_settle  _ _ _ h) dX4_neededHead_1 rfl cl6 kd_0 wd_0 wd_411 rfl wd_409 wd_412 wd_90 yd_X4_settle ⟨Nat.le_of_ble_eq_true rfl, Nat.le_of_ble_eq_true rfl⟩ (Nat.le_of_ble_eq_true rfl) (by decide) (fun σ1 h => ?_)
  refine r_aload_n (j := 0) C 5 dX4_neededHead_4 rfl rfl ?_
  refine r_get (k := 5) C cl6 8 dX4_neededHead_5 rfl kd_0 (by decide) wd_363 (.ref 53) (fun _ => rfl) ?_
  refine r_aload_n (j := 0) C 9 dX4_neededHead_8 rfl rfl ?_
  refine r_get (k := 4) C cl6 12 dX4_neededHead_9 rfl kd_0 (by decide) wd_362 (.ref 44) (fun _ => rfl) ?_
  refine r_cVL (as := [.ref 44]) (S := []) C r.px 15 (ct_X2_greatestHead _ _ _ _ h) dX4_neededHead_12 rfl cl4 kd_53 wd_569 wd_568 rfl wd_567 wd_570 wd_93 yd_X2_greatestHead ⟨Nat.le_of_ble_eq_true rfl, Nat.le_of_ble_eq_true rfl⟩ (Nat.le_of_ble_eq_true rfl) (by decide) (fun r12 σ12 h => ?_)
  exact r_lret (S := []) C r dX4_neededHead_15 (by decide) h
theorem ct_X4_neededHead  (σ : Mem) (K : Int64 → Mem → Prop) (X : String → Mem → Prop) (h : sp_X4_neededHead  σ K X) : CtL yX4_neededHead cX4_neededHead 1 (some .long) 8 0 [.ref 0] σ K X := by
  have h := h
  exact ctL_of (by decide +kernel) (Nat.le_of_ble_eq_true rfl) (fun x C r => sg_X4_neededHead_0 C r   σ h)
/-! HeatNetwork.removePipe(I)I: level 9, exceptions 1 -/
def sp_X4_removePipe (p0 : Int32) (σ : Mem) (K : Int32 → Mem → Prop) (X : String → Mem → Prop) : Prop := (sp_X4_needPipe p0 σ (fun σ2 => sp_X4_beginChange  σ2 (fun σ6 => sp_X0_dropPipe 1 p0 σ6 (fun σ14 => sp_X4_endChange  σ14 (fun σ18 => K (σ18.1 1 1) σ18) X) X) X) X)
set_option maxRecDepth 4000 in
theorem sg_X4_removePipe_0 {x : Ctx} {K : Int32 → Mem → Prop} {X : String → Mem → Prop} (C : Cx x RX4 cX4_removePipe 2) (r : RtI x 9 1 (some .int) K X) (p0 : Int32)  (σ : Mem) (h : sp_X4_needPipe p0 σ (fun σ2 => sp_X4_beginChange  σ2 (fun σ6 => sp_X0_dropPipe 1 p0 σ6 (fun σ14 => sp_X4_endChange  σ14 (fun σ18 => K (σ18.1 1 1) σ18) X) X) X) X) : Ws x 0 0 [(0, .ref 0), (1, .int p0)] [] σ := by
  refine r_aload_n (j := 0) C 1 dX4_removePipe_0 rfl rfl ?_
  refine r_iload_n (j := 1) C 2 dX4_removePipe_1 rfl rfl ?_
  refine r_cVV (as := [.int p0]) (S := []) C r.px 5 (ct_X4_needPipe _ _ _ _ h) dX4_removePipe_2 rfl cl6 kd_0 wd_27 wd_797 rfl wd_795 wd_798 wd_90 yd_X4_needPipe ⟨Nat.le_of_ble_eq_true rfl, Nat.le_of_ble_eq_true rfl⟩ (Nat.le_of_ble_eq_true rfl) (by decide) (fun σ2 h => ?_)
  refine r_aload_n (j := 0) C 6 dX4_removePipe_5 rfl rfl ?_
  refine r_cVV (as := []) (S := []) C r.px 9 (ct_X4_beginChange  _ _ _ h) dX4_removePipe_6 rfl cl6 kd_0 wd_24 wd_718 rfl wd_716 wd_719 wd_90 yd_X4_beginChange ⟨Nat.le_of_ble_eq_true rfl, Nat.le_of_ble_eq_true rfl⟩ (Nat.le_of_ble_eq_true rfl) (by decide) (fun σ6 h => ?_)
  refine r_aload_n (j := 0) C 10 dX4_removePipe_9 rfl rfl ?_
  refine r_get (k := 0) C cl6 13 dX4_removePipe_10 rfl kd_0 (by decide) wd_358 (.ref 1) (fun _ => rfl) ?_
  refine r_iload_n (j := 1) C 14 dX4_removePipe_13 rfl rfl ?_
  refine r_cVV (as := [.int p0]) (S := []) C r.px 17 (ct_X0_dropPipe _ _ _ _ _ h) dX4_removePipe_14 rfl cl2 kd_1 wd_802 wd_801 rfl wd_800 wd_803 wd_91 yd_X0_dropPipe ⟨Nat.le_of_ble_eq_true rfl, Nat.le_of_ble_eq_true rfl⟩ (Nat.le_of_ble_eq_true rfl) (by decide) (fun σ14 h => ?_)
  refine r_aload_n (j := 0) C 18 dX4_removePipe_17 rfl rfl ?_
  refine r_cVV (as := []) (S := []) C r.px 21 (ct_X4_endChange  _ _ _ h) dX4_removePipe_18 rfl cl6 kd_0 wd_25 wd_722 rfl wd_720 wd_723 wd_90 yd_X4_endChange ⟨Nat.le_of_ble_eq_true rfl, Nat.le_of_ble_eq_true rfl⟩ (Nat.le_of_ble_eq_true rfl) (by decide) (fun σ18 h => ?_)
  refine r_aload_n (j := 0) C 22 dX4_removePipe_21 rfl rfl ?_
  refine r_get (k := 0) C cl6 25 dX4_removePipe_22 rfl kd_0 (by decide) wd_358 (.ref 1) (fun _ => rfl) ?_
  refine r_get (k := 1) C cl2 28 dX4_removePipe_25 rfl kd_1 (by decide) wd_138 (.int (σ18.1 1 1)) (fun _ => rfl) ?_
  exact r_iret (S := []) C r dX4_removePipe_28 (by decide) rfl h
theorem ct_X4_removePipe (p0 : Int32) (σ : Mem) (K : Int32 → Mem → Prop) (X : String → Mem → Prop) (h : sp_X4_removePipe p0 σ K X) : CtI yX4_removePipe cX4_removePipe 2 (some .int) 9 1 [.ref 0, .int p0] σ K X := by
  have h := h
  exact ctI_of (by decide +kernel) (Nat.le_of_ble_eq_true rfl) (fun x C r => sg_X4_removePipe_0 C r p0  σ h)
