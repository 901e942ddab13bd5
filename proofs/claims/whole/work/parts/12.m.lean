/-! HeatNetwork$State.sendBack(LHeatNetwork$Network;II)V: level 3, exceptions 0 -/
def sp_X2_sendBack (t : Nat) (a : Nat) (p1 : Int32) (p2 : Int32) (σ : Mem) (K : Mem → Prop) (X : String → Mem → Prop) : Prop := (StaA t) ∧ (NetA a) ∧ (sp_X2_flowTo t a p1 p2 σ (fun r4 σ4 => (¬ r4 = 0 → sp_X0_farEnd a p1 p2 σ4 (fun r21 σ21 => sp_X4_isNode r21 σ21 (fun r28 σ28 => (¬ r28 = 0 → (vp_in p2 10) ∧ (∀ v41 : Int32, v41 = (σ28.1 (t + 7) p2.toNatClampNeg) → sp_X0_cooled a p1 r4 v41 σ28 (fun r49 σ49 => (vp_in p1 10) ∧ ((vp_in p1 10) ∧ (∀ σ72 : Mem, σ72 = wl σ49 (t + 11) p1.toNatClampNeg ((σ49.2.1 (t + 11) p1.toNatClampNeg) + ((r4).toInt64 * ((v41 - r49)).toInt64)) → (vp_in r21 10) ∧ ((vp_in r21 10) ∧ (∀ σ85 : Mem, σ85 = wl σ72 (t + 8) r21.toNatClampNeg ((σ72.2.1 (t + 8) r21.toNatClampNeg) + (r4).toInt64) → (vp_in r21 10) ∧ ((vp_in r21 10) ∧ (∀ σ102 : Mem, σ102 = wl σ85 (t + 9) r21.toNatClampNeg ((σ85.2.1 (t + 9) r21.toNatClampNeg) + ((r4).toInt64 * (r49).toInt64)) → K σ102))))))) X)) ∧ (r28 = 0 → K σ28)) X) X) ∧ (r4 = 0 → sp_X4_isNode (-1) σ4 (fun r28 σ28 => (¬ r28 = 0 → (vp_in p2 10) ∧ (∀ v41 : Int32, v41 = (σ28.1 (t + 7) p2.toNatClampNeg) → sp_X0_cooled a p1 r4 v41 σ28 (fun r49 σ49 => (vp_in p1 10) ∧ ((vp_in p1 10) ∧ (∀ σ72 : Mem, σ72 = wl σ49 (t + 11) p1.toNatClampNeg ((σ49.2.1 (t + 11) p1.toNatClampNeg) + ((r4).toInt64 * ((v41 - r49)).toInt64)) → (vp_in (-1 : Int32) 10) ∧ ((vp_in (-1 : Int32) 10) ∧ (∀ σ85 : Mem, σ85 = wl σ72 (t + 8) ((-1 : Int32)).toNatClampNeg ((σ72.2.1 (t + 8) ((-1 : Int32)).toNatClampNeg) + (r4).toInt64) → (vp_in (-1 : Int32) 10) ∧ ((vp_in (-1 : Int32) 10) ∧ (∀ σ102 : Mem, σ102 = wl σ85 (t + 9) ((-1 : Int32)).toNatClampNeg ((σ85.2.1 (t + 9) ((-1 : Int32)).toNatClampNeg) + ((r4).toInt64 * (r49).toInt64)) → K σ102))))))) X)) ∧ (r28 = 0 → K σ28)) X)) X)
set_option maxRecDepth 4000 in
theorem sg_X2_sendBack_0 {x : Ctx} {K : Mem → Prop} {X : String → Mem → Prop} (C : Cx x RX2 cX2_sendBack 8) (r : RtV x 3 0 none K X) (t : Nat) (a : Nat) (p1 : Int32) (p2 : Int32) (ht : StaA t) (ha : NetA a) (σ : Mem) (h : sp_X2_flowTo t a p1 p2 σ (fun r4 σ4 => (¬ r4 = 0 → sp_X0_farEnd a p1 p2 σ4 (fun r21 σ21 => sp_X4_isNode r21 σ21 (fun r28 σ28 => (¬ r28 = 0 → (vp_in p2 10) ∧ (∀ v41 : Int32, v41 = (σ28.1 (t + 7) p2.toNatClampNeg) → sp_X0_cooled a p1 r4 v41 σ28 (fun r49 σ49 => (vp_in p1 10) ∧ ((vp_in p1 10) ∧ (∀ σ72 : Mem, σ72 = wl σ49 (t + 11) p1.toNatClampNeg ((σ49.2.1 (t + 11) p1.toNatClampNeg) + ((r4).toInt64 * ((v41 - r49)).toInt64)) → (vp_in r21 10) ∧ ((vp_in r21 10) ∧ (∀ σ85 : Mem, σ85 = wl σ72 (t + 8) r21.toNatClampNeg ((σ72.2.1 (t + 8) r21.toNatClampNeg) + (r4).toInt64) → (vp_in r21 10) ∧ ((vp_in r21 10) ∧ (∀ σ102 : Mem, σ102 = wl σ85 (t + 9) r21.toNatClampNeg ((σ85.2.1 (t + 9) r21.toNatClampNeg) + ((r4).toInt64 * (r49).toInt64)) → K σ102))))))) X)) ∧ (r28 = 0 → K σ28)) X) X) ∧ (r4 = 0 → sp_X4_isNode (-1) σ4 (fun r28 σ28 => (¬ r28 = 0 → (vp_in p2 10) ∧ (∀ v41 : Int32, v41 = (σ28.1 (t + 7) p2.toNatClampNeg) → sp_X0_cooled a p1 r4 v41 σ28 (fun r49 σ49 => (vp_in p1 10) ∧ ((vp_in p1 10) ∧ (∀ σ72 : Mem, σ72 = wl σ49 (t + 11) p1.toNatClampNeg ((σ49.2.1 (t + 11) p1.toNatClampNeg) + ((r4).toInt64 * ((v41 - r49)).toInt64)) → (vp_in (-1 : Int32) 10) ∧ ((vp_in (-1 : Int32) 10) ∧ (∀ σ85 : Mem, σ85 = wl σ72 (t + 8) ((-1 : Int32)).toNatClampNeg ((σ72.2.1 (t + 8) ((-1 : Int32)).toNatClampNeg) + (r4).toInt64) → (vp_in (-1 : Int32) 10) ∧ ((vp_in (-1 : Int32) 10) ∧ (∀ σ102 : Mem, σ102 = wl σ85 (t + 9) ((-1 : Int32)).toNatClampNeg ((σ85.2.1 (t + 9) ((-1 : Int32)).toNatClampNeg) + ((r4).toInt64 * (r49).toInt64)) → K σ102))))))) X)) ∧ (r28 = 0 → K σ28)) X)) X) : Ws x 0 0 [(0, .ref t), (1, .ref a), (2, .int p1), (3, .int p2)] [] σ := by
  refine r_aload_n (j := 0) C 1 dX2_sendBack_0 rfl rfl ?_
  refine r_aload_n (j := 1) C 2 dX2_sendBack_1 rfl rfl ?_
  refine r_iload_n (j := 2) C 3 dX2_sendBack_2 rfl rfl ?_
  refine r_iload_n (j := 3) C 4 dX2_sendBack_3 rfl rfl ?_
  refine r_cVI (as := [.ref a, .int p1, .int p2]) (S := []) C r.px 7 (ct_X2_flowTo _ _ _ _ _ _ _ h) dX2_sendBack_4 rfl cl4 (sta0 ht) wd_18 wd_542 rfl wd_540 wd_543 wd_93 yd_X2_flowTo ⟨Nat.le_of_ble_eq_true rfl, Nat.le_of_ble_eq_true rfl⟩ (Nat.le_of_ble_eq_true rfl) (by decide) (fun r4 σ4 h => ?_)
  refine r_istore C 9 [(4, .int r4), (0, .ref t), (1, .ref a), (2, .int p1), (3, .int p2)] dX2_sendBack_7 rfl (by decide) rfl ?_
  refine r_iload (j := 0) C 11 dX2_sendBack_9 rfl rfl ?_
  refine r_if_ne C 18 14 dX2_sendBack_11 (by decide) rfl (fun c11 => ?_) (fun c11 => ?_)
  · have h := h.1 c11
    refine r_aload_n (j := 2) C 19 dX2_sendBack_18 rfl rfl ?_
    refine r_iload_n (j := 3) C 20 dX2_sendBack_19 rfl rfl ?_
    refine r_iload_n (j := 4) C 21 dX2_sendBack_20 rfl rfl ?_
    refine r_cVI (as := [.int p1, .int p2]) (S := []) C r.px 24 (ct_X0_farEnd _ _ _ _ _ _ h) dX2_sendBack_21 rfl cl2 (net0 ha) wd_426 wd_425 rfl wd_545 wd_427 wd_91 yd_X0_farEnd ⟨Nat.le_of_ble_eq_true rfl, Nat.le_of_ble_eq_true rfl⟩ (Nat.le_of_ble_eq_true rfl) (by decide) (fun r21 σ21 h => ?_)
    refine r_istore C 26 [(5, .int r21), (4, .int r4), (0, .ref t), (1, .ref a), (2, .int p1), (3, .int p2)] dX2_sendBack_24 rfl (by decide) rfl ?_
    refine r_iload (j := 0) C 28 dX2_sendBack_26 rfl rfl ?_
    refine r_cNI (b := 0) (as := [.int r21]) (S := []) C r.px 31 (ct_X4_isNode _ _ _ _ h) dX2_sendBack_28 rfl wd_429 (nbd_492) wd_430 wd_90 yd_X4_isNode ⟨Nat.le_of_ble_eq_true rfl, Nat.le_of_ble_eq_true rfl⟩ (Nat.le_of_ble_eq_true rfl) (by decide) (fun r28 σ28 h => ?_)
    refine r_if_ne C 35 34 dX2_sendBack_31 (by decide) rfl (fun c31 => ?_) (fun c31 => ?_)
    · have h := h.1 c31
      refine r_aload_n (j := 2) C 36 dX2_sendBack_35 rfl rfl ?_
      refine r_get (k := 6) C cl4 39 dX2_sendBack_36 rfl (sta0 ht) (by decide) wd_285 (.ref (t + 7)) (fun _ => rfl) ?_
      refine r_iload_n (j := 5) C 40 dX2_sendBack_39 rfl rfl ?_
      obtain ⟨o40, h⟩ := h
      refine r_iald C 41 dX2_sendBack_40 rfl (sta7 ht) o40 ?_
      refine r_nmI (fun v41 e41 => ?_)
      have h := h v41 e41
      refine r_istore C 43 [(6, .int v41), (5, .int r21), (4, .int r4), (0, .ref t), (1, .ref a), (2, .int p1), (3, .int p2)] dX2_sendBack_41 rfl (by decide) rfl ?_
      refine r_aload_n (j := 4) C 44 dX2_sendBack_43 rfl rfl ?_
      refine r_iload_n (j := 5) C 45 dX2_sendBack_44 rfl rfl ?_
      refine r_iload (j := 2) C 47 dX2_sendBack_45 rfl rfl ?_
      refine r_iload (j := 0) C 49 dX2_sendBack_47 rfl rfl ?_
      refine r_cVI (as := [.int p1, .int r4, .int v41]) (S := []) C r.px 52 (ct_X0_cooled _ _ _ _ _ _ _ h) dX2_sendBack_49 rfl cl2 (net0 ha) wd_548 wd_547 rfl wd_546 wd_549 wd_91 yd_X0_cooled ⟨Nat.le_of_ble_eq_true rfl, Nat.le_of_ble_eq_true rfl⟩ (Nat.le_of_ble_eq_true rfl) (by decide) (fun r49 σ49 h => ?_)
      refine r_istore C 54 [(7, .int r49), (6, .int v41), (5, .int r21), (4, .int r4), (0, .ref t), (1, .ref a), (2, .int p1), (3, .int p2)] dX2_sendBack_52 rfl (by decide) rfl ?_
      refine r_aload_n (j := 4) C 55 dX2_sendBack_54 rfl rfl ?_
      refine r_get (k := 10) C cl4 58 dX2_sendBack_55 rfl (sta0 ht) (by decide) wd_291 (.ref (t + 11)) (fun _ => rfl) ?_
      refine r_iload_n (j := 6) C 59 dX2_sendBack_58 rfl rfl ?_
      refine r_dup2 C 60 dX2_sendBack_59 rfl rfl rfl ?_
      obtain ⟨o60, h⟩ := h
      refine r_lald C 61 dX2_sendBack_60 rfl (sta11 ht) o60 ?_
      refine r_iload (j := 3) C 63 dX2_sendBack_61 rfl rfl ?_
      refine r_i2l C 64 dX2_sendBack_63 rfl ?_
      refine r_iload (j := 1) C 66 dX2_sendBack_64 rfl rfl ?_
      refine r_iload (j := 0) C 68 dX2_sendBack_66 rfl rfl ?_
      refine r_isub C 69 dX2_sendBack_68 rfl ?_
      refine r_i2l C 70 dX2_sendBack_69 rfl ?_
      refine r_lmul C 71 dX2_sendBack_70 rfl ?_
      refine r_ladd C 72 dX2_sendBack_71 rfl ?_
      obtain ⟨o72, h⟩ := h
      refine r_last C 73 dX2_sendBack_72 rfl (sta11 ht) o72 ?_
      refine r_nmS (fun σ72 e72 => ?_)
      have h := h σ72 e72
      refine r_aload_n (j := 4) C 74 dX2_sendBack_73 rfl rfl ?_
      refine r_get (k := 7) C cl4 77 dX2_sendBack_74 rfl (sta0 ht) (by decide) wd_287 (.ref (t + 8)) (fun _ => rfl) ?_
      refine r_iload (j := 2) C 79 dX2_sendBack_77 rfl rfl ?_
      refine r_dup2 C 80 dX2_sendBack_79 rfl rfl rfl ?_
      obtain ⟨o80, h⟩ := h
      refine r_lald C 81 dX2_sendBack_80 rfl (sta8 ht) o80 ?_
      refine r_iload (j := 3) C 83 dX2_sendBack_81 rfl rfl ?_
      refine r_i2l C 84 dX2_sendBack_83 rfl ?_
      refine r_ladd C 85 dX2_sendBack_84 rfl ?_
      obtain ⟨o85, h⟩ := h
      refine r_last C 86 dX2_sendBack_85 rfl (sta8 ht) o85 ?_
      refine r_nmS (fun σ85 e85 => ?_)
      have h := h σ85 e85
      refine r_aload_n (j := 4) C 87 dX2_sendBack_86 rfl rfl ?_
      refine r_get (k := 8) C cl4 90 dX2_sendBack_87 rfl (sta0 ht) (by decide) wd_288 (.ref (t + 9)) (fun _ => rfl) ?_
      refine r_iload (j := 2) C 92 dX2_sendBack_90 rfl rfl ?_
      refine r_dup2 C 93 dX2_sendBack_92 rfl rfl rfl ?_
      obtain ⟨o93, h⟩ := h
      refine r_lald C 94 dX2_sendBack_93 rfl (sta9 ht) o93 ?_
      refine r_iload (j := 3) C 96 dX2_sendBack_94 rfl rfl ?_
      refine r_i2l C 97 dX2_sendBack_96 rfl ?_
      refine r_iload (j := 0) C 99 dX2_sendBack_97 rfl rfl ?_
      refine r_i2l C 100 dX2_sendBack_99 rfl ?_
      refine r_lmul C 101 dX2_sendBack_100 rfl ?_
      refine r_ladd C 102 dX2_sendBack_101 rfl ?_
      obtain ⟨o102, h⟩ := h
      refine r_last C 103 dX2_sendBack_102 rfl (sta9 ht) o102 ?_
      refine r_nmS (fun σ102 e102 => ?_)
      have h := h σ102 e102
      exact r_vret (S := []) C r dX2_sendBack_103 (by decide) h
    · have h := h.2 c31
      exact r_vret (S := []) C r dX2_sendBack_34 (by decide) h
  · have h := h.2 c11
    refine r_iconst C 15 (v := (-1)) dX2_sendBack_14 rfl (by decide) ?_
    refine r_goto C 24 dX2_sendBack_15 (by decide) ?_
    refine r_istore C 26 [(5, .int (-1)), (4, .int r4), (0, .ref t), (1, .ref a), (2, .int p1), (3, .int p2)] dX2_sendBack_24 rfl (by decide) rfl ?_
    refine r_iload (j := 0) C 28 dX2_sendBack_26 rfl rfl ?_
    refine r_cNI (b := 0) (as := [.int (-1)]) (S := []) C r.px 31 (ct_X4_isNode _ _ _ _ h) dX2_sendBack_28 rfl wd_429 (nbd_492) wd_430 wd_90 yd_X4_isNode ⟨Nat.le_of_ble_eq_true rfl, Nat.le_of_ble_eq_true rfl⟩ (Nat.le_of_ble_eq_true rfl) (by decide) (fun r28 σ28 h => ?_)
    refine r_if_ne C 35 34 dX2_sendBack_31 (by decide) rfl (fun c31 => ?_) (fun c31 => ?_)
    · have h := h.1 c31
      refine r_aload_n (j := 2) C 36 dX2_sendBack_35 rfl rfl ?_
      refine r_get (k := 6) C cl4 39 dX2_sendBack_36 rfl (sta0 ht) (by decide) wd_285 (.ref (t + 7)) (fun _ => rfl) ?_
      refine r_iload_n (j := 5) C 40 dX2_sendBack_39 rfl rfl ?_
      obtain ⟨o40, h⟩ := h
      refine r_iald C 41 dX2_sendBack_40 rfl (sta7 ht) o40 ?_
      refine r_nmI (fun v41 e41 => ?_)
      have h := h v41 e41
      refine r_istore C 43 [(6, .int v41), (5, .int (-1)), (4, .int r4), (0, .ref t), (1, .ref a), (2, .int p1), (3, .int p2)] dX2_sendBack_41 rfl (by decide) rfl ?_
      refine r_aload_n (j := 4) C 44 dX2_sendBack_43 rfl rfl ?_
      refine r_iload_n (j := 5) C 45 dX2_sendBack_44 rfl rfl ?_
      refine r_iload (j := 2) C 47 dX2_sendBack_45 rfl rfl ?_
      refine r_iload (j := 0) C 49 dX2_sendBack_47 rfl rfl ?_
      refine r_cVI (as := [.int p1, .int r4, .int v41]) (S := []) C r.px 52 (ct_X0_cooled _ _ _ _ _ _ _ h) dX2_sendBack_49 rfl cl2 (net0 ha) wd_548 wd_547 rfl wd_546 wd_549 wd_91 yd_X0_cooled ⟨Nat.le_of_ble_eq_true rfl, Nat.le_of_ble_eq_true rfl⟩ (Nat.le_of_ble_eq_true rfl) (by decide) (fun r49 σ49 h => ?_)
      refine r_istore C 54 [(7, .int r49), (6, .int v41), (5, .int (-1)), (4, .int r4), (0, .ref t), (1, .ref a), (2, .int p1), (3, .int p2)] dX2_sendBack_52 rfl (by decide) rfl ?_
      refine r_aload_n (j := 4) C 55 dX2_sendBack_54 rfl rfl ?_
      refine r_get (k := 10) C cl4 58 dX2_sendBack_55 rfl (sta0 ht) (by decide) wd_291 (.ref (t + 11)) (fun _ => rfl) ?_
      refine r_iload_n (j := 6) C 59 dX2_sendBack_58 rfl rfl ?_
      refine r_dup2 C 60 dX2_sendBack_59 rfl rfl rfl ?_
      obtain ⟨o60, h⟩ := h
      refine r_lald C 61 dX2_sendBack_60 rfl (sta11 ht) o60 ?_
      refine r_iload (j := 3) C 63 dX2_sendBack_61 rfl rfl ?_
      refine r_i2l C 64 dX2_sendBack_63 rfl ?_
      refine r_iload (j := 1) C 66 dX2_sendBack_64 rfl rfl ?_
      refine r_iload (j := 0) C 68 dX2_sendBack_66 rfl rfl ?_
      refine r_isub C 69 dX2_sendBack_68 rfl ?_
      refine r_i2l C 70 dX2_sendBack_69 rfl ?_
      refine r_lmul C 71 dX2_sendBack_70 rfl ?_
      refine r_ladd C 72 dX2_sendBack_71 rfl ?_
      obtain ⟨o72, h⟩ := h
      refine r_last C 73 dX2_sendBack_72 rfl (sta11 ht) o72 ?_
      refine r_nmS (fun σ72 e72 => ?_)
      have h := h σ72 e72
      refine r_aload_n (j := 4) C 74 dX2_sendBack_73 rfl rfl ?_
      refine r_get (k := 7) C cl4 77 dX2_sendBack_74 rfl (sta0 ht) (by decide) wd_287 (.ref (t + 8)) (fun _ => rfl) ?_
      refine r_iload (j := 2) C 79 dX2_sendBack_77 rfl rfl ?_
      refine r_dup2 C 80 dX2_sendBack_79 rfl rfl rfl ?_
      obtain ⟨o80, h⟩ := h
      refine r_lald C 81 dX2_sendBack_80 rfl (sta8 ht) o80 ?_
      refine r_iload (j := 3) C 83 dX2_sendBack_81 rfl rfl ?_
      refine r_i2l C 84 dX2_sendBack_83 rfl ?_
      refine r_ladd C 85 dX2_sendBack_84 rfl ?_
      obtain ⟨o85, h⟩ := h
      refine r_last C 86 dX2_sendBack_85 rfl (sta8 ht) o85 ?_
      refine r_nmS (fun σ85 e85 => ?_)
      have h := h σ85 e85
      refine r_aload_n (j := 4) C 87 dX2_sendBack_86 rfl rfl ?_
      refine r_get (k := 8) C cl4 90 dX2_sendBack_87 rfl (sta0 ht) (by decide) wd_288 (.ref (t + 9)) (fun _ => rfl) ?_
      refine r_iload (j := 2) C 92 dX2_sendBack_90 rfl rfl ?_
      refine r_dup2 C 93 dX2_sendBack_92 rfl rfl rfl ?_
      obtain ⟨o93, h⟩ := h
      refine r_lald C 94 dX2_sendBack_93 rfl (sta9 ht) o93 ?_
      refine r_iload (j := 3) C 96 dX2_sendBack_94 rfl rfl ?_
      refine r_i2l C 97 dX2_sendBack_96 rfl ?_
      refine r_iload (j := 0) C 99 dX2_sendBack_97 rfl rfl ?_
      refine r_i2l C 100 dX2_sendBack_99 rfl ?_
      refine r_lmul C 101 dX2_sendBack_100 rfl ?_
      refine r_ladd C 102 dX2_sendBack_101 rfl ?_
      obtain ⟨o102, h⟩ := h
      refine r_last C 103 dX2_sendBack_102 rfl (sta9 ht) o102 ?_
      refine r_nmS (fun σ102 e102 => ?_)
      have h := h σ102 e102
      exact r_vret (S := []) C r dX2_sendBack_103 (by decide) h
    · have h := h.2 c31
      exact r_vret (S := []) C r dX2_sendBack_34 (by decide) h
theorem ct_X2_sendBack (t : Nat) (a : Nat) (p1 : Int32) (p2 : Int32) (σ : Mem) (K : Mem → Prop) (X : String → Mem → Prop) (h : sp_X2_sendBack t a p1 p2 σ K X) : CtV yX2_sendBack cX2_sendBack 8 none 3 0 [.ref t, .ref a, .int p1, .int p2] σ K X := by
  obtain ⟨ht, ha, h⟩ := h
  exact ctV_of (by decide +kernel) (Nat.le_of_ble_eq_true rfl) (fun x C r => sg_X2_sendBack_0 C r t a p1 p2 ht ha σ h)
/-! HeatNetworkModel.drawn(II)I: level 3, exceptions 0 -/
def sp_X5_drawn (p0 : Int32) (p1 : Int32) (σ : Mem) (K : Int32 → Mem → Prop) (X : String → Mem → Prop) : Prop := ((vp_in ((48 + (6 * p0)) + 2) 108) ∧ (∀ v14 : Int32, v14 = (σ.1 210 (((48 + (6 * p0)) + 2)).toNatClampNeg) → (vp_in p0 10) ∧ (((σ.1 219 p0.toNatClampNeg) < 0 → K 0 σ) ∧ (¬ (σ.1 219 p0.toNatClampNeg) < 0 → ((v14 + 50) ≤ p1 → ∀ v37 : Int32, v37 = (p1 - v14) → (vp_in ((48 + (6 * p0)) + 3) 108) ∧ (sp_X5_wants p0 σ (fun r55 σ55 => (¬ v37 = (0 : Int32)) ∧ (sp_J9_min_7cf53 (σ.1 210 (((48 + (6 * p0)) + 3)).toNatClampNeg) (((r55 + v37) - 1) / v37) σ55 (fun r66 σ66 => K r66 σ66) X)) X)) ∧ (¬ (v14 + 50) ≤ p1 → K 0 σ)))))
set_option maxRecDepth 4000 in
theorem sg_X5_drawn_0 {x : Ctx} {K : Int32 → Mem → Prop} {X : String → Mem → Prop} (C : Cx x RX5 cX5_drawn 5) (r : RtI x 3 0 (some .int) K X) (p0 : Int32) (p1 : Int32)  (σ : Mem) (h : (vp_in ((48 + (6 * p0)) + 2) 108) ∧ (∀ v14 : Int32, v14 = (σ.1 210 (((48 + (6 * p0)) + 2)).toNatClampNeg) → (vp_in p0 10) ∧ (((σ.1 219 p0.toNatClampNeg) < 0 → K 0 σ) ∧ (¬ (σ.1 219 p0.toNatClampNeg) < 0 → ((v14 + 50) ≤ p1 → ∀ v37 : Int32, v37 = (p1 - v14) → (vp_in ((48 + (6 * p0)) + 3) 108) ∧ (sp_X5_wants p0 σ (fun r55 σ55 => (¬ v37 = (0 : Int32)) ∧ (sp_J9_min_7cf53 (σ.1 210 (((48 + (6 * p0)) + 3)).toNatClampNeg) (((r55 + v37) - 1) / v37) σ55 (fun r66 σ66 => K r66 σ66) X)) X)) ∧ (¬ (v14 + 50) ≤ p1 → K 0 σ))))) : Ws x 0 0 [(0, .ref 209), (1, .int p0), (2, .int p1)] [] σ := by
  refine r_aload_n (j := 0) C 1 dX5_drawn_0 rfl rfl ?_
  refine r_get (k := 1) C cl7 4 dX5_drawn_1 rfl kd_209 (by decide) wd_1213 (.ref 210) (fun _ => rfl) ?_
  refine r_bipush C 6 (v := 48) dX5_drawn_4 rfl (by decide) ?_
  refine r_bipush C 8 (v := 6) dX5_drawn_6 rfl (by decide) ?_
  refine r_iload_n (j := 1) C 9 dX5_drawn_8 rfl rfl ?_
  refine r_imul C 10 dX5_drawn_9 rfl ?_
  refine r_iadd C 11 dX5_drawn_10 rfl ?_
  refine r_iconst C 12 (v := 2) dX5_drawn_11 rfl (by decide) ?_
  refine r_iadd C 13 dX5_drawn_12 rfl ?_
  obtain ⟨o13, h⟩ := h
  refine r_iald C 14 dX5_drawn_13 rfl kd_210 o13 ?_
  refine r_nmI (fun v14 e14 => ?_)
  have h := h v14 e14
  refine r_istore_n C 15 [(3, .int v14), (0, .ref 209), (1, .int p0), (2, .int p1)] dX5_drawn_14 rfl (by decide) rfl ?_
  refine r_aload_n (j := 1) C 16 dX5_drawn_15 rfl rfl ?_
  refine r_get (k := 16) C cl7 19 dX5_drawn_16 rfl kd_209 (by decide) wd_1228 (.ref 219) (fun _ => rfl) ?_
  refine r_iload_n (j := 2) C 20 dX5_drawn_19 rfl rfl ?_
  obtain ⟨o20, h⟩ := h
  refine r_iald C 21 dX5_drawn_20 rfl kd_219 o20 ?_
  refine r_if_lt C 32 24 dX5_drawn_21 (by decide) rfl (fun c21 => ?_) (fun c21 => ?_)
  · have h := h.1 c21
    refine r_iconst C 33 (v := 0) dX5_drawn_32 rfl (by decide) ?_
    exact r_iret (S := []) C r dX5_drawn_33 (by decide) rfl h
  · have h := h.2 c21
    refine r_iload_n (j := 3) C 25 dX5_drawn_24 rfl rfl ?_
    refine r_iload_n (j := 0) C 26 dX5_drawn_25 rfl rfl ?_
    refine r_bipush C 28 (v := 50) dX5_drawn_26 rfl (by decide) ?_
    refine r_iadd C 29 dX5_drawn_28 rfl ?_
    refine r_icmp_ge C 34 32 dX5_drawn_29 (by decide) rfl (fun c29 => ?_) (fun c29 => ?_)
    · have h := h.1 c29
      refine r_iload_n (j := 3) C 35 dX5_drawn_34 rfl rfl ?_
      refine r_iload_n (j := 0) C 36 dX5_drawn_35 rfl rfl ?_
      refine r_isub C 37 dX5_drawn_36 rfl ?_
      refine r_nmI (fun v37 e37 => ?_)
      have h := h v37 e37
      refine r_istore C 39 [(4, .int v37), (3, .int v14), (0, .ref 209), (1, .int p0), (2, .int p1)] dX5_drawn_37 rfl (by decide) rfl ?_
      refine r_aload_n (j := 2) C 40 dX5_drawn_39 rfl rfl ?_
      refine r_get (k := 1) C cl7 43 dX5_drawn_40 rfl kd_209 (by decide) wd_1213 (.ref 210) (fun _ => rfl) ?_
      refine r_bipush C 45 (v := 48) dX5_drawn_43 rfl (by decide) ?_
      refine r_bipush C 47 (v := 6) dX5_drawn_45 rfl (by decide) ?_
      refine r_iload_n (j := 3) C 48 dX5_drawn_47 rfl rfl ?_
      refine r_imul C 49 dX5_drawn_48 rfl ?_
      refine r_iadd C 50 dX5_drawn_49 rfl ?_
      refine r_iconst C 51 (v := 3) dX5_drawn_50 rfl (by decide) ?_
      refine r_iadd C 52 dX5_drawn_51 rfl ?_
      obtain ⟨o52, h⟩ := h
      refine r_iald C 53 dX5_drawn_52 rfl kd_210 o52 ?_
      refine r_aload_n (j := 2) C 54 dX5_drawn_53 rfl rfl ?_
      refine r_iload_n (j := 3) C 55 dX5_drawn_54 rfl rfl ?_
      refine r_cVI (as := [.int p0]) (S := [.int (σ.1 210 (((48 + (6 * p0)) + 3)).toNatClampNeg)]) C r.px 58 (ct_X5_wants _ _ _ _ h) dX5_drawn_55 rfl cl7 kd_209 wd_59 wd_1440 rfl wd_1438 wd_1441 wd_95 yd_X5_wants ⟨Nat.le_of_ble_eq_true rfl, Nat.le_of_ble_eq_true rfl⟩ (Nat.le_of_ble_eq_true rfl) (by decide) (fun r55 σ55 h => ?_)
      refine r_iload (j := 0) C 60 dX5_drawn_58 rfl rfl ?_
      refine r_iadd C 61 dX5_drawn_60 rfl ?_
      refine r_iconst C 62 (v := 1) dX5_drawn_61 rfl (by decide) ?_
      refine r_isub C 63 dX5_drawn_62 rfl ?_
      refine r_iload (j := 0) C 65 dX5_drawn_63 rfl rfl ?_
      obtain ⟨o65, h⟩ := h
      refine r_idiv C 66 dX5_drawn_65 rfl o65 ?_
      refine r_cSI (b := 0) (as := [.int (σ.1 210 (((48 + (6 * p0)) + 3)).toNatClampNeg), .int (((r55 + v37) - 1) / v37)]) (S := []) C r.px 69 (ct_J9_min_7cf53 _ _ _ _ _ h) dX5_drawn_66 rfl wd_483 wd_1443 wd_484 wd_104 yd_J9_min_7cf53 ⟨Nat.le_of_ble_eq_true rfl, Nat.le_of_ble_eq_true rfl⟩ (Nat.le_of_ble_eq_true rfl) (by decide) (fun r66 σ66 h => ?_)
      exact r_iret (S := []) C r dX5_drawn_69 (by decide) rfl h
    · have h := h.2 c29
      refine r_iconst C 33 (v := 0) dX5_drawn_32 rfl (by decide) ?_
      exact r_iret (S := []) C r dX5_drawn_33 (by decide) rfl h
theorem ct_X5_drawn (p0 : Int32) (p1 : Int32) (σ : Mem) (K : Int32 → Mem → Prop) (X : String → Mem → Prop) (h : sp_X5_drawn p0 p1 σ K X) : CtI yX5_drawn cX5_drawn 5 (some .int) 3 0 [.ref 209, .int p0, .int p1] σ K X := by
  have h := h
  exact ctI_of (by decide +kernel) (Nat.le_of_ble_eq_true rfl) (fun x C r => sg_X5_drawn_0 C r p0 p1  σ h)
/-! HeatNetworkModel.goneBy(I)I: level 3, exceptions 0 -/
def sp_X5_goneBy (p0 : Int32) (σ : Mem) (K : Int32 → Mem → Prop) (X : String → Mem → Prop) : Prop := (sp_X5_in p0 1 9 σ (fun r4 σ4 => (¬ r4 = 0 → sp_X5_hasStation p0 σ4 (fun r14 σ14 => (¬ r14 = 0 → (vp_in (48 + (6 * p0)) 108) ∧ (∀ σ35 : Mem, σ35 = wi σ14 210 ((48 + (6 * p0))).toNatClampNeg 0 → K 0 σ35)) ∧ (r14 = 0 → K 6 σ14)) X) ∧ (r4 = 0 → K 1 σ4)) X)
set_option maxRecDepth 4000 in
theorem sg_X5_goneBy_0 {x : Ctx} {K : Int32 → Mem → Prop} {X : String → Mem → Prop} (C : Cx x RX5 cX5_goneBy 2) (r : RtI x 3 0 (some .int) K X) (p0 : Int32)  (σ : Mem) (h : sp_X5_in p0 1 9 σ (fun r4 σ4 => (¬ r4 = 0 → sp_X5_hasStation p0 σ4 (fun r14 σ14 => (¬ r14 = 0 → (vp_in (48 + (6 * p0)) 108) ∧ (∀ σ35 : Mem, σ35 = wi σ14 210 ((48 + (6 * p0))).toNatClampNeg 0 → K 0 σ35)) ∧ (r14 = 0 → K 6 σ14)) X) ∧ (r4 = 0 → K 1 σ4)) X) : Ws x 0 0 [(0, .ref 209), (1, .int p0)] [] σ := by
  refine r_iload_n (j := 1) C 1 dX5_goneBy_0 rfl rfl ?_
  refine r_iconst C 2 (v := 1) dX5_goneBy_1 rfl (by decide) ?_
  refine r_bipush C 4 (v := 9) dX5_goneBy_2 rfl (by decide) ?_
  refine r_cSI (b := 0) (as := [.int p0, .int 1, .int 9]) (S := []) C r.px 7 (ct_X5_in _ _ _ _ _ _ h) dX5_goneBy_4 rfl wd_1321 wd_1320 wd_1322 wd_95 yd_X5_in ⟨Nat.le_of_ble_eq_true rfl, Nat.le_of_ble_eq_true rfl⟩ (Nat.le_of_ble_eq_true rfl) (by decide) (fun r4 σ4 h => ?_)
  refine r_if_ne C 12 10 dX5_goneBy_7 (by decide) rfl (fun c7 => ?_) (fun c7 => ?_)
  · have h := h.1 c7
    refine r_aload_n (j := 0) C 13 dX5_goneBy_12 rfl rfl ?_
    refine r_iload_n (j := 1) C 14 dX5_goneBy_13 rfl rfl ?_
    refine r_cVI (as := [.int p0]) (S := []) C r.px 17 (ct_X5_hasStation _ _ _ _ h) dX5_goneBy_14 rfl cl7 kd_209 wd_52 wd_1396 rfl wd_1394 wd_1397 wd_95 yd_X5_hasStation ⟨Nat.le_of_ble_eq_true rfl, Nat.le_of_ble_eq_true rfl⟩ (Nat.le_of_ble_eq_true rfl) (by decide) (fun r14 σ14 h => ?_)
    refine r_if_ne C 23 20 dX5_goneBy_17 (by decide) rfl (fun c17 => ?_) (fun c17 => ?_)
    · have h := h.1 c17
      refine r_aload_n (j := 0) C 24 dX5_goneBy_23 rfl rfl ?_
      refine r_get (k := 1) C cl7 27 dX5_goneBy_24 rfl kd_209 (by decide) wd_1213 (.ref 210) (fun _ => rfl) ?_
      refine r_bipush C 29 (v := 48) dX5_goneBy_27 rfl (by decide) ?_
      refine r_bipush C 31 (v := 6) dX5_goneBy_29 rfl (by decide) ?_
      refine r_iload_n (j := 1) C 32 dX5_goneBy_31 rfl rfl ?_
      refine r_imul C 33 dX5_goneBy_32 rfl ?_
      refine r_iadd C 34 dX5_goneBy_33 rfl ?_
      refine r_iconst C 35 (v := 0) dX5_goneBy_34 rfl (by decide) ?_
      obtain ⟨o35, h⟩ := h
      refine r_iast C 36 dX5_goneBy_35 rfl kd_210 o35 ?_
      refine r_nmS (fun σ35 e35 => ?_)
      have h := h σ35 e35
      refine r_iconst C 37 (v := 0) dX5_goneBy_36 rfl (by decide) ?_
      exact r_iret (S := []) C r dX5_goneBy_37 (by decide) rfl h
    · have h := h.2 c17
      refine r_bipush C 22 (v := 6) dX5_goneBy_20 rfl (by decide) ?_
      exact r_iret (S := []) C r dX5_goneBy_22 (by decide) rfl h
  · have h := h.2 c7
    refine r_iconst C 11 (v := 1) dX5_goneBy_10 rfl (by decide) ?_
    exact r_iret (S := []) C r dX5_goneBy_11 (by decide) rfl h
theorem ct_X5_goneBy (p0 : Int32) (σ : Mem) (K : Int32 → Mem → Prop) (X : String → Mem → Prop) (h : sp_X5_goneBy p0 σ K X) : CtI yX5_goneBy cX5_goneBy 2 (some .int) 3 0 [.ref 209, .int p0] σ K X := by
  have h := h
  exact ctI_of (by decide +kernel) (Nat.le_of_ble_eq_true rfl) (fun x C r => sg_X5_goneBy_0 C r p0  σ h)
/-! HeatNetworkModel.heat(I)J: level 3, exceptions 0 -/
def sp_X5_heat (p0 : Int32) (σ : Mem) (K : Int64 → Mem → Prop) (X : String → Mem → Prop) : Prop := (sp_X5_hasStation p0 σ (fun r2 σ2 => (r2 = 0 → K 0 σ2) ∧ (¬ r2 = 0 → (vp_in p0 10) ∧ ((vp_in p0 10) ∧ ((vp_in ((48 + (6 * p0)) + 2) 108) ∧ (K (((σ2.1 225 p0.toNatClampNeg)).toInt64 * (((σ2.1 229 p0.toNatClampNeg) - (σ2.1 210 (((48 + (6 * p0)) + 2)).toNatClampNeg))).toInt64) σ2))))) X)
set_option maxRecDepth 4000 in
theorem sg_X5_heat_0 {x : Ctx} {K : Int64 → Mem → Prop} {X : String → Mem → Prop} (C : Cx x RX5 cX5_heat 2) (r : RtL x 3 0 (some .long) K X) (p0 : Int32)  (σ : Mem) (h : sp_X5_hasStation p0 σ (fun r2 σ2 => (r2 = 0 → K 0 σ2) ∧ (¬ r2 = 0 → (vp_in p0 10) ∧ ((vp_in p0 10) ∧ ((vp_in ((48 + (6 * p0)) + 2) 108) ∧ (K (((σ2.1 225 p0.toNatClampNeg)).toInt64 * (((σ2.1 229 p0.toNatClampNeg) - (σ2.1 210 (((48 + (6 * p0)) + 2)).toNatClampNeg))).toInt64) σ2))))) X) : Ws x 0 0 [(0, .ref 209), (1, .int p0)] [] σ := by
  refine r_aload_n (j := 0) C 1 dX5_heat_0 rfl rfl ?_
  refine r_iload_n (j := 1) C 2 dX5_heat_1 rfl rfl ?_
  refine r_cVI (as := [.int p0]) (S := []) C r.px 5 (ct_X5_hasStation _ _ _ _ h) dX5_heat_2 rfl cl7 kd_209 wd_52 wd_1396 rfl wd_1394 wd_1397 wd_95 yd_X5_hasStation ⟨Nat.le_of_ble_eq_true rfl, Nat.le_of_ble_eq_true rfl⟩ (Nat.le_of_ble_eq_true rfl) (by decide) (fun r2 σ2 h => ?_)
  refine r_if_eq C 41 8 dX5_heat_5 (by decide) rfl (fun c5 => ?_) (fun c5 => ?_)
  · have h := h.1 c5
    refine r_lconst C 42 (v := 0) dX5_heat_41 rfl rfl ?_
    exact r_lret (S := []) C r dX5_heat_42 (by decide) h
  · have h := h.2 c5
    refine r_aload_n (j := 0) C 9 dX5_heat_8 rfl rfl ?_
    refine r_get (k := 23) C cl7 12 dX5_heat_9 rfl kd_209 (by decide) wd_1235 (.ref 225) (fun _ => rfl) ?_
    refine r_iload_n (j := 1) C 13 dX5_heat_12 rfl rfl ?_
    obtain ⟨o13, h⟩ := h
    refine r_iald C 14 dX5_heat_13 rfl kd_225 o13 ?_
    refine r_i2l C 15 dX5_heat_14 rfl ?_
    refine r_aload_n (j := 0) C 16 dX5_heat_15 rfl rfl ?_
    refine r_get (k := 27) C cl7 19 dX5_heat_16 rfl kd_209 (by decide) wd_1239 (.ref 229) (fun _ => rfl) ?_
    refine r_iload_n (j := 1) C 20 dX5_heat_19 rfl rfl ?_
    obtain ⟨o20, h⟩ := h
    refine r_iald C 21 dX5_heat_20 rfl kd_229 o20 ?_
    refine r_aload_n (j := 0) C 22 dX5_heat_21 rfl rfl ?_
    refine r_get (k := 1) C cl7 25 dX5_heat_22 rfl kd_209 (by decide) wd_1213 (.ref 210) (fun _ => rfl) ?_
    refine r_bipush C 27 (v := 48) dX5_heat_25 rfl (by decide) ?_
    refine r_bipush C 29 (v := 6) dX5_heat_27 rfl (by decide) ?_
    refine r_iload_n (j := 1) C 30 dX5_heat_29 rfl rfl ?_
    refine r_imul C 31 dX5_heat_30 rfl ?_
    refine r_iadd C 32 dX5_heat_31 rfl ?_
    refine r_iconst C 33 (v := 2) dX5_heat_32 rfl (by decide) ?_
    refine r_iadd C 34 dX5_heat_33 rfl ?_
    obtain ⟨o34, h⟩ := h
    refine r_iald C 35 dX5_heat_34 rfl kd_210 o34 ?_
    refine r_isub C 36 dX5_heat_35 rfl ?_
    refine r_i2l C 37 dX5_heat_36 rfl ?_
    refine r_lmul C 38 dX5_heat_37 rfl ?_
    refine r_goto C 42 dX5_heat_38 (by decide) ?_
    exact r_lret (S := []) C r dX5_heat_42 (by decide) h
theorem ct_X5_heat (p0 : Int32) (σ : Mem) (K : Int64 → Mem → Prop) (X : String → Mem → Prop) (h : sp_X5_heat p0 σ K X) : CtL yX5_heat cX5_heat 2 (some .long) 3 0 [.ref 209, .int p0] σ K X := by
  have h := h
  exact ctL_of (by decide +kernel) (Nat.le_of_ble_eq_true rfl) (fun x C r => sg_X5_heat_0 C r p0  σ h)
/-! HeatNetworkModel.loses(I)J: level 3, exceptions 0 -/
def sp_X5_loses (p0 : Int32) (σ : Mem) (K : Int64 → Mem → Prop) (X : String → Mem → Prop) : Prop := ((vp_in p0 10) ∧ ((¬ (σ.1 228 p0.toNatClampNeg) = 0 → sp_X5_from p0 σ (fun r17 σ17 => (vp_in r17 10) ∧ (∀ v21 : Int32, v21 = (σ17.1 229 r17.toNatClampNeg) → sp_X5_to p0 σ17 (fun r28 σ28 => (vp_in r28 10) ∧ (∀ v32 : Int32, v32 = (σ28.1 230 r28.toNatClampNeg) → (vp_in p0 10) ∧ (sp_J9_abs_0f7a4 (σ28.1 228 p0.toNatClampNeg) σ28 (fun r39 σ39 => sp_X5_through p0 v21 σ39 (fun r47 σ47 => sp_X5_through p0 v32 σ47 (fun r56 σ56 => K ((r39).toInt64 * ((((v21 - r47) + v32) - r56)).toInt64) σ56) X) X) X))) X)) X) ∧ ((σ.1 228 p0.toNatClampNeg) = 0 → K 0 σ)))
set_option maxRecDepth 4000 in
theorem sg_X5_loses_0 {x : Ctx} {K : Int64 → Mem → Prop} {X : String → Mem → Prop} (C : Cx x RX5 cX5_loses 4) (r : RtL x 3 0 (some .long) K X) (p0 : Int32)  (σ : Mem) (h : (vp_in p0 10) ∧ ((¬ (σ.1 228 p0.toNatClampNeg) = 0 → sp_X5_from p0 σ (fun r17 σ17 => (vp_in r17 10) ∧ (∀ v21 : Int32, v21 = (σ17.1 229 r17.toNatClampNeg) → sp_X5_to p0 σ17 (fun r28 σ28 => (vp_in r28 10) ∧ (∀ v32 : Int32, v32 = (σ28.1 230 r28.toNatClampNeg) → (vp_in p0 10) ∧ (sp_J9_abs_0f7a4 (σ28.1 228 p0.toNatClampNeg) σ28 (fun r39 σ39 => sp_X5_through p0 v21 σ39 (fun r47 σ47 => sp_X5_through p0 v32 σ47 (fun r56 σ56 => K ((r39).toInt64 * ((((v21 - r47) + v32) - r56)).toInt64) σ56) X) X) X))) X)) X) ∧ ((σ.1 228 p0.toNatClampNeg) = 0 → K 0 σ))) : Ws x 0 0 [(0, .ref 209), (1, .int p0)] [] σ := by
  refine r_aload_n (j := 0) C 1 dX5_loses_0 rfl rfl ?_
  refine r_get (k := 26) C cl7 4 dX5_loses_1 rfl kd_209 (by decide) wd_1238 (.ref 228) (fun _ => rfl) ?_
  refine r_iload_n (j := 1) C 5 dX5_loses_4 rfl rfl ?_
  obtain ⟨o5, h⟩ := h
  refine r_iald C 6 dX5_loses_5 rfl kd_228 o5 ?_
  refine r_if_ne C 11 9 dX5_loses_6 (by decide) rfl (fun c6 => ?_) (fun c6 => ?_)
  · have h := h.1 c6
    refine r_aload_n (j := 0) C 12 dX5_loses_11 rfl rfl ?_
    refine r_get (k := 27) C cl7 15 dX5_loses_12 rfl kd_209 (by decide) wd_1239 (.ref 229) (fun _ => rfl) ?_
    refine r_aload_n (j := 0) C 16 dX5_loses_15 rfl rfl ?_
    refine r_iload_n (j := 1) C 17 dX5_loses_16 rfl rfl ?_
    refine r_cVI (as := [.int p0]) (S := [.ref 229]) C r.px 20 (ct_X5_from _ _ _ _ h) dX5_loses_17 rfl cl7 kd_209 wd_68 wd_1481 rfl wd_1479 wd_1482 wd_95 yd_X5_from ⟨Nat.le_of_ble_eq_true rfl, Nat.le_of_ble_eq_true rfl⟩ (Nat.le_of_ble_eq_true rfl) (by decide) (fun r17 σ17 h => ?_)
    obtain ⟨o20, h⟩ := h
    refine r_iald C 21 dX5_loses_20 rfl kd_229 o20 ?_
    refine r_nmI (fun v21 e21 => ?_)
    have h := h v21 e21
    refine r_istore_n C 22 [(2, .int v21), (0, .ref 209), (1, .int p0)] dX5_loses_21 rfl (by decide) rfl ?_
    refine r_aload_n (j := 1) C 23 dX5_loses_22 rfl rfl ?_
    refine r_get (k := 28) C cl7 26 dX5_loses_23 rfl kd_209 (by decide) wd_1240 (.ref 230) (fun _ => rfl) ?_
    refine r_aload_n (j := 1) C 27 dX5_loses_26 rfl rfl ?_
    refine r_iload_n (j := 2) C 28 dX5_loses_27 rfl rfl ?_
    refine r_cVI (as := [.int p0]) (S := [.ref 230]) C r.px 31 (ct_X5_to _ _ _ _ h) dX5_loses_28 rfl cl7 kd_209 wd_69 wd_1485 rfl wd_1483 wd_1486 wd_95 yd_X5_to ⟨Nat.le_of_ble_eq_true rfl, Nat.le_of_ble_eq_true rfl⟩ (Nat.le_of_ble_eq_true rfl) (by decide) (fun r28 σ28 h => ?_)
    obtain ⟨o31, h⟩ := h
    refine r_iald C 32 dX5_loses_31 rfl kd_230 o31 ?_
    refine r_nmI (fun v32 e32 => ?_)
    have h := h v32 e32
    refine r_istore_n C 33 [(3, .int v32), (2, .int v21), (0, .ref 209), (1, .int p0)] dX5_loses_32 rfl (by decide) rfl ?_
    refine r_aload_n (j := 2) C 34 dX5_loses_33 rfl rfl ?_
    refine r_get (k := 26) C cl7 37 dX5_loses_34 rfl kd_209 (by decide) wd_1238 (.ref 228) (fun _ => rfl) ?_
    refine r_iload_n (j := 3) C 38 dX5_loses_37 rfl rfl ?_
    obtain ⟨o38, h⟩ := h
    refine r_iald C 39 dX5_loses_38 rfl kd_228 o38 ?_
    refine r_cSI (b := 0) (as := [.int (σ28.1 228 p0.toNatClampNeg)]) (S := []) C r.px 42 (ct_J9_abs_0f7a4 _ _ _ _ h) dX5_loses_39 rfl wd_511 wd_1491 wd_512 wd_104 yd_J9_abs_0f7a4 ⟨Nat.le_of_ble_eq_true rfl, Nat.le_of_ble_eq_true rfl⟩ (Nat.le_of_ble_eq_true rfl) (by decide) (fun r39 σ39 h => ?_)
    refine r_i2l C 43 dX5_loses_42 rfl ?_
    refine r_iload_n (j := 1) C 44 dX5_loses_43 rfl rfl ?_
    refine r_aload_n (j := 2) C 45 dX5_loses_44 rfl rfl ?_
    refine r_iload_n (j := 3) C 46 dX5_loses_45 rfl rfl ?_
    refine r_iload_n (j := 1) C 47 dX5_loses_46 rfl rfl ?_
    refine r_cVI (as := [.int p0, .int v21]) (S := [.int v21, .long (r39).toInt64]) C r.px 50 (ct_X5_through _ _ _ _ _ h) dX5_loses_47 rfl cl7 kd_209 wd_71 wd_1494 rfl wd_1492 wd_1495 wd_95 yd_X5_through ⟨Nat.le_of_ble_eq_true rfl, Nat.le_of_ble_eq_true rfl⟩ (Nat.le_of_ble_eq_true rfl) (by decide) (fun r47 σ47 h => ?_)
    refine r_isub C 51 dX5_loses_50 rfl ?_
    refine r_iload_n (j := 0) C 52 dX5_loses_51 rfl rfl ?_
    refine r_iadd C 53 dX5_loses_52 rfl ?_
    refine r_aload_n (j := 2) C 54 dX5_loses_53 rfl rfl ?_
    refine r_iload_n (j := 3) C 55 dX5_loses_54 rfl rfl ?_
    refine r_iload_n (j := 0) C 56 dX5_loses_55 rfl rfl ?_
    refine r_cVI (as := [.int p0, .int v32]) (S := [.int ((v21 - r47) + v32), .long (r39).toInt64]) C r.px 59 (ct_X5_through _ _ _ _ _ h) dX5_loses_56 rfl cl7 kd_209 wd_71 wd_1494 rfl wd_1492 wd_1495 wd_95 yd_X5_through ⟨Nat.le_of_ble_eq_true rfl, Nat.le_of_ble_eq_true rfl⟩ (Nat.le_of_ble_eq_true rfl) (by decide) (fun r56 σ56 h => ?_)
    refine r_isub C 60 dX5_loses_59 rfl ?_
    refine r_i2l C 61 dX5_loses_60 rfl ?_
    refine r_lmul C 62 dX5_loses_61 rfl ?_
    exact r_lret (S := []) C r dX5_loses_62 (by decide) h
  · have h := h.2 c6
    refine r_lconst C 10 (v := 0) dX5_loses_9 rfl rfl ?_
    exact r_lret (S := []) C r dX5_loses_10 (by decide) h
theorem ct_X5_loses (p0 : Int32) (σ : Mem) (K : Int64 → Mem → Prop) (X : String → Mem → Prop) (h : sp_X5_loses p0 σ K X) : CtL yX5_loses cX5_loses 4 (some .long) 3 0 [.ref 209, .int p0] σ K X := by
  have h := h
  exact ctL_of (by decide +kernel) (Nat.le_of_ble_eq_true rfl) (fun x C r => sg_X5_loses_0 C r p0  σ h)
/-! HeatNetworkModel.settingBy(II)I: level 3, exceptions 0 -/
def sp_X5_settingBy (p0 : Int32) (p1 : Int32) (σ : Mem) (K : Int32 → Mem → Prop) (X : String → Mem → Prop) : Prop := (sp_X5_in p0 0 6 σ (fun r4 σ4 => (¬ r4 = 0 → sp_X5_isSettingValue p0 p1 σ4 (fun r14 σ14 => (¬ r14 = 0 → (vp_in p0 108) ∧ (∀ σ28 : Mem, σ28 = wi σ14 210 p0.toNatClampNeg p1 → K 0 σ28)) ∧ (r14 = 0 → K 2 σ14)) X) ∧ (r4 = 0 → K 1 σ4)) X)
set_option maxRecDepth 4000 in
theorem sg_X5_settingBy_0 {x : Ctx} {K : Int32 → Mem → Prop} {X : String → Mem → Prop} (C : Cx x RX5 cX5_settingBy 3) (r : RtI x 3 0 (some .int) K X) (p0 : Int32) (p1 : Int32)  (σ : Mem) (h : sp_X5_in p0 0 6 σ (fun r4 σ4 => (¬ r4 = 0 → sp_X5_isSettingValue p0 p1 σ4 (fun r14 σ14 => (¬ r14 = 0 → (vp_in p0 108) ∧ (∀ σ28 : Mem, σ28 = wi σ14 210 p0.toNatClampNeg p1 → K 0 σ28)) ∧ (r14 = 0 → K 2 σ14)) X) ∧ (r4 = 0 → K 1 σ4)) X) : Ws x 0 0 [(0, .ref 209), (1, .int p0), (2, .int p1)] [] σ := by
  refine r_iload_n (j := 1) C 1 dX5_settingBy_0 rfl rfl ?_
  refine r_iconst C 2 (v := 0) dX5_settingBy_1 rfl (by decide) ?_
  refine r_bipush C 4 (v := 6) dX5_settingBy_2 rfl (by decide) ?_
  refine r_cSI (b := 0) (as := [.int p0, .int 0, .int 6]) (S := []) C r.px 7 (ct_X5_in _ _ _ _ _ _ h) dX5_settingBy_4 rfl wd_1321 wd_1320 wd_1322 wd_95 yd_X5_in ⟨Nat.le_of_ble_eq_true rfl, Nat.le_of_ble_eq_true rfl⟩ (Nat.le_of_ble_eq_true rfl) (by decide) (fun r4 σ4 h => ?_)
  refine r_if_ne C 12 10 dX5_settingBy_7 (by decide) rfl (fun c7 => ?_) (fun c7 => ?_)
  · have h := h.1 c7
    refine r_iload_n (j := 1) C 13 dX5_settingBy_12 rfl rfl ?_
    refine r_iload_n (j := 2) C 14 dX5_settingBy_13 rfl rfl ?_
    refine r_cSI (b := 0) (as := [.int p0, .int p1]) (S := []) C r.px 17 (ct_X5_isSettingValue _ _ _ _ _ h) dX5_settingBy_14 rfl wd_1328 wd_1327 wd_1329 wd_95 yd_X5_isSettingValue ⟨Nat.le_of_ble_eq_true rfl, Nat.le_of_ble_eq_true rfl⟩ (Nat.le_of_ble_eq_true rfl) (by decide) (fun r14 σ14 h => ?_)
    refine r_if_ne C 22 20 dX5_settingBy_17 (by decide) rfl (fun c17 => ?_) (fun c17 => ?_)
    · have h := h.1 c17
      refine r_aload_n (j := 0) C 23 dX5_settingBy_22 rfl rfl ?_
      refine r_get (k := 1) C cl7 26 dX5_settingBy_23 rfl kd_209 (by decide) wd_1213 (.ref 210) (fun _ => rfl) ?_
      refine r_iload_n (j := 1) C 27 dX5_settingBy_26 rfl rfl ?_
      refine r_iload_n (j := 2) C 28 dX5_settingBy_27 rfl rfl ?_
      obtain ⟨o28, h⟩ := h
      refine r_iast C 29 dX5_settingBy_28 rfl kd_210 o28 ?_
      refine r_nmS (fun σ28 e28 => ?_)
      have h := h σ28 e28
      refine r_iconst C 30 (v := 0) dX5_settingBy_29 rfl (by decide) ?_
      exact r_iret (S := []) C r dX5_settingBy_30 (by decide) rfl h
    · have h := h.2 c17
      refine r_iconst C 21 (v := 2) dX5_settingBy_20 rfl (by decide) ?_
      exact r_iret (S := []) C r dX5_settingBy_21 (by decide) rfl h
  · have h := h.2 c7
    refine r_iconst C 11 (v := 1) dX5_settingBy_10 rfl (by decide) ?_
    exact r_iret (S := []) C r dX5_settingBy_11 (by decide) rfl h
theorem ct_X5_settingBy (p0 : Int32) (p1 : Int32) (σ : Mem) (K : Int32 → Mem → Prop) (X : String → Mem → Prop) (h : sp_X5_settingBy p0 p1 σ K X) : CtI yX5_settingBy cX5_settingBy 3 (some .int) 3 0 [.ref 209, .int p0, .int p1] σ K X := by
  have h := h
  exact ctI_of (by decide +kernel) (Nat.le_of_ble_eq_true rfl) (fun x C r => sg_X5_settingBy_0 C r p0 p1  σ h)
/-! HeatNetwork$Network.removalReason(I)I: level 4, exceptions 0 -/
def sp_X0_removalReason (a : Nat) (p0 : Int32) (σ : Mem) (K : Int32 → Mem → Prop) (X : String → Mem → Prop) : Prop := (NetA a) ∧ (sp_X4_isNode p0 σ (fun r1 σ1 => (r1 = 0 → K 1 σ1) ∧ (¬ r1 = 0 → (¬ p0 = 0 → sp_X0_hasStation a p0 σ1 (fun r15 σ15 => (r15 = 0 → K 6 σ15) ∧ (¬ r15 = 0 → K 0 σ15)) X) ∧ (p0 = 0 → K 1 σ1))) X)
set_option maxRecDepth 4000 in
theorem sg_X0_removalReason_0 {x : Ctx} {K : Int32 → Mem → Prop} {X : String → Mem → Prop} (C : Cx x RX0 cX0_removalReason 2) (r : RtI x 4 0 (some .int) K X) (a : Nat) (p0 : Int32) (ha : NetA a) (σ : Mem) (h : sp_X4_isNode p0 σ (fun r1 σ1 => (r1 = 0 → K 1 σ1) ∧ (¬ r1 = 0 → (¬ p0 = 0 → sp_X0_hasStation a p0 σ1 (fun r15 σ15 => (r15 = 0 → K 6 σ15) ∧ (¬ r15 = 0 → K 0 σ15)) X) ∧ (p0 = 0 → K 1 σ1))) X) : Ws x 0 0 [(0, .ref a), (1, .int p0)] [] σ := by
  refine r_iload_n (j := 1) C 1 dX0_removalReason_0 rfl rfl ?_
  refine r_cNI (b := 0) (as := [.int p0]) (S := []) C r.px 4 (ct_X4_isNode _ _ _ _ h) dX0_removalReason_1 rfl wd_429 (nbd_470) wd_430 wd_90 yd_X4_isNode ⟨Nat.le_of_ble_eq_true rfl, Nat.le_of_ble_eq_true rfl⟩ (Nat.le_of_ble_eq_true rfl) (by decide) (fun r1 σ1 h => ?_)
  refine r_if_eq C 11 7 dX0_removalReason_4 (by decide) rfl (fun c4 => ?_) (fun c4 => ?_)
  · have h := h.1 c4
    refine r_iconst C 12 (v := 1) dX0_removalReason_11 rfl (by decide) ?_
    exact r_iret (S := []) C r dX0_removalReason_12 (by decide) rfl h
  · have h := h.2 c4
    refine r_iload_n (j := 1) C 8 dX0_removalReason_7 rfl rfl ?_
    refine r_if_ne C 13 11 dX0_removalReason_8 (by decide) rfl (fun c8 => ?_) (fun c8 => ?_)
    · have h := h.1 c8
      refine r_aload_n (j := 0) C 14 dX0_removalReason_13 rfl rfl ?_
      refine r_iload_n (j := 1) C 15 dX0_removalReason_14 rfl rfl ?_
      refine r_cVI (as := [.int p0]) (S := []) C r.px 18 (ct_X0_hasStation _ _ _ _ _ h) dX0_removalReason_15 rfl cl2 (net0 ha) wd_468 wd_467 rfl wd_815 wd_469 wd_91 yd_X0_hasStation ⟨Nat.le_of_ble_eq_true rfl, Nat.le_of_ble_eq_true rfl⟩ (Nat.le_of_ble_eq_true rfl) (by decide) (fun r15 σ15 h => ?_)
      refine r_if_eq C 25 21 dX0_removalReason_18 (by decide) rfl (fun c18 => ?_) (fun c18 => ?_)
      · have h := h.1 c18
        refine r_bipush C 27 (v := 6) dX0_removalReason_25 rfl (by decide) ?_
        exact r_iret (S := []) C r dX0_removalReason_27 (by decide) rfl h
      · have h := h.2 c18
        refine r_iconst C 22 (v := 0) dX0_removalReason_21 rfl (by decide) ?_
        refine r_goto C 27 dX0_removalReason_22 (by decide) ?_
        exact r_iret (S := []) C r dX0_removalReason_27 (by decide) rfl h
    · have h := h.2 c8
      refine r_iconst C 12 (v := 1) dX0_removalReason_11 rfl (by decide) ?_
      exact r_iret (S := []) C r dX0_removalReason_12 (by decide) rfl h
theorem ct_X0_removalReason (a : Nat) (p0 : Int32) (σ : Mem) (K : Int32 → Mem → Prop) (X : String → Mem → Prop) (h : sp_X0_removalReason a p0 σ K X) : CtI yX0_removalReason cX0_removalReason 2 (some .int) 4 0 [.ref a, .int p0] σ K X := by
  obtain ⟨ha, h⟩ := h
  exact ctI_of (by decide +kernel) (Nat.le_of_ble_eq_true rfl) (fun x C r => sg_X0_removalReason_0 C r a p0 ha σ h)
/-! HeatNetwork$Network.stationReason(IIII)I: level 4, exceptions 0 -/
def sp_X0_stationReason (a : Nat) (p0 : Int32) (p1 : Int32) (p2 : Int32) (p3 : Int32) (σ : Mem) (K : Int32 → Mem → Prop) (X : String → Mem → Prop) : Prop := (NetA a) ∧ (sp_X4_isNode p0 σ (fun r1 σ1 => (r1 = 0 → K 1 σ1) ∧ (¬ r1 = 0 → (¬ p0 = 0 → sp_X4_isWithin p1 1 99 σ1 (fun r17 σ17 => (r17 = 0 → K 2 σ17) ∧ (¬ r17 = 0 → sp_X4_isWithin p2 200 600 σ17 (fun r30 σ30 => (r30 = 0 → K 2 σ30) ∧ (¬ r30 = 0 → sp_X4_isWithin p3 1 999 σ30 (fun r42 σ42 => (¬ r42 = 0 → sp_X0_hasStation a p0 σ42 (fun r52 σ52 => (r52 = 0 → K 0 σ52) ∧ (¬ r52 = 0 → K 6 σ52)) X) ∧ (r42 = 0 → K 2 σ42)) X)) X)) X) ∧ (p0 = 0 → K 1 σ1))) X)
set_option maxRecDepth 4000 in
theorem sg_X0_stationReason_0 {x : Ctx} {K : Int32 → Mem → Prop} {X : String → Mem → Prop} (C : Cx x RX0 cX0_stationReason 5) (r : RtI x 4 0 (some .int) K X) (a : Nat) (p0 : Int32) (p1 : Int32) (p2 : Int32) (p3 : Int32) (ha : NetA a) (σ : Mem) (h : sp_X4_isNode p0 σ (fun r1 σ1 => (r1 = 0 → K 1 σ1) ∧ (¬ r1 = 0 → (¬ p0 = 0 → sp_X4_isWithin p1 1 99 σ1 (fun r17 σ17 => (r17 = 0 → K 2 σ17) ∧ (¬ r17 = 0 → sp_X4_isWithin p2 200 600 σ17 (fun r30 σ30 => (r30 = 0 → K 2 σ30) ∧ (¬ r30 = 0 → sp_X4_isWithin p3 1 999 σ30 (fun r42 σ42 => (¬ r42 = 0 → sp_X0_hasStation a p0 σ42 (fun r52 σ52 => (r52 = 0 → K 0 σ52) ∧ (¬ r52 = 0 → K 6 σ52)) X) ∧ (r42 = 0 → K 2 σ42)) X)) X)) X) ∧ (p0 = 0 → K 1 σ1))) X) : Ws x 0 0 [(0, .ref a), (1, .int p0), (2, .int p1), (3, .int p2), (4, .int p3)] [] σ := by
  refine r_iload_n (j := 1) C 1 dX0_stationReason_0 rfl rfl ?_
  refine r_cNI (b := 0) (as := [.int p0]) (S := []) C r.px 4 (ct_X4_isNode _ _ _ _ h) dX0_stationReason_1 rfl wd_429 (nbd_470) wd_430 wd_90 yd_X4_isNode ⟨Nat.le_of_ble_eq_true rfl, Nat.le_of_ble_eq_true rfl⟩ (Nat.le_of_ble_eq_true rfl) (by decide) (fun r1 σ1 h => ?_)
  refine r_if_eq C 11 7 dX0_stationReason_4 (by decide) rfl (fun c4 => ?_) (fun c4 => ?_)
  · have h := h.1 c4
    refine r_iconst C 12 (v := 1) dX0_stationReason_11 rfl (by decide) ?_
    exact r_iret (S := []) C r dX0_stationReason_12 (by decide) rfl h
  · have h := h.2 c4
    refine r_iload_n (j := 1) C 8 dX0_stationReason_7 rfl rfl ?_
    refine r_if_ne C 13 11 dX0_stationReason_8 (by decide) rfl (fun c8 => ?_) (fun c8 => ?_)
    · have h := h.1 c8
      refine r_iload_n (j := 2) C 14 dX0_stationReason_13 rfl rfl ?_
      refine r_iconst C 15 (v := 1) dX0_stationReason_14 rfl (by decide) ?_
      refine r_bipush C 17 (v := 99) dX0_stationReason_15 rfl (by decide) ?_
      refine r_cNI (b := 0) (as := [.int p1, .int 1, .int 99]) (S := []) C r.px 20 (ct_X4_isWithin _ _ _ _ _ _ h) dX0_stationReason_17 rfl wd_432 (nbd_744) wd_433 wd_90 yd_X4_isWithin ⟨Nat.le_of_ble_eq_true rfl, Nat.le_of_ble_eq_true rfl⟩ (Nat.le_of_ble_eq_true rfl) (by decide) (fun r17 σ17 h => ?_)
      refine r_if_eq C 48 23 dX0_stationReason_20 (by decide) rfl (fun c20 => ?_) (fun c20 => ?_)
      · have h := h.1 c20
        refine r_iconst C 49 (v := 2) dX0_stationReason_48 rfl (by decide) ?_
        exact r_iret (S := []) C r dX0_stationReason_49 (by decide) rfl h
      · have h := h.2 c20
        refine r_iload_n (j := 3) C 24 dX0_stationReason_23 rfl rfl ?_
        refine r_sipush C 27 (v := 200) dX0_stationReason_24 rfl (by decide) ?_
        refine r_sipush C 30 (v := 600) dX0_stationReason_27 rfl (by decide) ?_
        refine r_cNI (b := 0) (as := [.int p2, .int 200, .int 600]) (S := []) C r.px 33 (ct_X4_isWithin _ _ _ _ _ _ h) dX0_stationReason_30 rfl wd_432 (nbd_744) wd_433 wd_90 yd_X4_isWithin ⟨Nat.le_of_ble_eq_true rfl, Nat.le_of_ble_eq_true rfl⟩ (Nat.le_of_ble_eq_true rfl) (by decide) (fun r30 σ30 h => ?_)
        refine r_if_eq C 48 36 dX0_stationReason_33 (by decide) rfl (fun c33 => ?_) (fun c33 => ?_)
        · have h := h.1 c33
          refine r_iconst C 49 (v := 2) dX0_stationReason_48 rfl (by decide) ?_
          exact r_iret (S := []) C r dX0_stationReason_49 (by decide) rfl h
        · have h := h.2 c33
          refine r_iload (j := 4) C 38 dX0_stationReason_36 rfl rfl ?_
          refine r_iconst C 39 (v := 1) dX0_stationReason_38 rfl (by decide) ?_
          refine r_sipush C 42 (v := 999) dX0_stationReason_39 rfl (by decide) ?_
          refine r_cNI (b := 0) (as := [.int p3, .int 1, .int 999]) (S := []) C r.px 45 (ct_X4_isWithin _ _ _ _ _ _ h) dX0_stationReason_42 rfl wd_432 (nbd_744) wd_433 wd_90 yd_X4_isWithin ⟨Nat.le_of_ble_eq_true rfl, Nat.le_of_ble_eq_true rfl⟩ (Nat.le_of_ble_eq_true rfl) (by decide) (fun r42 σ42 h => ?_)
          refine r_if_ne C 50 48 dX0_stationReason_45 (by decide) rfl (fun c45 => ?_) (fun c45 => ?_)
          · have h := h.1 c45
            refine r_aload_n (j := 0) C 51 dX0_stationReason_50 rfl rfl ?_
            refine r_iload_n (j := 1) C 52 dX0_stationReason_51 rfl rfl ?_
            refine r_cVI (as := [.int p0]) (S := []) C r.px 55 (ct_X0_hasStation _ _ _ _ _ h) dX0_stationReason_52 rfl cl2 (net0 ha) wd_468 wd_467 rfl wd_815 wd_469 wd_91 yd_X0_hasStation ⟨Nat.le_of_ble_eq_true rfl, Nat.le_of_ble_eq_true rfl⟩ (Nat.le_of_ble_eq_true rfl) (by decide) (fun r52 σ52 h => ?_)
            refine r_if_eq C 63 58 dX0_stationReason_55 (by decide) rfl (fun c55 => ?_) (fun c55 => ?_)
            · have h := h.1 c55
              refine r_iconst C 64 (v := 0) dX0_stationReason_63 rfl (by decide) ?_
              exact r_iret (S := []) C r dX0_stationReason_64 (by decide) rfl h
            · have h := h.2 c55
              refine r_bipush C 60 (v := 6) dX0_stationReason_58 rfl (by decide) ?_
              refine r_goto C 64 dX0_stationReason_60 (by decide) ?_
              exact r_iret (S := []) C r dX0_stationReason_64 (by decide) rfl h
          · have h := h.2 c45
            refine r_iconst C 49 (v := 2) dX0_stationReason_48 rfl (by decide) ?_
            exact r_iret (S := []) C r dX0_stationReason_49 (by decide) rfl h
    · have h := h.2 c8
      refine r_iconst C 12 (v := 1) dX0_stationReason_11 rfl (by decide) ?_
      exact r_iret (S := []) C r dX0_stationReason_12 (by decide) rfl h
theorem ct_X0_stationReason (a : Nat) (p0 : Int32) (p1 : Int32) (p2 : Int32) (p3 : Int32) (σ : Mem) (K : Int32 → Mem → Prop) (X : String → Mem → Prop) (h : sp_X0_stationReason a p0 p1 p2 p3 σ K X) : CtI yX0_stationReason cX0_stationReason 5 (some .int) 4 0 [.ref a, .int p0, .int p1, .int p2, .int p3] σ K X := by
  obtain ⟨ha, h⟩ := h
  exact ctI_of (by decide +kernel) (Nat.le_of_ble_eq_true rfl) (fun x C r => sg_X0_stationReason_0 C r a p0 p1 p2 p3 ha σ h)
/-! HeatNetworkModel.counts(I)J: level 4, exceptions 0 -/
def sp_X5_counts (p0 : Int32) (σ : Mem) (K : Int64 → Mem → Prop) (X : String → Mem → Prop) : Prop := ((vp_in ((48 + (6 * p0)) + 4) 108) ∧ (∀ v14 : Int32, v14 = (σ.1 210 (((48 + (6 * p0)) + 4)).toNatClampNeg) → (¬ v14 = 0 → (¬ v14 = 1 → sp_X5_heat p0 σ (fun r38 σ38 => (vp_in ((48 + (6 * p0)) + 5) 108) ∧ (sp_J9_floorDiv_f86c9 (r38 * ((σ38.1 210 (((48 + (6 * p0)) + 5)).toNatClampNeg)).toInt64) 1000 σ38 (fun r60 σ60 => K r60 σ60) X)) X) ∧ (v14 = 1 → K 0 σ)) ∧ (v14 = 0 → sp_X5_heat p0 σ (fun r21 σ21 => K r21 σ21) X)))
set_option maxRecDepth 4000 in
theorem sg_X5_counts_0 {x : Ctx} {K : Int64 → Mem → Prop} {X : String → Mem → Prop} (C : Cx x RX5 cX5_counts 3) (r : RtL x 4 0 (some .long) K X) (p0 : Int32)  (σ : Mem) (h : (vp_in ((48 + (6 * p0)) + 4) 108) ∧ (∀ v14 : Int32, v14 = (σ.1 210 (((48 + (6 * p0)) + 4)).toNatClampNeg) → (¬ v14 = 0 → (¬ v14 = 1 → sp_X5_heat p0 σ (fun r38 σ38 => (vp_in ((48 + (6 * p0)) + 5) 108) ∧ (sp_J9_floorDiv_f86c9 (r38 * ((σ38.1 210 (((48 + (6 * p0)) + 5)).toNatClampNeg)).toInt64) 1000 σ38 (fun r60 σ60 => K r60 σ60) X)) X) ∧ (v14 = 1 → K 0 σ)) ∧ (v14 = 0 → sp_X5_heat p0 σ (fun r21 σ21 => K r21 σ21) X))) : Ws x 0 0 [(0, .ref 209), (1, .int p0)] [] σ := by
  refine r_aload_n (j := 0) C 1 dX5_counts_0 rfl rfl ?_
  refine r_get (k := 1) C cl7 4 dX5_counts_1 rfl kd_209 (by decide) wd_1213 (.ref 210) (fun _ => rfl) ?_
  refine r_bipush C 6 (v := 48) dX5_counts_4 rfl (by decide) ?_
  refine r_bipush C 8 (v := 6) dX5_counts_6 rfl (by decide) ?_
  refine r_iload_n (j := 1) C 9 dX5_counts_8 rfl rfl ?_
  refine r_imul C 10 dX5_counts_9 rfl ?_
  refine r_iadd C 11 dX5_counts_10 rfl ?_
  refine r_iconst C 12 (v := 4) dX5_counts_11 rfl (by decide) ?_
  refine r_iadd C 13 dX5_counts_12 rfl ?_
  obtain ⟨o13, h⟩ := h
  refine r_iald C 14 dX5_counts_13 rfl kd_210 o13 ?_
  refine r_nmI (fun v14 e14 => ?_)
  have h := h v14 e14
  refine r_istore_n C 15 [(2, .int v14), (0, .ref 209), (1, .int p0)] dX5_counts_14 rfl (by decide) rfl ?_
  refine r_iload_n (j := 0) C 16 dX5_counts_15 rfl rfl ?_
  refine r_if_ne C 27 19 dX5_counts_16 (by decide) rfl (fun c16 => ?_) (fun c16 => ?_)
  · have h := h.1 c16
    refine r_iload_n (j := 0) C 28 dX5_counts_27 rfl rfl ?_
    refine r_iconst C 29 (v := 1) dX5_counts_28 rfl (by decide) ?_
    refine r_icmp_ne C 36 32 dX5_counts_29 (by decide) rfl (fun c29 => ?_) (fun c29 => ?_)
    · have h := h.1 c29
      refine r_aload_n (j := 1) C 37 dX5_counts_36 rfl rfl ?_
      refine r_iload_n (j := 2) C 38 dX5_counts_37 rfl rfl ?_
      refine r_cVL (as := [.int p0]) (S := []) C r.px 41 (ct_X5_heat _ _ _ _ h) dX5_counts_38 rfl cl7 kd_209 wd_76 wd_1519 rfl wd_1517 wd_1520 wd_95 yd_X5_heat ⟨Nat.le_of_ble_eq_true rfl, Nat.le_of_ble_eq_true rfl⟩ (Nat.le_of_ble_eq_true rfl) (by decide) (fun r38 σ38 h => ?_)
      refine r_aload_n (j := 1) C 42 dX5_counts_41 rfl rfl ?_
      refine r_get (k := 1) C cl7 45 dX5_counts_42 rfl kd_209 (by decide) wd_1213 (.ref 210) (fun _ => rfl) ?_
      refine r_bipush C 47 (v := 48) dX5_counts_45 rfl (by decide) ?_
      refine r_bipush C 49 (v := 6) dX5_counts_47 rfl (by decide) ?_
      refine r_iload_n (j := 2) C 50 dX5_counts_49 rfl rfl ?_
      refine r_imul C 51 dX5_counts_50 rfl ?_
      refine r_iadd C 52 dX5_counts_51 rfl ?_
      refine r_iconst C 53 (v := 5) dX5_counts_52 rfl (by decide) ?_
      refine r_iadd C 54 dX5_counts_53 rfl ?_
      obtain ⟨o54, h⟩ := h
      refine r_iald C 55 dX5_counts_54 rfl kd_210 o54 ?_
      refine r_i2l C 56 dX5_counts_55 rfl ?_
      refine r_lmul C 57 dX5_counts_56 rfl ?_
      refine r_ldc2 C 60 (v := 1000) dX5_counts_57 rfl wd_1525 ?_
      refine r_cSL (b := 0) (as := [.long (r38 * ((σ38.1 210 (((48 + (6 * p0)) + 5)).toNatClampNeg)).toInt64), .long 1000]) (S := []) C r.px 63 (ct_J9_floorDiv_f86c9 _ _ _ _ _ h) dX5_counts_60 rfl wd_904 wd_1497 wd_905 wd_104 yd_J9_floorDiv_f86c9 ⟨Nat.le_of_ble_eq_true rfl, Nat.le_of_ble_eq_true rfl⟩ (Nat.le_of_ble_eq_true rfl) (by decide) (fun r60 σ60 h => ?_)
      exact r_lret (S := []) C r dX5_counts_63 (by decide) h
    · have h := h.2 c29
      refine r_lconst C 33 (v := 0) dX5_counts_32 rfl rfl ?_
      refine r_goto C 63 dX5_counts_33 (by decide) ?_
      exact r_lret (S := []) C r dX5_counts_63 (by decide) h
  · have h := h.2 c16
    refine r_aload_n (j := 1) C 20 dX5_counts_19 rfl rfl ?_
    refine r_iload_n (j := 2) C 21 dX5_counts_20 rfl rfl ?_
    refine r_cVL (as := [.int p0]) (S := []) C r.px 24 (ct_X5_heat _ _ _ _ h) dX5_counts_21 rfl cl7 kd_209 wd_76 wd_1519 rfl wd_1517 wd_1520 wd_95 yd_X5_heat ⟨Nat.le_of_ble_eq_true rfl, Nat.le_of_ble_eq_true rfl⟩ (Nat.le_of_ble_eq_true rfl) (by decide) (fun r21 σ21 h => ?_)
    refine r_goto C 63 dX5_counts_24 (by decide) ?_
    exact r_lret (S := []) C r dX5_counts_63 (by decide) h
theorem ct_X5_counts (p0 : Int32) (σ : Mem) (K : Int64 → Mem → Prop) (X : String → Mem → Prop) (h : sp_X5_counts p0 σ K X) : CtL yX5_counts cX5_counts 3 (some .long) 4 0 [.ref 209, .int p0] σ K X := by
  have h := h
  exact ctL_of (by decide +kernel) (Nat.le_of_ble_eq_true rfl) (fun x C r => sg_X5_counts_0 C r p0  σ h)
/-! HeatNetworkModel.pays(I)J: level 5, exceptions 0 -/
def sp_X5_pays (p0 : Int32) (σ : Mem) (K : Int64 → Mem → Prop) (X : String → Mem → Prop) : Prop := (sp_X5_counts p0 σ (fun r2 σ2 => sp_X5_tariff p0 σ2 (fun r7 σ7 => sp_J9_floorDiv_f86c9 (r2 * (r7).toInt64) 1000 σ7 (fun r15 σ15 => K r15 σ15) X) X) X)
set_option maxRecDepth 4000 in
theorem sg_X5_pays_0 {x : Ctx} {K : Int64 → Mem → Prop} {X : String → Mem → Prop} (C : Cx x RX5 cX5_pays 2) (r : RtL x 5 0 (some .long) K X) (p0 : Int32)  (σ : Mem) (h : sp_X5_counts p0 σ (fun r2 σ2 => sp_X5_tariff p0 σ2 (fun r7 σ7 => sp_J9_floorDiv_f86c9 (r2 * (r7).toInt64) 1000 σ7 (fun r15 σ15 => K r15 σ15) X) X) X) : Ws x 0 0 [(0, .ref 209), (1, .int p0)] [] σ := by
  refine r_aload_n (j := 0) C 1 dX5_pays_0 rfl rfl ?_
  refine r_iload_n (j := 1) C 2 dX5_pays_1 rfl rfl ?_
  refine r_cVL (as := [.int p0]) (S := []) C r.px 5 (ct_X5_counts _ _ _ _ h) dX5_pays_2 rfl cl7 kd_209 wd_77 wd_1523 rfl wd_1521 wd_1524 wd_95 yd_X5_counts ⟨Nat.le_of_ble_eq_true rfl, Nat.le_of_ble_eq_true rfl⟩ (Nat.le_of_ble_eq_true rfl) (by decide) (fun r2 σ2 h => ?_)
  refine r_aload_n (j := 0) C 6 dX5_pays_5 rfl rfl ?_
  refine r_iload_n (j := 1) C 7 dX5_pays_6 rfl rfl ?_
  refine r_cVI (as := [.int p0]) (S := [.long r2]) C r.px 10 (ct_X5_tariff _ _ _ _ h) dX5_pays_7 rfl cl7 kd_209 wd_79 wd_1532 rfl wd_1530 wd_1533 wd_95 yd_X5_tariff ⟨Nat.le_of_ble_eq_true rfl, Nat.le_of_ble_eq_true rfl⟩ (Nat.le_of_ble_eq_true rfl) (by decide) (fun r7 σ7 h => ?_)
  refine r_i2l C 11 dX5_pays_10 rfl ?_
  refine r_lmul C 12 dX5_pays_11 rfl ?_
  refine r_ldc2 C 15 (v := 1000) dX5_pays_12 rfl wd_1525 ?_
  refine r_cSL (b := 0) (as := [.long (r2 * (r7).toInt64), .long 1000]) (S := []) C r.px 18 (ct_J9_floorDiv_f86c9 _ _ _ _ _ h) dX5_pays_15 rfl wd_904 wd_1497 wd_905 wd_104 yd_J9_floorDiv_f86c9 ⟨Nat.le_of_ble_eq_true rfl, Nat.le_of_ble_eq_true rfl⟩ (Nat.le_of_ble_eq_true rfl) (by decide) (fun r15 σ15 h => ?_)
  exact r_lret (S := []) C r dX5_pays_18 (by decide) h
theorem ct_X5_pays (p0 : Int32) (σ : Mem) (K : Int64 → Mem → Prop) (X : String → Mem → Prop) (h : sp_X5_pays p0 σ K X) : CtL yX5_pays cX5_pays 2 (some .long) 5 0 [.ref 209, .int p0] σ K X := by
  have h := h
  exact ctL_of (by decide +kernel) (Nat.le_of_ble_eq_true rfl) (fun x C r => sg_X5_pays_0 C r p0  σ h)
/-! HeatNetwork.needConnected(I)V: level 8, exceptions 1 -/
def sp_X4_needConnected (p0 : Int32) (σ : Mem) (K : Mem → Prop) (X : String → Mem → Prop) : Prop := (sp_X4_isNode p0 σ (fun r1 σ1 => (r1 = 0 → X "java/util/NoSuchElementException" σ1) ∧ (¬ r1 = 0 → (vp_in p0 10) ∧ ((0 ≤ (σ1.1 45 p0.toNatClampNeg) → K σ1) ∧ (¬ 0 ≤ (σ1.1 45 p0.toNatClampNeg) → X "java/util/NoSuchElementException" σ1)))) X)
set_option maxRecDepth 4000 in
theorem sg_X4_needConnected_0 {x : Ctx} {K : Mem → Prop} {X : String → Mem → Prop} (C : Cx x RX4 cX4_needConnected 2) (r : RtV x 8 1 none K X) (p0 : Int32)  (σ : Mem) (h : sp_X4_isNode p0 σ (fun r1 σ1 => (r1 = 0 → X "java/util/NoSuchElementException" σ1) ∧ (¬ r1 = 0 → (vp_in p0 10) ∧ ((0 ≤ (σ1.1 45 p0.toNatClampNeg) → K σ1) ∧ (¬ 0 ≤ (σ1.1 45 p0.toNatClampNeg) → X "java/util/NoSuchElementException" σ1)))) X) : Ws x 0 0 [(0, .ref 0), (1, .int p0)] [] σ := by
  refine r_iload_n (j := 1) C 1 dX4_needConnected_0 rfl rfl ?_
  refine r_cSI (b := 0) (as := [.int p0]) (S := []) C r.px 4 (ct_X4_isNode _ _ _ _ h) dX4_needConnected_1 rfl wd_429 wd_1051 wd_430 wd_90 yd_X4_isNode ⟨Nat.le_of_ble_eq_true rfl, Nat.le_of_ble_eq_true rfl⟩ (Nat.le_of_ble_eq_true rfl) (by decide) (fun r1 σ1 h => ?_)
  refine r_if_eq C 19 7 dX4_needConnected_4 (by decide) rfl (fun c4 => ?_) (fun c4 => ?_)
  · have h := h.1 c4
    exact r_throwNW (own := "") (text := "the node is not connected") C r.px dX4_needConnected_19 dX4_needConnected_22 dX4_needConnected_23 dX4_needConnected_26 dX4_needConnected_29 (by decide) (Nat.le_of_ble_eq_true rfl) (Nat.le_of_ble_eq_true rfl) (by decide) h
  · have h := h.2 c4
    refine r_aload_n (j := 0) C 8 dX4_needConnected_7 rfl rfl ?_
    refine r_get (k := 4) C cl6 11 dX4_needConnected_8 rfl kd_0 (by decide) wd_362 (.ref 44) (fun _ => rfl) ?_
    refine r_get (k := 0) C cl3 14 dX4_needConnected_11 rfl kd_44 (by decide) wd_226 (.ref 45) (fun _ => rfl) ?_
    refine r_iload_n (j := 1) C 15 dX4_needConnected_14 rfl rfl ?_
    obtain ⟨o15, h⟩ := h
    refine r_iald C 16 dX4_needConnected_15 rfl kd_45 o15 ?_
    refine r_if_ge C 30 19 dX4_needConnected_16 (by decide) rfl (fun c16 => ?_) (fun c16 => ?_)
    · have h := h.1 c16
      exact r_vret (S := []) C r dX4_needConnected_30 (by decide) h
    · have h := h.2 c16
      exact r_throwNW (own := "") (text := "the node is not connected") C r.px dX4_needConnected_19 dX4_needConnected_22 dX4_needConnected_23 dX4_needConnected_26 dX4_needConnected_29 (by decide) (Nat.le_of_ble_eq_true rfl) (Nat.le_of_ble_eq_true rfl) (by decide) h
theorem ct_X4_needConnected (p0 : Int32) (σ : Mem) (K : Mem → Prop) (X : String → Mem → Prop) (h : sp_X4_needConnected p0 σ K X) : CtV yX4_needConnected cX4_needConnected 2 none 8 1 [.ref 0, .int p0] σ K X := by
  have h := h
  exact ctV_of (by decide +kernel) (Nat.le_of_ble_eq_true rfl) (fun x C r => sg_X4_needConnected_0 C r p0  σ h)
/-! HeatNetwork.needNode(I)V: level 8, exceptions 1 -/
def sp_X4_needNode (p0 : Int32) (σ : Mem) (K : Mem → Prop) (X : String → Mem → Prop) : Prop := (sp_X4_isNode p0 σ (fun r1 σ1 => (¬ r1 = 0 → K σ1) ∧ (r1 = 0 → X "java/lang/IndexOutOfBoundsException" σ1)) X)
set_option maxRecDepth 4000 in
theorem sg_X4_needNode_0 {x : Ctx} {K : Mem → Prop} {X : String → Mem → Prop} (C : Cx x RX4 cX4_needNode 1) (r : RtV x 8 1 none K X) (p0 : Int32)  (σ : Mem) (h : sp_X4_isNode p0 σ (fun r1 σ1 => (¬ r1 = 0 → K σ1) ∧ (r1 = 0 → X "java/lang/IndexOutOfBoundsException" σ1)) X) : Ws x 0 0 [(0, .int p0)] [] σ := by
  refine r_iload_n (j := 0) C 1 dX4_needNode_0 rfl rfl ?_
  refine r_cSI (b := 0) (as := [.int p0]) (S := []) C r.px 4 (ct_X4_isNode _ _ _ _ h) dX4_needNode_1 rfl wd_429 wd_1051 wd_430 wd_90 yd_X4_isNode ⟨Nat.le_of_ble_eq_true rfl, Nat.le_of_ble_eq_true rfl⟩ (Nat.le_of_ble_eq_true rfl) (by decide) (fun r1 σ1 h => ?_)
  refine r_if_ne C 18 7 dX4_needNode_4 (by decide) rfl (fun c4 => ?_) (fun c4 => ?_)
  · have h := h.1 c4
    exact r_vret (S := []) C r dX4_needNode_18 (by decide) h
  · have h := h.2 c4
    exact r_throwW (own := "") (text := "there is no such node") C r.px dX4_needNode_7 dX4_needNode_10 dX4_needNode_11 dX4_needNode_14 dX4_needNode_17 thIOO.1 thN wd_687 thIOO.2.1 (by decide) thIOO.2.2.1 thIOO.2.2.2.1 thIOO.2.2.2.2 (Nat.le_of_ble_eq_true rfl) (Nat.le_of_ble_eq_true rfl) (by decide) h
theorem ct_X4_needNode (p0 : Int32) (σ : Mem) (K : Mem → Prop) (X : String → Mem → Prop) (h : sp_X4_needNode p0 σ K X) : CtV yX4_needNode cX4_needNode 1 none 8 1 [.int p0] σ K X := by
  have h := h
  exact ctV_of (by decide +kernel) (Nat.le_of_ble_eq_true rfl) (fun x C r => sg_X4_needNode_0 C r p0  σ h)
/-! HeatNetwork.needPipe(I)V: level 8, exceptions 1 -/
def sp_X4_needPipe (p0 : Int32) (σ : Mem) (K : Mem → Prop) (X : String → Mem → Prop) : Prop := ((p0 < 0 → X "java/lang/IndexOutOfBoundsException" σ) ∧ (¬ p0 < 0 → (p0 < (σ.1 1 1) → K σ) ∧ (¬ p0 < (σ.1 1 1) → X "java/lang/IndexOutOfBoundsException" σ)))
set_option maxRecDepth 4000 in
theorem sg_X4_needPipe_0 {x : Ctx} {K : Mem → Prop} {X : String → Mem → Prop} (C : Cx x RX4 cX4_needPipe 2) (r : RtV x 8 1 none K X) (p0 : Int32)  (σ : Mem) (h : (p0 < 0 → X "java/lang/IndexOutOfBoundsException" σ) ∧ (¬ p0 < 0 → (p0 < (σ.1 1 1) → K σ) ∧ (¬ p0 < (σ.1 1 1) → X "java/lang/IndexOutOfBoundsException" σ))) : Ws x 0 0 [(0, .ref 0), (1, .int p0)] [] σ := by
  refine r_iload_n (j := 1) C 1 dX4_needPipe_0 rfl rfl ?_
  refine r_if_lt C 15 4 dX4_needPipe_1 (by decide) rfl (fun c1 => ?_) (fun c1 => ?_)
  · have h := h.1 c1
    exact r_throwW (own := "") (text := "there is no such pipe") C r.px dX4_needPipe_15 dX4_needPipe_18 dX4_needPipe_19 dX4_needPipe_22 dX4_needPipe_25 thIOO.1 thN wd_687 thIOO.2.1 (by decide) thIOO.2.2.1 thIOO.2.2.2.1 thIOO.2.2.2.2 (Nat.le_of_ble_eq_true rfl) (Nat.le_of_ble_eq_true rfl) (by decide) h
  · have h := h.2 c1
    refine r_iload_n (j := 1) C 5 dX4_needPipe_4 rfl rfl ?_
    refine r_aload_n (j := 0) C 6 dX4_needPipe_5 rfl rfl ?_
    refine r_get (k := 0) C cl6 9 dX4_needPipe_6 rfl kd_0 (by decide) wd_358 (.ref 1) (fun _ => rfl) ?_
    refine r_get (k := 1) C cl2 12 dX4_needPipe_9 rfl kd_1 (by decide) wd_138 (.int (σ.1 1 1)) (fun _ => rfl) ?_
    refine r_icmp_lt C 26 15 dX4_needPipe_12 (by decide) rfl (fun c12 => ?_) (fun c12 => ?_)
    · have h := h.1 c12
      exact r_vret (S := []) C r dX4_needPipe_26 (by decide) h
    · have h := h.2 c12
      exact r_throwW (own := "") (text := "there is no such pipe") C r.px dX4_needPipe_15 dX4_needPipe_18 dX4_needPipe_19 dX4_needPipe_22 dX4_needPipe_25 thIOO.1 thN wd_687 thIOO.2.1 (by decide) thIOO.2.2.1 thIOO.2.2.2.1 thIOO.2.2.2.2 (Nat.le_of_ble_eq_true rfl) (Nat.le_of_ble_eq_true rfl) (by decide) h
theorem ct_X4_needPipe (p0 : Int32) (σ : Mem) (K : Mem → Prop) (X : String → Mem → Prop) (h : sp_X4_needPipe p0 σ K X) : CtV yX4_needPipe cX4_needPipe 2 none 8 1 [.ref 0, .int p0] σ K X := by
  have h := h
  exact ctV_of (by decide +kernel) (Nat.le_of_ble_eq_true rfl) (fun x C r => sg_X4_needPipe_0 C r p0  σ h)
/-! HeatNetwork.needRange(III)V: level 8, exceptions 1 -/
def sp_X4_needRange (p0 : Int32) (p1 : Int32) (p2 : Int32) (σ : Mem) (K : Mem → Prop) (X : String → Mem → Prop) : Prop := (sp_X4_isWithin p0 p1 p2 σ (fun r3 σ3 => (¬ r3 = 0 → K σ3) ∧ (r3 = 0 → X "java/lang/IllegalArgumentException" σ3)) X)
set_option maxRecDepth 4000 in
theorem sg_X4_needRange_0 {x : Ctx} {K : Mem → Prop} {X : String → Mem → Prop} (C : Cx x RX4 cX4_needRange 3) (r : RtV x 8 1 none K X) (p0 : Int32) (p1 : Int32) (p2 : Int32)  (σ : Mem) (h : sp_X4_isWithin p0 p1 p2 σ (fun r3 σ3 => (¬ r3 = 0 → K σ3) ∧ (r3 = 0 → X "java/lang/IllegalArgumentException" σ3)) X) : Ws x 0 0 [(0, .int p0), (1, .int p1), (2, .int p2)] [] σ := by
  refine r_iload_n (j := 0) C 1 dX4_needRange_0 rfl rfl ?_
  refine r_iload_n (j := 1) C 2 dX4_needRange_1 rfl rfl ?_
  refine r_iload_n (j := 2) C 3 dX4_needRange_2 rfl rfl ?_
  refine r_cSI (b := 0) (as := [.int p0, .int p1, .int p2]) (S := []) C r.px 6 (ct_X4_isWithin _ _ _ _ _ _ h) dX4_needRange_3 rfl wd_432 wd_431 wd_433 wd_90 yd_X4_isWithin ⟨Nat.le_of_ble_eq_true rfl, Nat.le_of_ble_eq_true rfl⟩ (Nat.le_of_ble_eq_true rfl) (by decide) (fun r3 σ3 h => ?_)
  refine r_if_ne C 20 9 dX4_needRange_6 (by decide) rfl (fun c6 => ?_) (fun c6 => ?_)
  · have h := h.1 c6
    exact r_vret (S := []) C r dX4_needRange_20 (by decide) h
  · have h := h.2 c6
    exact r_throwW (own := "") (text := "out of range") C r.px dX4_needRange_9 dX4_needRange_12 dX4_needRange_13 dX4_needRange_16 dX4_needRange_19 thIAE.1 thN wd_700 thIAE.2.1 (by decide) thIAE.2.2.1 thIAE.2.2.2.1 thIAE.2.2.2.2 (Nat.le_of_ble_eq_true rfl) (Nat.le_of_ble_eq_true rfl) (by decide) h
theorem ct_X4_needRange (p0 : Int32) (p1 : Int32) (p2 : Int32) (σ : Mem) (K : Mem → Prop) (X : String → Mem → Prop) (h : sp_X4_needRange p0 p1 p2 σ K X) : CtV yX4_needRange cX4_needRange 3 none 8 1 [.int p0, .int p1, .int p2] σ K X := by
  have h := h
  exact ctV_of (by decide +kernel) (Nat.le_of_ble_eq_true rfl) (fun x C r => sg_X4_needRange_0 C r p0 p1 p2  σ h)
/-! HeatNetwork.needStation(I)V: level 8, exceptions 1 -/
def sp_X4_needStation (p0 : Int32) (σ : Mem) (K : Mem → Prop) (X : String → Mem → Prop) : Prop := (sp_X0_hasStation 1 p0 σ (fun r5 σ5 => (¬ r5 = 0 → K σ5) ∧ (r5 = 0 → X "java/util/NoSuchElementException" σ5)) X)
set_option maxRecDepth 4000 in
theorem sg_X4_needStation_0 {x : Ctx} {K : Mem → Prop} {X : String → Mem → Prop} (C : Cx x RX4 cX4_needStation 2) (r : RtV x 8 1 none K X) (p0 : Int32)  (σ : Mem) (h : sp_X0_hasStation 1 p0 σ (fun r5 σ5 => (¬ r5 = 0 → K σ5) ∧ (r5 = 0 → X "java/util/NoSuchElementException" σ5)) X) : Ws x 0 0 [(0, .ref 0), (1, .int p0)] [] σ := by
  refine r_aload_n (j := 0) C 1 dX4_needStation_0 rfl rfl ?_
  refine r_get (k := 0) C cl6 4 dX4_needStation_1 rfl kd_0 (by decide) wd_358 (.ref 1) (fun _ => rfl) ?_
  refine r_iload_n (j := 1) C 5 dX4_needStation_4 rfl rfl ?_
  refine r_cVI (as := [.int p0]) (S := []) C r.px 8 (ct_X0_hasStation _ _ _ _ _ h) dX4_needStation_5 rfl cl2 kd_1 wd_468 wd_467 rfl wd_851 wd_469 wd_91 yd_X0_hasStation ⟨Nat.le_of_ble_eq_true rfl, Nat.le_of_ble_eq_true rfl⟩ (Nat.le_of_ble_eq_true rfl) (by decide) (fun r5 σ5 h => ?_)
  refine r_if_ne C 22 11 dX4_needStation_8 (by decide) rfl (fun c8 => ?_) (fun c8 => ?_)
  · have h := h.1 c8
    exact r_vret (S := []) C r dX4_needStation_22 (by decide) h
  · have h := h.2 c8
    exact r_throwNW (own := "") (text := "there is no station at the node") C r.px dX4_needStation_11 dX4_needStation_14 dX4_needStation_15 dX4_needStation_18 dX4_needStation_21 (by decide) (Nat.le_of_ble_eq_true rfl) (Nat.le_of_ble_eq_true rfl) (by decide) h
theorem ct_X4_needStation (p0 : Int32) (σ : Mem) (K : Mem → Prop) (X : String → Mem → Prop) (h : sp_X4_needStation p0 σ K X) : CtV yX4_needStation cX4_needStation 2 none 8 1 [.ref 0, .int p0] σ K X := by
  have h := h
  exact ctV_of (by decide +kernel) (Nat.le_of_ble_eq_true rfl) (fun x C r => sg_X4_needStation_0 C r p0  σ h)
/-! HeatNetwork.refusal()I: level 8, exceptions 1 -/
def sp_X4_refusal  (σ : Mem) (K : Int32 → Mem → Prop) (X : String → Mem → Prop) : Prop := ((¬ (σ.1 0 13) = 0 → K (σ.1 0 13) σ) ∧ ((σ.1 0 13) = 0 → X "java/util/NoSuchElementException" σ))
set_option maxRecDepth 4000 in
theorem sg_X4_refusal_0 {x : Ctx} {K : Int32 → Mem → Prop} {X : String → Mem → Prop} (C : Cx x RX4 cX4_refusal 1) (r : RtI x 8 1 (some .int) K X)   (σ : Mem) (h : (¬ (σ.1 0 13) = 0 → K (σ.1 0 13) σ) ∧ ((σ.1 0 13) = 0 → X "java/util/NoSuchElementException" σ)) : Ws x 0 0 [(0, .ref 0)] [] σ := by
  refine r_aload_n (j := 0) C 1 dX4_refusal_0 rfl rfl ?_
  refine r_get (k := 13) C cl6 4 dX4_refusal_1 rfl kd_0 (by decide) wd_371 (.int (σ.1 0 13)) (fun _ => rfl) ?_
  refine r_if_ne C 17 7 dX4_refusal_4 (by decide) rfl (fun c4 => ?_) (fun c4 => ?_)
  · have h := h.1 c4
    refine r_aload_n (j := 0) C 18 dX4_refusal_17 rfl rfl ?_
    refine r_get (k := 13) C cl6 21 dX4_refusal_18 rfl kd_0 (by decide) wd_371 (.int (σ.1 0 13)) (fun _ => rfl) ?_
    exact r_iret (S := []) C r dX4_refusal_21 (by decide) rfl h
  · have h := h.2 c4
    exact r_throwN (own := "") (text := "nothing was refused") C r.px dX4_refusal_7 dX4_refusal_10 dX4_refusal_11 dX4_refusal_13 dX4_refusal_16 (by decide) (Nat.le_of_ble_eq_true rfl) (Nat.le_of_ble_eq_true rfl) (by decide) h
theorem ct_X4_refusal  (σ : Mem) (K : Int32 → Mem → Prop) (X : String → Mem → Prop) (h : sp_X4_refusal  σ K X) : CtI yX4_refusal cX4_refusal 1 (some .int) 8 1 [.ref 0] σ K X := by
  have h := h
  exact ctI_of (by decide +kernel) (Nat.le_of_ble_eq_true rfl) (fun x C r => sg_X4_refusal_0 C r   σ h)
/-! HeatNetwork.refuseFor(I)V: level 8, exceptions 1 -/
def sp_X4_refuseFor (p0 : Int32) (σ : Mem) (K : Mem → Prop) (X : String → Mem → Prop) : Prop := ((p0 = 0 → K σ) ∧ (¬ p0 = 0 → ∀ σ6 : Mem, σ6 = wi σ 0 13 p0 → X "java/lang/UnsupportedOperationException" σ6))
set_option maxRecDepth 4000 in
theorem sg_X4_refuseFor_0 {x : Ctx} {K : Mem → Prop} {X : String → Mem → Prop} (C : Cx x RX4 cX4_refuseFor 2) (r : RtV x 8 1 none K X) (p0 : Int32)  (σ : Mem) (h : (p0 = 0 → K σ) ∧ (¬ p0 = 0 → ∀ σ6 : Mem, σ6 = wi σ 0 13 p0 → X "java/lang/UnsupportedOperationException" σ6)) : Ws x 0 0 [(0, .ref 0), (1, .int p0)] [] σ := by
  refine r_iload_n (j := 1) C 1 dX4_refuseFor_0 rfl rfl ?_
  refine r_if_eq C 20 4 dX4_refuseFor_1 (by decide) rfl (fun c1 => ?_) (fun c1 => ?_)
  · have h := h.1 c1
    exact r_vret (S := []) C r dX4_refuseFor_20 (by decide) h
  · have h := h.2 c1
    refine r_aload_n (j := 0) C 5 dX4_refuseFor_4 rfl rfl ?_
    refine r_iload_n (j := 1) C 6 dX4_refuseFor_5 rfl rfl ?_
    refine r_putI (k := 13) C cl6 9 dX4_refuseFor_6 rfl kd_0 (by decide) wd_371 rfl rfl rfl rfl ?_
    refine r_nmS (fun σ6 e6 => ?_)
    have h := h σ6 e6
    exact r_throwW (own := "") (text := "refused") C r.px dX4_refuseFor_9 dX4_refuseFor_12 dX4_refuseFor_13 dX4_refuseFor_16 dX4_refuseFor_19 thUOE.1 thN wd_768 thUOE.2.1 (by decide) thUOE.2.2.1 thUOE.2.2.2.1 thUOE.2.2.2.2 (Nat.le_of_ble_eq_true rfl) (Nat.le_of_ble_eq_true rfl) (by decide) h
theorem ct_X4_refuseFor (p0 : Int32) (σ : Mem) (K : Mem → Prop) (X : String → Mem → Prop) (h : sp_X4_refuseFor p0 σ K X) : CtV yX4_refuseFor cX4_refuseFor 2 none 8 1 [.ref 0, .int p0] σ K X := by
  have h := h
  exact ctV_of (by decide +kernel) (Nat.le_of_ble_eq_true rfl) (fun x C r => sg_X4_refuseFor_0 C r p0  σ h)
/-! HeatNetwork.restore()I: level 8, exceptions 1 -/
def sp_X4_restore  (σ : Mem) (K : Int32 → Mem → Prop) (X : String → Mem → Prop) : Prop := ((¬ (σ.1 0 10) = 0 → sp_X0_takeOver 1 15 σ (fun σ26 => ∀ σ31 : Mem, σ31 = wi σ26 0 11 0 → ∀ σ36 : Mem, σ36 = wi σ31 0 9 0 → K (σ36.1 1 1) σ36) X) ∧ ((σ.1 0 10) = 0 → X "java/lang/IllegalStateException" σ))
set_option maxRecDepth 4000 in
theorem sg_X4_restore_0 {x : Ctx} {K : Int32 → Mem → Prop} {X : String → Mem → Prop} (C : Cx x RX4 cX4_restore 1) (r : RtI x 8 1 (some .int) K X)   (σ : Mem) (h : (¬ (σ.1 0 10) = 0 → sp_X0_takeOver 1 15 σ (fun σ26 => ∀ σ31 : Mem, σ31 = wi σ26 0 11 0 → ∀ σ36 : Mem, σ36 = wi σ31 0 9 0 → K (σ36.1 1 1) σ36) X) ∧ ((σ.1 0 10) = 0 → X "java/lang/IllegalStateException" σ)) : Ws x 0 0 [(0, .ref 0)] [] σ := by
  refine r_aload_n (j := 0) C 1 dX4_restore_0 rfl rfl ?_
  refine r_get (k := 10) C cl6 4 dX4_restore_1 rfl kd_0 (by decide) wd_368 (.int (σ.1 0 10)) (fun _ => rfl) ?_
  refine r_if_ne C 18 7 dX4_restore_4 (by decide) rfl (fun c4 => ?_) (fun c4 => ?_)
  · have h := h.1 c4
    refine r_aload_n (j := 0) C 19 dX4_restore_18 rfl rfl ?_
    refine r_get (k := 0) C cl6 22 dX4_restore_19 rfl kd_0 (by decide) wd_358 (.ref 1) (fun _ => rfl) ?_
    refine r_aload_n (j := 0) C 23 dX4_restore_22 rfl rfl ?_
    refine r_get (k := 1) C cl6 26 dX4_restore_23 rfl kd_0 (by decide) wd_359 (.ref 15) (fun _ => rfl) ?_
    refine r_cVV (as := [.ref 15]) (S := []) C r.px 29 (ct_X0_takeOver _ _ _ _ _ h) dX4_restore_26 rfl cl2 kd_1 wd_589 wd_588 rfl wd_587 wd_590 wd_91 yd_X0_takeOver ⟨Nat.le_of_ble_eq_true rfl, Nat.le_of_ble_eq_true rfl⟩ (Nat.le_of_ble_eq_true rfl) (by decide) (fun σ26 h => ?_)
    refine r_aload_n (j := 0) C 30 dX4_restore_29 rfl rfl ?_
    refine r_iconst C 31 (v := 0) dX4_restore_30 rfl (by decide) ?_
    refine r_putI (k := 11) C cl6 34 dX4_restore_31 rfl kd_0 (by decide) wd_369 rfl rfl rfl rfl ?_
    refine r_nmS (fun σ31 e31 => ?_)
    have h := h σ31 e31
    refine r_aload_n (j := 0) C 35 dX4_restore_34 rfl rfl ?_
    refine r_iconst C 36 (v := 0) dX4_restore_35 rfl (by decide) ?_
    refine r_putI (k := 9) C cl6 39 dX4_restore_36 rfl kd_0 (by decide) wd_367 rfl rfl rfl rfl ?_
    refine r_nmS (fun σ36 e36 => ?_)
    have h := h σ36 e36
    refine r_aload_n (j := 0) C 40 dX4_restore_39 rfl rfl ?_
    refine r_get (k := 0) C cl6 43 dX4_restore_40 rfl kd_0 (by decide) wd_358 (.ref 1) (fun _ => rfl) ?_
    refine r_get (k := 1) C cl2 46 dX4_restore_43 rfl kd_1 (by decide) wd_138 (.int (σ36.1 1 1)) (fun _ => rfl) ?_
    exact r_iret (S := []) C r dX4_restore_46 (by decide) rfl h
  · have h := h.2 c4
    exact r_throwW (own := "") (text := "there is no snapshot") C r.px dX4_restore_7 dX4_restore_10 dX4_restore_11 dX4_restore_14 dX4_restore_17 thISE.1 thN wd_934 thISE.2.1 (by decide) thISE.2.2.1 thISE.2.2.2.1 thISE.2.2.2.2 (Nat.le_of_ble_eq_true rfl) (Nat.le_of_ble_eq_true rfl) (by decide) h
theorem ct_X4_restore  (σ : Mem) (K : Int32 → Mem → Prop) (X : String → Mem → Prop) (h : sp_X4_restore  σ K X) : CtI yX4_restore cX4_restore 1 (some .int) 8 1 [.ref 0] σ K X := by
  have h := h
  exact ctI_of (by decide +kernel) (Nat.le_of_ble_eq_true rfl) (fun x C r => sg_X4_restore_0 C r   σ h)
/-! HeatNetwork.setSetting(II)I: level 8, exceptions 1 -/
def sp_X4_setSetting (p0 : Int32) (p1 : Int32) (σ : Mem) (K : Int32 → Mem → Prop) (X : String → Mem → Prop) : Prop := (sp_X4_settingReason p0 p1 σ (fun r2 σ2 => (¬ r2 = 1 → (r2 = 0 → (vp_in p0 7) ∧ (∀ v44 : Int32, v44 = (σ2.1 2 p0.toNatClampNeg) → sp_X4_beginChange  σ2 (fun σ47 => (vp_in p0 7) ∧ (∀ σ59 : Mem, σ59 = wi σ47 2 p0.toNatClampNeg p1 → sp_X4_endChange  σ59 (fun σ61 => K v44 σ61) X)) X)) ∧ (¬ r2 = 0 → X "java/lang/IllegalArgumentException" σ2)) ∧ (r2 = 1 → X "java/lang/IndexOutOfBoundsException" σ2)) X)
set_option maxRecDepth 4000 in
theorem sg_X4_setSetting_0 {x : Ctx} {K : Int32 → Mem → Prop} {X : String → Mem → Prop} (C : Cx x RX4 cX4_setSetting 5) (r : RtI x 8 1 (some .int) K X) (p0 : Int32) (p1 : Int32)  (σ : Mem) (h : sp_X4_settingReason p0 p1 σ (fun r2 σ2 => (¬ r2 = 1 → (r2 = 0 → (vp_in p0 7) ∧ (∀ v44 : Int32, v44 = (σ2.1 2 p0.toNatClampNeg) → sp_X4_beginChange  σ2 (fun σ47 => (vp_in p0 7) ∧ (∀ σ59 : Mem, σ59 = wi σ47 2 p0.toNatClampNeg p1 → sp_X4_endChange  σ59 (fun σ61 => K v44 σ61) X)) X)) ∧ (¬ r2 = 0 → X "java/lang/IllegalArgumentException" σ2)) ∧ (r2 = 1 → X "java/lang/IndexOutOfBoundsException" σ2)) X) : Ws x 0 0 [(0, .ref 0), (1, .int p0), (2, .int p1)] [] σ := by
  refine r_iload_n (j := 1) C 1 dX4_setSetting_0 rfl rfl ?_
  refine r_iload_n (j := 2) C 2 dX4_setSetting_1 rfl rfl ?_
  refine r_cSI (b := 0) (as := [.int p0, .int p1]) (S := []) C r.px 5 (ct_X4_settingReason _ _ _ _ _ h) dX4_setSetting_2 rfl wd_681 wd_680 wd_682 wd_90 yd_X4_settingReason ⟨Nat.le_of_ble_eq_true rfl, Nat.le_of_ble_eq_true rfl⟩ (Nat.le_of_ble_eq_true rfl) (by decide) (fun r2 σ2 h => ?_)
  refine r_istore_n C 6 [(3, .int r2), (0, .ref 0), (1, .int p0), (2, .int p1)] dX4_setSetting_5 rfl (by decide) rfl ?_
  refine r_iload_n (j := 0) C 7 dX4_setSetting_6 rfl rfl ?_
  refine r_iconst C 8 (v := 1) dX4_setSetting_7 rfl (by decide) ?_
  refine r_icmp_ne C 21 11 dX4_setSetting_8 (by decide) rfl (fun c8 => ?_) (fun c8 => ?_)
  · have h := h.1 c8
    refine r_iload_n (j := 0) C 22 dX4_setSetting_21 rfl rfl ?_
    refine r_if_eq C 35 25 dX4_setSetting_22 (by decide) rfl (fun c22 => ?_) (fun c22 => ?_)
    · have h := h.1 c22
      refine r_aload_n (j := 1) C 36 dX4_setSetting_35 rfl rfl ?_
      refine r_get (k := 0) C cl6 39 dX4_setSetting_36 rfl kd_0 (by decide) wd_358 (.ref 1) (fun _ => rfl) ?_
      refine r_get (k := 0) C cl2 42 dX4_setSetting_39 rfl kd_1 (by decide) wd_136 (.ref 2) (fun _ => rfl) ?_
      refine r_iload_n (j := 2) C 43 dX4_setSetting_42 rfl rfl ?_
      obtain ⟨o43, h⟩ := h
      refine r_iald C 44 dX4_setSetting_43 rfl kd_2 o43 ?_
      refine r_nmI (fun v44 e44 => ?_)
      have h := h v44 e44
      refine r_istore C 46 [(4, .int v44), (3, .int r2), (0, .ref 0), (1, .int p0), (2, .int p1)] dX4_setSetting_44 rfl (by decide) rfl ?_
      refine r_aload_n (j := 2) C 47 dX4_setSetting_46 rfl rfl ?_
      refine r_cVV (as := []) (S := []) C r.px 50 (ct_X4_beginChange  _ _ _ h) dX4_setSetting_47 rfl cl6 kd_0 wd_24 wd_718 rfl wd_716 wd_719 wd_90 yd_X4_beginChange ⟨Nat.le_of_ble_eq_true rfl, Nat.le_of_ble_eq_true rfl⟩ (Nat.le_of_ble_eq_true rfl) (by decide) (fun σ47 h => ?_)
      refine r_aload_n (j := 2) C 51 dX4_setSetting_50 rfl rfl ?_
      refine r_get (k := 0) C cl6 54 dX4_setSetting_51 rfl kd_0 (by decide) wd_358 (.ref 1) (fun _ => rfl) ?_
      refine r_get (k := 0) C cl2 57 dX4_setSetting_54 rfl kd_1 (by decide) wd_136 (.ref 2) (fun _ => rfl) ?_
      refine r_iload_n (j := 3) C 58 dX4_setSetting_57 rfl rfl ?_
      refine r_iload_n (j := 4) C 59 dX4_setSetting_58 rfl rfl ?_
      obtain ⟨o59, h⟩ := h
      refine r_iast C 60 dX4_setSetting_59 rfl kd_2 o59 ?_
      refine r_nmS (fun σ59 e59 => ?_)
      have h := h σ59 e59
      refine r_aload_n (j := 2) C 61 dX4_setSetting_60 rfl rfl ?_
      refine r_cVV (as := []) (S := []) C r.px 64 (ct_X4_endChange  _ _ _ h) dX4_setSetting_61 rfl cl6 kd_0 wd_25 wd_722 rfl wd_720 wd_723 wd_90 yd_X4_endChange ⟨Nat.le_of_ble_eq_true rfl, Nat.le_of_ble_eq_true rfl⟩ (Nat.le_of_ble_eq_true rfl) (by decide) (fun σ61 h => ?_)
      refine r_iload (j := 0) C 66 dX4_setSetting_64 rfl rfl ?_
      exact r_iret (S := []) C r dX4_setSetting_66 (by decide) rfl h
    · have h := h.2 c22
      exact r_throw (own := "") (text := "the value is out of range") C r.px dX4_setSetting_25 dX4_setSetting_28 dX4_setSetting_29 dX4_setSetting_31 dX4_setSetting_34 thIAE.1 thN wd_700 thIAE.2.1 (by decide) thIAE.2.2.1 thIAE.2.2.2.1 thIAE.2.2.2.2 (Nat.le_of_ble_eq_true rfl) (Nat.le_of_ble_eq_true rfl) (by decide) h
  · have h := h.2 c8
    exact r_throw (own := "") (text := "there is no such setting") C r.px dX4_setSetting_11 dX4_setSetting_14 dX4_setSetting_15 dX4_setSetting_17 dX4_setSetting_20 thIOO.1 thN wd_687 thIOO.2.1 (by decide) thIOO.2.2.1 thIOO.2.2.2.1 thIOO.2.2.2.2 (Nat.le_of_ble_eq_true rfl) (Nat.le_of_ble_eq_true rfl) (by decide) h
theorem ct_X4_setSetting (p0 : Int32) (p1 : Int32) (σ : Mem) (K : Int32 → Mem → Prop) (X : String → Mem → Prop) (h : sp_X4_setSetting p0 p1 σ K X) : CtI yX4_setSetting cX4_setSetting 5 (some .int) 8 1 [.ref 0, .int p0, .int p1] σ K X := by
  have h := h
  exact ctI_of (by decide +kernel) (Nat.le_of_ble_eq_true rfl) (fun x C r => sg_X4_setSetting_0 C r p0 p1  σ h)
/-! HeatNetwork.setting(I)I: level 8, exceptions 1 -/
def sp_X4_setting (p0 : Int32) (σ : Mem) (K : Int32 → Mem → Prop) (X : String → Mem → Prop) : Prop := (sp_X4_isWithin p0 0 6 σ (fun r4 σ4 => (¬ r4 = 0 → (vp_in p0 7) ∧ (K (σ4.1 2 p0.toNatClampNeg) σ4)) ∧ (r4 = 0 → X "java/lang/IndexOutOfBoundsException" σ4)) X)
set_option maxRecDepth 4000 in
theorem sg_X4_setting_0 {x : Ctx} {K : Int32 → Mem → Prop} {X : String → Mem → Prop} (C : Cx x RX4 cX4_setting 2) (r : RtI x 8 1 (some .int) K X) (p0 : Int32)  (σ : Mem) (h : sp_X4_isWithin p0 0 6 σ (fun r4 σ4 => (¬ r4 = 0 → (vp_in p0 7) ∧ (K (σ4.1 2 p0.toNatClampNeg) σ4)) ∧ (r4 = 0 → X "java/lang/IndexOutOfBoundsException" σ4)) X) : Ws x 0 0 [(0, .ref 0), (1, .int p0)] [] σ := by
  refine r_iload_n (j := 1) C 1 dX4_setting_0 rfl rfl ?_
  refine r_iconst C 2 (v := 0) dX4_setting_1 rfl (by decide) ?_
  refine r_bipush C 4 (v := 6) dX4_setting_2 rfl (by decide) ?_
  refine r_cSI (b := 0) (as := [.int p0, .int 0, .int 6]) (S := []) C r.px 7 (ct_X4_isWithin _ _ _ _ _ _ h) dX4_setting_4 rfl wd_432 wd_431 wd_433 wd_90 yd_X4_isWithin ⟨Nat.le_of_ble_eq_true rfl, Nat.le_of_ble_eq_true rfl⟩ (Nat.le_of_ble_eq_true rfl) (by decide) (fun r4 σ4 h => ?_)
  refine r_if_ne C 20 10 dX4_setting_7 (by decide) rfl (fun c7 => ?_) (fun c7 => ?_)
  · have h := h.1 c7
    refine r_aload_n (j := 0) C 21 dX4_setting_20 rfl rfl ?_
    refine r_get (k := 0) C cl6 24 dX4_setting_21 rfl kd_0 (by decide) wd_358 (.ref 1) (fun _ => rfl) ?_
    refine r_get (k := 0) C cl2 27 dX4_setting_24 rfl kd_1 (by decide) wd_136 (.ref 2) (fun _ => rfl) ?_
    refine r_iload_n (j := 1) C 28 dX4_setting_27 rfl rfl ?_
    obtain ⟨o28, h⟩ := h
    refine r_iald C 29 dX4_setting_28 rfl kd_2 o28 ?_
    exact r_iret (S := []) C r dX4_setting_29 (by decide) rfl h
  · have h := h.2 c7
    exact r_throw (own := "") (text := "there is no such setting") C r.px dX4_setting_10 dX4_setting_13 dX4_setting_14 dX4_setting_16 dX4_setting_19 thIOO.1 thN wd_687 thIOO.2.1 (by decide) thIOO.2.2.1 thIOO.2.2.2.1 thIOO.2.2.2.2 (Nat.le_of_ble_eq_true rfl) (Nat.le_of_ble_eq_true rfl) (by decide) h
theorem ct_X4_setting (p0 : Int32) (σ : Mem) (K : Int32 → Mem → Prop) (X : String → Mem → Prop) (h : sp_X4_setting p0 σ K X) : CtI yX4_setting cX4_setting 2 (some .int) 8 1 [.ref 0, .int p0] σ K X := by
  have h := h
  exact ctI_of (by decide +kernel) (Nat.le_of_ble_eq_true rfl) (fun x C r => sg_X4_setting_0 C r p0  σ h)
/-! HeatNetwork.undo()I: level 8, exceptions 1 -/
def sp_X4_undo  (σ : Mem) (K : Int32 → Mem → Prop) (X : String → Mem → Prop) : Prop := ((¬ (σ.1 0 9) = 0 → (¬ (σ.1 0 8) = 0 → ∀ σ37 : Mem, σ37 = wi σ 0 8 ((σ.1 0 8) - 1) → (vp_in (σ37.1 0 8) 9) ∧ (sp_X0_takeOver 1 (83 + 14 * ((σ37.1 0 8)).toNatClampNeg) σ37 (fun σ53 => ∀ σ58 : Mem, σ58 = wi σ53 0 11 0 → ∀ σ68 : Mem, σ68 = wi σ58 0 9 ((σ58.1 0 9) - 1) → K (σ68.1 0 9) σ68) X)) ∧ ((σ.1 0 8) = 0 → ∀ σ37 : Mem, σ37 = wi σ 0 8 8 → (vp_in (σ37.1 0 8) 9) ∧ (sp_X0_takeOver 1 (83 + 14 * ((σ37.1 0 8)).toNatClampNeg) σ37 (fun σ53 => ∀ σ58 : Mem, σ58 = wi σ53 0 11 0 → ∀ σ68 : Mem, σ68 = wi σ58 0 9 ((σ58.1 0 9) - 1) → K (σ68.1 0 9) σ68) X))) ∧ ((σ.1 0 9) = 0 → X "java/lang/IllegalStateException" σ))
set_option maxRecDepth 4000 in
theorem sg_X4_undo_0 {x : Ctx} {K : Int32 → Mem → Prop} {X : String → Mem → Prop} (C : Cx x RX4 cX4_undo 1) (r : RtI x 8 1 (some .int) K X)   (σ : Mem) (h : (¬ (σ.1 0 9) = 0 → (¬ (σ.1 0 8) = 0 → ∀ σ37 : Mem, σ37 = wi σ 0 8 ((σ.1 0 8) - 1) → (vp_in (σ37.1 0 8) 9) ∧ (sp_X0_takeOver 1 (83 + 14 * ((σ37.1 0 8)).toNatClampNeg) σ37 (fun σ53 => ∀ σ58 : Mem, σ58 = wi σ53 0 11 0 → ∀ σ68 : Mem, σ68 = wi σ58 0 9 ((σ58.1 0 9) - 1) → K (σ68.1 0 9) σ68) X)) ∧ ((σ.1 0 8) = 0 → ∀ σ37 : Mem, σ37 = wi σ 0 8 8 → (vp_in (σ37.1 0 8) 9) ∧ (sp_X0_takeOver 1 (83 + 14 * ((σ37.1 0 8)).toNatClampNeg) σ37 (fun σ53 => ∀ σ58 : Mem, σ58 = wi σ53 0 11 0 → ∀ σ68 : Mem, σ68 = wi σ58 0 9 ((σ58.1 0 9) - 1) → K (σ68.1 0 9) σ68) X))) ∧ ((σ.1 0 9) = 0 → X "java/lang/IllegalStateException" σ)) : Ws x 0 0 [(0, .ref 0)] [] σ := by
  refine r_aload_n (j := 0) C 1 dX4_undo_0 rfl rfl ?_
  refine r_get (k := 9) C cl6 4 dX4_undo_1 rfl kd_0 (by decide) wd_367 (.int (σ.1 0 9)) (fun _ => rfl) ?_
  refine r_if_ne C 18 7 dX4_undo_4 (by decide) rfl (fun c4 => ?_) (fun c4 => ?_)
  · have h := h.1 c4
    refine r_aload_n (j := 0) C 19 dX4_undo_18 rfl rfl ?_
    refine r_aload_n (j := 0) C 20 dX4_undo_19 rfl rfl ?_
    refine r_get (k := 8) C cl6 23 dX4_undo_20 rfl kd_0 (by decide) wd_366 (.int (σ.1 0 8)) (fun _ => rfl) ?_
    refine r_if_ne C 31 26 dX4_undo_23 (by decide) rfl (fun c23 => ?_) (fun c23 => ?_)
    · have h := h.1 c23
      refine r_aload_n (j := 0) C 32 dX4_undo_31 rfl rfl ?_
      refine r_get (k := 8) C cl6 35 dX4_undo_32 rfl kd_0 (by decide) wd_366 (.int (σ.1 0 8)) (fun _ => rfl) ?_
      refine r_iconst C 36 (v := 1) dX4_undo_35 rfl (by decide) ?_
      refine r_isub C 37 dX4_undo_36 rfl ?_
      refine r_putI (k := 8) C cl6 40 dX4_undo_37 rfl kd_0 (by decide) wd_366 rfl rfl rfl rfl ?_
      refine r_nmS (fun σ37 e37 => ?_)
      have h := h σ37 e37
      refine r_aload_n (j := 0) C 41 dX4_undo_40 rfl rfl ?_
      refine r_get (k := 0) C cl6 44 dX4_undo_41 rfl kd_0 (by decide) wd_358 (.ref 1) (fun _ => rfl) ?_
      refine r_aload_n (j := 0) C 45 dX4_undo_44 rfl rfl ?_
      refine r_get (k := 3) C cl6 48 dX4_undo_45 rfl kd_0 (by decide) wd_361 (.ref 43) (fun _ => rfl) ?_
      refine r_aload_n (j := 0) C 49 dX4_undo_48 rfl rfl ?_
      refine r_get (k := 8) C cl6 52 dX4_undo_49 rfl kd_0 (by decide) wd_366 (.int (σ37.1 0 8)) (fun _ => rfl) ?_
      obtain ⟨o52, h⟩ := h
      refine r_aald C 53 dX4_undo_52 rfl kd_43 o52 ?_
      refine r_cVV (as := [.ref (83 + 14 * ((σ37.1 0 8)).toNatClampNeg)]) (S := []) C r.px 56 (ct_X0_takeOver _ _ _ _ _ h) dX4_undo_53 rfl cl2 kd_1 wd_589 wd_588 rfl wd_587 wd_590 wd_91 yd_X0_takeOver ⟨Nat.le_of_ble_eq_true rfl, Nat.le_of_ble_eq_true rfl⟩ (Nat.le_of_ble_eq_true rfl) (by decide) (fun σ53 h => ?_)
      refine r_aload_n (j := 0) C 57 dX4_undo_56 rfl rfl ?_
      refine r_iconst C 58 (v := 0) dX4_undo_57 rfl (by decide) ?_
      refine r_putI (k := 11) C cl6 61 dX4_undo_58 rfl kd_0 (by decide) wd_369 rfl rfl rfl rfl ?_
      refine r_nmS (fun σ58 e58 => ?_)
      have h := h σ58 e58
      refine r_aload_n (j := 0) C 62 dX4_undo_61 rfl rfl ?_
      refine r_dup C 63 dX4_undo_62 rfl rfl ?_
      refine r_get (k := 9) C cl6 66 dX4_undo_63 rfl kd_0 (by decide) wd_367 (.int (σ58.1 0 9)) (fun _ => rfl) ?_
      refine r_iconst C 67 (v := 1) dX4_undo_66 rfl (by decide) ?_
      refine r_isub C 68 dX4_undo_67 rfl ?_
      refine r_putI (k := 9) C cl6 71 dX4_undo_68 rfl kd_0 (by decide) wd_367 rfl rfl rfl rfl ?_
      refine r_nmS (fun σ68 e68 => ?_)
      have h := h σ68 e68
      refine r_aload_n (j := 0) C 72 dX4_undo_71 rfl rfl ?_
      refine r_get (k := 9) C cl6 75 dX4_undo_72 rfl kd_0 (by decide) wd_367 (.int (σ68.1 0 9)) (fun _ => rfl) ?_
      exact r_iret (S := []) C r dX4_undo_75 (by decide) rfl h
    · have h := h.2 c23
      refine r_bipush C 28 (v := 8) dX4_undo_26 rfl (by decide) ?_
      refine r_goto C 37 dX4_undo_28 (by decide) ?_
      refine r_putI (k := 8) C cl6 40 dX4_undo_37 rfl kd_0 (by decide) wd_366 rfl rfl rfl rfl ?_
      refine r_nmS (fun σ37 e37 => ?_)
      have h := h σ37 e37
      refine r_aload_n (j := 0) C 41 dX4_undo_40 rfl rfl ?_
      refine r_get (k := 0) C cl6 44 dX4_undo_41 rfl kd_0 (by decide) wd_358 (.ref 1) (fun _ => rfl) ?_
      refine r_aload_n (j := 0) C 45 dX4_undo_44 rfl rfl ?_
      refine r_get (k := 3) C cl6 48 dX4_undo_45 rfl kd_0 (by decide) wd_361 (.ref 43) (fun _ => rfl) ?_
      refine r_aload_n (j := 0) C 49 dX4_undo_48 rfl rfl ?_
      refine r_get (k := 8) C cl6 52 dX4_undo_49 rfl kd_0 (by decide) wd_366 (.int (σ37.1 0 8)) (fun _ => rfl) ?_
      obtain ⟨o52, h⟩ := h
      refine r_aald C 53 dX4_undo_52 rfl kd_43 o52 ?_
      refine r_cVV (as := [.ref (83 + 14 * ((σ37.1 0 8)).toNatClampNeg)]) (S := []) C r.px 56 (ct_X0_takeOver _ _ _ _ _ h) dX4_undo_53 rfl cl2 kd_1 wd_589 wd_588 rfl wd_587 wd_590 wd_91 yd_X0_takeOver ⟨Nat.le_of_ble_eq_true rfl, Nat.le_of_ble_eq_true rfl⟩ (Nat.le_of_ble_eq_true rfl) (by decide) (fun σ53 h => ?_)
      refine r_aload_n (j := 0) C 57 dX4_undo_56 rfl rfl ?_
      refine r_iconst C 58 (v := 0) dX4_undo_57 rfl (by decide) ?_
      refine r_putI (k := 11) C cl6 61 dX4_undo_58 rfl kd_0 (by decide) wd_369 rfl rfl rfl rfl ?_
      refine r_nmS (fun σ58 e58 => ?_)
      have h := h σ58 e58
      refine r_aload_n (j := 0) C 62 dX4_undo_61 rfl rfl ?_
      refine r_dup C 63 dX4_undo_62 rfl rfl ?_
      refine r_get (k := 9) C cl6 66 dX4_undo_63 rfl kd_0 (by decide) wd_367 (.int (σ58.1 0 9)) (fun _ => rfl) ?_
      refine r_iconst C 67 (v := 1) dX4_undo_66 rfl (by decide) ?_
      refine r_isub C 68 dX4_undo_67 rfl ?_
      refine r_putI (k := 9) C cl6 71 dX4_undo_68 rfl kd_0 (by decide) wd_367 rfl rfl rfl rfl ?_
      refine r_nmS (fun σ68 e68 => ?_)
      have h := h σ68 e68
      refine r_aload_n (j := 0) C 72 dX4_undo_71 rfl rfl ?_
      refine r_get (k := 9) C cl6 75 dX4_undo_72 rfl kd_0 (by decide) wd_367 (.int (σ68.1 0 9)) (fun _ => rfl) ?_
      exact r_iret (S := []) C r dX4_undo_75 (by decide) rfl h
  · have h := h.2 c4
    exact r_throwW (own := "") (text := "no change is kept") C r.px dX4_undo_7 dX4_undo_10 dX4_undo_11 dX4_undo_14 dX4_undo_17 thISE.1 thN wd_934 thISE.2.1 (by decide) thISE.2.2.1 thISE.2.2.2.1 thISE.2.2.2.2 (Nat.le_of_ble_eq_true rfl) (Nat.le_of_ble_eq_true rfl) (by decide) h
theorem ct_X4_undo  (σ : Mem) (K : Int32 → Mem → Prop) (X : String → Mem → Prop) (h : sp_X4_undo  σ K X) : CtI yX4_undo cX4_undo 1 (some .int) 8 1 [.ref 0] σ K X := by
  have h := h
  exact ctI_of (by decide +kernel) (Nat.le_of_ble_eq_true rfl) (fun x C r => sg_X4_undo_0 C r   σ h)
/-! HeatNetwork.append(I)I: level 9, exceptions 2 -/
def sp_X4_append (p0 : Int32) (σ : Mem) (K : Int32 → Mem → Prop) (X : String → Mem → Prop) : Prop := (sp_X4_needRange p0 32 126 σ (fun σ5 => ((σ5.1 79 1) < 60 → (vp_in (σ5.1 79 1) 60) ∧ ((vp_nar .char ((p0).toUInt32 % 65536).toInt32 = ((p0).toUInt32 % 65536).toInt32) ∧ (∀ σ46 : Mem, σ46 = wi σ5 80 ((σ5.1 79 1)).toNatClampNeg ((p0).toUInt32 % 65536).toInt32 → ∀ σ57 : Mem, σ57 = wi σ46 79 1 ((σ46.1 79 1) + 1) → K (σ57.1 79 1) σ57))) ∧ (¬ (σ5.1 79 1) < 60 → X "java/lang/IllegalStateException" σ5)) X)
set_option maxRecDepth 4000 in
theorem sg_X4_append_0 {x : Ctx} {K : Int32 → Mem → Prop} {X : String → Mem → Prop} (C : Cx x RX4 cX4_append 2) (r : RtI x 9 2 (some .int) K X) (p0 : Int32)  (σ : Mem) (h : sp_X4_needRange p0 32 126 σ (fun σ5 => ((σ5.1 79 1) < 60 → (vp_in (σ5.1 79 1) 60) ∧ ((vp_nar .char ((p0).toUInt32 % 65536).toInt32 = ((p0).toUInt32 % 65536).toInt32) ∧ (∀ σ46 : Mem, σ46 = wi σ5 80 ((σ5.1 79 1)).toNatClampNeg ((p0).toUInt32 % 65536).toInt32 → ∀ σ57 : Mem, σ57 = wi σ46 79 1 ((σ46.1 79 1) + 1) → K (σ57.1 79 1) σ57))) ∧ (¬ (σ5.1 79 1) < 60 → X "java/lang/IllegalStateException" σ5)) X) : Ws x 0 0 [(0, .ref 0), (1, .int p0)] [] σ := by
  refine r_iload_n (j := 1) C 1 dX4_append_0 rfl rfl ?_
  refine r_bipush C 3 (v := 32) dX4_append_1 rfl (by decide) ?_
  refine r_bipush C 5 (v := 126) dX4_append_3 rfl (by decide) ?_
  refine r_cSV (b := 0) (as := [.int p0, .int 32, .int 126]) (S := []) C r.px 8 (ct_X4_needRange _ _ _ _ _ _ h) dX4_append_5 rfl wd_869 wd_868 wd_870 wd_90 yd_X4_needRange ⟨Nat.le_of_ble_eq_true rfl, Nat.le_of_ble_eq_true rfl⟩ (Nat.le_of_ble_eq_true rfl) (by decide) (fun σ5 h => ?_)
  refine r_aload_n (j := 0) C 9 dX4_append_8 rfl rfl ?_
  refine r_get (k := 7) C cl6 12 dX4_append_9 rfl kd_0 (by decide) wd_365 (.ref 79) (fun _ => rfl) ?_
  refine r_get (k := 1) C cl5 15 dX4_append_12 rfl kd_79 (by decide) wd_337 (.int (σ5.1 79 1)) (fun _ => rfl) ?_
  refine r_bipush C 17 (v := 60) dX4_append_15 rfl (by decide) ?_
  refine r_icmp_lt C 30 20 dX4_append_17 (by decide) rfl (fun c17 => ?_) (fun c17 => ?_)
  · have h := h.1 c17
    refine r_aload_n (j := 0) C 31 dX4_append_30 rfl rfl ?_
    refine r_get (k := 7) C cl6 34 dX4_append_31 rfl kd_0 (by decide) wd_365 (.ref 79) (fun _ => rfl) ?_
    refine r_get (k := 0) C cl5 37 dX4_append_34 rfl kd_79 (by decide) wd_335 (.ref 80) (fun _ => rfl) ?_
    refine r_aload_n (j := 0) C 38 dX4_append_37 rfl rfl ?_
    refine r_get (k := 7) C cl6 41 dX4_append_38 rfl kd_0 (by decide) wd_365 (.ref 79) (fun _ => rfl) ?_
    refine r_get (k := 1) C cl5 44 dX4_append_41 rfl kd_79 (by decide) wd_337 (.int (σ5.1 79 1)) (fun _ => rfl) ?_
    refine r_iload_n (j := 1) C 45 dX4_append_44 rfl rfl ?_
    refine r_i2c C 46 dX4_append_45 rfl ?_
    obtain ⟨o46, h⟩ := h
    obtain ⟨u46, h⟩ := h
    refine r_cast C 47 dX4_append_46 rfl kd_80 o46 u46 ?_
    refine r_nmS (fun σ46 e46 => ?_)
    have h := h σ46 e46
    refine r_aload_n (j := 0) C 48 dX4_append_47 rfl rfl ?_
    refine r_get (k := 7) C cl6 51 dX4_append_48 rfl kd_0 (by decide) wd_365 (.ref 79) (fun _ => rfl) ?_
    refine r_dup C 52 dX4_append_51 rfl rfl ?_
    refine r_get (k := 1) C cl5 55 dX4_append_52 rfl kd_79 (by decide) wd_337 (.int (σ46.1 79 1)) (fun _ => rfl) ?_
    refine r_iconst C 56 (v := 1) dX4_append_55 rfl (by decide) ?_
    refine r_iadd C 57 dX4_append_56 rfl ?_
    refine r_putI (k := 1) C cl5 60 dX4_append_57 rfl kd_79 (by decide) wd_337 rfl rfl rfl rfl ?_
    refine r_nmS (fun σ57 e57 => ?_)
    have h := h σ57 e57
    refine r_aload_n (j := 0) C 61 dX4_append_60 rfl rfl ?_
    refine r_get (k := 7) C cl6 64 dX4_append_61 rfl kd_0 (by decide) wd_365 (.ref 79) (fun _ => rfl) ?_
    refine r_get (k := 1) C cl5 67 dX4_append_64 rfl kd_79 (by decide) wd_337 (.int (σ57.1 79 1)) (fun _ => rfl) ?_
    exact r_iret (S := []) C r dX4_append_67 (by decide) rfl h
  · have h := h.2 c17
    exact r_throw (own := "") (text := "the buffer is full") C r.px dX4_append_20 dX4_append_23 dX4_append_24 dX4_append_26 dX4_append_29 thISE.1 thN wd_934 thISE.2.1 (by decide) thISE.2.2.1 thISE.2.2.2.1 thISE.2.2.2.2 (Nat.le_of_ble_eq_true rfl) (Nat.le_of_ble_eq_true rfl) (by decide) h
theorem ct_X4_append (p0 : Int32) (σ : Mem) (K : Int32 → Mem → Prop) (X : String → Mem → Prop) (h : sp_X4_append p0 σ K X) : CtI yX4_append cX4_append 2 (some .int) 9 2 [.ref 0, .int p0] σ K X := by
  have h := h
  exact ctI_of (by decide +kernel) (Nat.le_of_ble_eq_true rfl) (fun x C r => sg_X4_append_0 C r p0  σ h)
/-! HeatNetwork.setMeter(III)I: level 9, exceptions 3 -/
def sp_X4_setMeter (p0 : Int32) (p1 : Int32) (p2 : Int32) (σ : Mem) (K : Int32 → Mem → Prop) (X : String → Mem → Prop) : Prop := (sp_X4_needStation p0 σ (fun σ2 => sp_X4_needRange p1 0 2 σ2 (fun σ8 => sp_X4_needRange p2 0 2000 σ8 (fun σ16 => (vp_in p0 10) ∧ (∀ v28 : Int32, v28 = (σ16.1 10 p0.toNatClampNeg) → sp_X4_beginChange  σ16 (fun σ31 => (vp_in p0 10) ∧ (∀ σ43 : Mem, σ43 = wi σ31 10 p0.toNatClampNeg p1 → (vp_in p0 10) ∧ (∀ σ53 : Mem, σ53 = wi σ43 11 p0.toNatClampNeg p2 → sp_X4_endChange  σ53 (fun σ55 => K v28 σ55) X))) X)) X) X) X)
set_option maxRecDepth 4000 in
theorem sg_X4_setMeter_0 {x : Ctx} {K : Int32 → Mem → Prop} {X : String → Mem → Prop} (C : Cx x RX4 cX4_setMeter 5) (r : RtI x 9 3 (some .int) K X) (p0 : Int32) (p1 : Int32) (p2 : Int32)  (σ : Mem) (h : sp_X4_needStation p0 σ (fun σ2 => sp_X4_needRange p1 0 2 σ2 (fun σ8 => sp_X4_needRange p2 0 2000 σ8 (fun σ16 => (vp_in p0 10) ∧ (∀ v28 : Int32, v28 = (σ16.1 10 p0.toNatClampNeg) → sp_X4_beginChange  σ16 (fun σ31 => (vp_in p0 10) ∧ (∀ σ43 : Mem, σ43 = wi σ31 10 p0.toNatClampNeg p1 → (vp_in p0 10) ∧ (∀ σ53 : Mem, σ53 = wi σ43 11 p0.toNatClampNeg p2 → sp_X4_endChange  σ53 (fun σ55 => K v28 σ55) X))) X)) X) X) X) : Ws x 0 0 [(0, .ref 0), (1, .int p0), (2, .int p1), (3, .int p2)] [] σ := by
  refine r_aload_n (j := 0) C 1 dX4_setMeter_0 rfl rfl ?_
  refine r_iload_n (j := 1) C 2 dX4_setMeter_1 rfl rfl ?_
  refine r_cVV (as := [.int p0]) (S := []) C r.px 5 (ct_X4_needStation _ _ _ _ h) dX4_setMeter_2 rfl cl6 kd_0 wd_28 wd_849 rfl wd_847 wd_850 wd_90 yd_X4_needStation ⟨Nat.le_of_ble_eq_true rfl, Nat.le_of_ble_eq_true rfl⟩ (Nat.le_of_ble_eq_true rfl) (by decide) (fun σ2 h => ?_)
  refine r_iload_n (j := 2) C 6 dX4_setMeter_5 rfl rfl ?_
  refine r_iconst C 7 (v := 0) dX4_setMeter_6 rfl (by decide) ?_
  refine r_iconst C 8 (v := 2) dX4_setMeter_7 rfl (by decide) ?_
  refine r_cSV (b := 0) (as := [.int p1, .int 0, .int 2]) (S := []) C r.px 11 (ct_X4_needRange _ _ _ _ _ _ h) dX4_setMeter_8 rfl wd_869 wd_868 wd_870 wd_90 yd_X4_needRange ⟨Nat.le_of_ble_eq_true rfl, Nat.le_of_ble_eq_true rfl⟩ (Nat.le_of_ble_eq_true rfl) (by decide) (fun σ8 h => ?_)
  refine r_iload_n (j := 3) C 12 dX4_setMeter_11 rfl rfl ?_
  refine r_iconst C 13 (v := 0) dX4_setMeter_12 rfl (by decide) ?_
  refine r_sipush C 16 (v := 2000) dX4_setMeter_13 rfl (by decide) ?_
  refine r_cSV (b := 0) (as := [.int p2, .int 0, .int 2000]) (S := []) C r.px 19 (ct_X4_needRange _ _ _ _ _ _ h) dX4_setMeter_16 rfl wd_869 wd_868 wd_870 wd_90 yd_X4_needRange ⟨Nat.le_of_ble_eq_true rfl, Nat.le_of_ble_eq_true rfl⟩ (Nat.le_of_ble_eq_true rfl) (by decide) (fun σ16 h => ?_)
  refine r_aload_n (j := 0) C 20 dX4_setMeter_19 rfl rfl ?_
  refine r_get (k := 0) C cl6 23 dX4_setMeter_20 rfl kd_0 (by decide) wd_358 (.ref 1) (fun _ => rfl) ?_
  refine r_get (k := 9) C cl2 26 dX4_setMeter_23 rfl kd_1 (by decide) wd_161 (.ref 10) (fun _ => rfl) ?_
  refine r_iload_n (j := 1) C 27 dX4_setMeter_26 rfl rfl ?_
  obtain ⟨o27, h⟩ := h
  refine r_iald C 28 dX4_setMeter_27 rfl kd_10 o27 ?_
  refine r_nmI (fun v28 e28 => ?_)
  have h := h v28 e28
  refine r_istore C 30 [(4, .int v28), (0, .ref 0), (1, .int p0), (2, .int p1), (3, .int p2)] dX4_setMeter_28 rfl (by decide) rfl ?_
  refine r_aload_n (j := 1) C 31 dX4_setMeter_30 rfl rfl ?_
  refine r_cVV (as := []) (S := []) C r.px 34 (ct_X4_beginChange  _ _ _ h) dX4_setMeter_31 rfl cl6 kd_0 wd_24 wd_718 rfl wd_716 wd_719 wd_90 yd_X4_beginChange ⟨Nat.le_of_ble_eq_true rfl, Nat.le_of_ble_eq_true rfl⟩ (Nat.le_of_ble_eq_true rfl) (by decide) (fun σ31 h => ?_)
  refine r_aload_n (j := 1) C 35 dX4_setMeter_34 rfl rfl ?_
  refine r_get (k := 0) C cl6 38 dX4_setMeter_35 rfl kd_0 (by decide) wd_358 (.ref 1) (fun _ => rfl) ?_
  refine r_get (k := 9) C cl2 41 dX4_setMeter_38 rfl kd_1 (by decide) wd_161 (.ref 10) (fun _ => rfl) ?_
  refine r_iload_n (j := 2) C 42 dX4_setMeter_41 rfl rfl ?_
  refine r_iload_n (j := 3) C 43 dX4_setMeter_42 rfl rfl ?_
  obtain ⟨o43, h⟩ := h
  refine r_iast C 44 dX4_setMeter_43 rfl kd_10 o43 ?_
  refine r_nmS (fun σ43 e43 => ?_)
  have h := h σ43 e43
  refine r_aload_n (j := 1) C 45 dX4_setMeter_44 rfl rfl ?_
  refine r_get (k := 0) C cl6 48 dX4_setMeter_45 rfl kd_0 (by decide) wd_358 (.ref 1) (fun _ => rfl) ?_
  refine r_get (k := 10) C cl2 51 dX4_setMeter_48 rfl kd_1 (by decide) wd_163 (.ref 11) (fun _ => rfl) ?_
  refine r_iload_n (j := 2) C 52 dX4_setMeter_51 rfl rfl ?_
  refine r_iload_n (j := 4) C 53 dX4_setMeter_52 rfl rfl ?_
  obtain ⟨o53, h⟩ := h
  refine r_iast C 54 dX4_setMeter_53 rfl kd_11 o53 ?_
  refine r_nmS (fun σ53 e53 => ?_)
  have h := h σ53 e53
  refine r_aload_n (j := 1) C 55 dX4_setMeter_54 rfl rfl ?_
  refine r_cVV (as := []) (S := []) C r.px 58 (ct_X4_endChange  _ _ _ h) dX4_setMeter_55 rfl cl6 kd_0 wd_25 wd_722 rfl wd_720 wd_723 wd_90 yd_X4_endChange ⟨Nat.le_of_ble_eq_true rfl, Nat.le_of_ble_eq_true rfl⟩ (Nat.le_of_ble_eq_true rfl) (by decide) (fun σ55 h => ?_)
  refine r_iload (j := 0) C 60 dX4_setMeter_58 rfl rfl ?_
  exact r_iret (S := []) C r dX4_setMeter_60 (by decide) rfl h
theorem ct_X4_setMeter (p0 : Int32) (p1 : Int32) (p2 : Int32) (σ : Mem) (K : Int32 → Mem → Prop) (X : String → Mem → Prop) (h : sp_X4_setMeter p0 p1 p2 σ K X) : CtI yX4_setMeter cX4_setMeter 5 (some .int) 9 3 [.ref 0, .int p0, .int p1, .int p2] σ K X := by
  have h := h
  exact ctI_of (by decide +kernel) (Nat.le_of_ble_eq_true rfl) (fun x C r => sg_X4_setMeter_0 C r p0 p1 p2  σ h)
/-! HeatNetwork.setReturn(II)I: level 9, exceptions 2 -/
def sp_X4_setReturn (p0 : Int32) (p1 : Int32) (σ : Mem) (K : Int32 → Mem → Prop) (X : String → Mem → Prop) : Prop := (sp_X4_needStation p0 σ (fun σ2 => sp_X4_needRange p1 200 600 σ2 (fun σ12 => (vp_in p0 10) ∧ (∀ v24 : Int32, v24 = (σ12.1 8 p0.toNatClampNeg) → sp_X4_beginChange  σ12 (fun σ26 => (vp_in p0 10) ∧ (∀ σ38 : Mem, σ38 = wi σ26 8 p0.toNatClampNeg p1 → sp_X4_endChange  σ38 (fun σ40 => K v24 σ40) X)) X)) X) X)
set_option maxRecDepth 4000 in
theorem sg_X4_setReturn_0 {x : Ctx} {K : Int32 → Mem → Prop} {X : String → Mem → Prop} (C : Cx x RX4 cX4_setReturn 4) (r : RtI x 9 2 (some .int) K X) (p0 : Int32) (p1 : Int32)  (σ : Mem) (h : sp_X4_needStation p0 σ (fun σ2 => sp_X4_needRange p1 200 600 σ2 (fun σ12 => (vp_in p0 10) ∧ (∀ v24 : Int32, v24 = (σ12.1 8 p0.toNatClampNeg) → sp_X4_beginChange  σ12 (fun σ26 => (vp_in p0 10) ∧ (∀ σ38 : Mem, σ38 = wi σ26 8 p0.toNatClampNeg p1 → sp_X4_endChange  σ38 (fun σ40 => K v24 σ40) X)) X)) X) X) : Ws x 0 0 [(0, .ref 0), (1, .int p0), (2, .int p1)] [] σ := by
  refine r_aload_n (j := 0) C 1 dX4_setReturn_0 rfl rfl ?_
  refine r_iload_n (j := 1) C 2 dX4_setReturn_1 rfl rfl ?_
  refine r_cVV (as := [.int p0]) (S := []) C r.px 5 (ct_X4_needStation _ _ _ _ h) dX4_setReturn_2 rfl cl6 kd_0 wd_28 wd_849 rfl wd_847 wd_850 wd_90 yd_X4_needStation ⟨Nat.le_of_ble_eq_true rfl, Nat.le_of_ble_eq_true rfl⟩ (Nat.le_of_ble_eq_true rfl) (by decide) (fun σ2 h => ?_)
  refine r_iload_n (j := 2) C 6 dX4_setReturn_5 rfl rfl ?_
  refine r_sipush C 9 (v := 200) dX4_setReturn_6 rfl (by decide) ?_
  refine r_sipush C 12 (v := 600) dX4_setReturn_9 rfl (by decide) ?_
  refine r_cSV (b := 0) (as := [.int p1, .int 200, .int 600]) (S := []) C r.px 15 (ct_X4_needRange _ _ _ _ _ _ h) dX4_setReturn_12 rfl wd_869 wd_868 wd_870 wd_90 yd_X4_needRange ⟨Nat.le_of_ble_eq_true rfl, Nat.le_of_ble_eq_true rfl⟩ (Nat.le_of_ble_eq_true rfl) (by decide) (fun σ12 h => ?_)
  refine r_aload_n (j := 0) C 16 dX4_setReturn_15 rfl rfl ?_
  refine r_get (k := 0) C cl6 19 dX4_setReturn_16 rfl kd_0 (by decide) wd_358 (.ref 1) (fun _ => rfl) ?_
  refine r_get (k := 7) C cl2 22 dX4_setReturn_19 rfl kd_1 (by decide) wd_156 (.ref 8) (fun _ => rfl) ?_
  refine r_iload_n (j := 1) C 23 dX4_setReturn_22 rfl rfl ?_
  obtain ⟨o23, h⟩ := h
  refine r_iald C 24 dX4_setReturn_23 rfl kd_8 o23 ?_
  refine r_nmI (fun v24 e24 => ?_)
  have h := h v24 e24
  refine r_istore_n C 25 [(3, .int v24), (0, .ref 0), (1, .int p0), (2, .int p1)] dX4_setReturn_24 rfl (by decide) rfl ?_
  refine r_aload_n (j := 1) C 26 dX4_setReturn_25 rfl rfl ?_
  refine r_cVV (as := []) (S := []) C r.px 29 (ct_X4_beginChange  _ _ _ h) dX4_setReturn_26 rfl cl6 kd_0 wd_24 wd_718 rfl wd_716 wd_719 wd_90 yd_X4_beginChange ⟨Nat.le_of_ble_eq_true rfl, Nat.le_of_ble_eq_true rfl⟩ (Nat.le_of_ble_eq_true rfl) (by decide) (fun σ26 h => ?_)
  refine r_aload_n (j := 1) C 30 dX4_setReturn_29 rfl rfl ?_
  refine r_get (k := 0) C cl6 33 dX4_setReturn_30 rfl kd_0 (by decide) wd_358 (.ref 1) (fun _ => rfl) ?_
  refine r_get (k := 7) C cl2 36 dX4_setReturn_33 rfl kd_1 (by decide) wd_156 (.ref 8) (fun _ => rfl) ?_
  refine r_iload_n (j := 2) C 37 dX4_setReturn_36 rfl rfl ?_
  refine r_iload_n (j := 3) C 38 dX4_setReturn_37 rfl rfl ?_
  obtain ⟨o38, h⟩ := h
  refine r_iast C 39 dX4_setReturn_38 rfl kd_8 o38 ?_
  refine r_nmS (fun σ38 e38 => ?_)
  have h := h σ38 e38
  refine r_aload_n (j := 1) C 40 dX4_setReturn_39 rfl rfl ?_
  refine r_cVV (as := []) (S := []) C r.px 43 (ct_X4_endChange  _ _ _ h) dX4_setReturn_40 rfl cl6 kd_0 wd_25 wd_722 rfl wd_720 wd_723 wd_90 yd_X4_endChange ⟨Nat.le_of_ble_eq_true rfl, Nat.le_of_ble_eq_true rfl⟩ (Nat.le_of_ble_eq_true rfl) (by decide) (fun σ40 h => ?_)
  refine r_iload_n (j := 0) C 44 dX4_setReturn_43 rfl rfl ?_
  exact r_iret (S := []) C r dX4_setReturn_44 (by decide) rfl h
theorem ct_X4_setReturn (p0 : Int32) (p1 : Int32) (σ : Mem) (K : Int32 → Mem → Prop) (X : String → Mem → Prop) (h : sp_X4_setReturn p0 p1 σ K X) : CtI yX4_setReturn cX4_setReturn 4 (some .int) 9 2 [.ref 0, .int p0, .int p1] σ K X := by
  have h := h
  exact ctI_of (by decide +kernel) (Nat.le_of_ble_eq_true rfl) (fun x C r => sg_X4_setReturn_0 C r p0 p1  σ h)
