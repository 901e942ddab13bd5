theorem cw_setSetting (p0 p1 : Int32) (σ : Mem) (K : Int32 → Mem → Prop) (h : sp_X4_setSetting p0 p1 σ (fun r1 τ => K 0 (wl τ 233 0 r1.toInt64)) (fun E τ => (E = "java/lang/IndexOutOfBoundsException" ∧ K 1 τ) ∨ (E = "java/lang/IllegalArgumentException" ∧ K 2 τ))) : CtW yL_setSetting cL_setSetting 5 [((0 : Nat), (10 : Nat), (13 : Nat), (13 : Nat)), ((0 : Nat), (10 : Nat), (17 : Nat), (15 : Nat))] 9 1 [.ref 0, .int p0, .int p1, .ref 233] σ K := by
  refine ctW_of (by decide) (Nat.le_of_ble_eq_true rfl) (fun x C r => ?_)
  have C : Cx x RL cL_setSetting 5 := C
  show Ws x 0 0 [(0, .ref 0), (1, .int p0), (2, .int p1), (3, .ref 233)] [] σ
  refine r_aload_n C 1 (j := 3) dL_setSetting_0 rfl rfl ?_
  refine r_iconst C 2 (v := 0) dL_setSetting_1 rfl (by decide) ?_
  refine r_aload_n C 3 (j := 0) dL_setSetting_2 rfl rfl ?_
  refine r_iload_n C 4 (j := 1) dL_setSetting_3 rfl rfl ?_
  refine r_iload_n C 5 (j := 2) dL_setSetting_4 rfl rfl ?_
  refine r_wVI (as := [.int p0, .int p1]) (S := [.int 0, .ref 233]) C r 8 (ct_X4_setSetting _ _ _ _ _ h) dL_setSetting_5 rfl cl6 kd_0 wq_678 wq_677 rfl wq_676 wq_679 wd_90 yd_X4_setSetting ⟨Nat.le_of_ble_eq_true rfl, Nat.le_of_ble_eq_true rfl⟩ (Nat.le_of_ble_eq_true rfl) (by decide) (fun r1 τ h => ?_) (fun E τ h => ?_)
  · refine r_i2l C 9 dL_setSetting_8 rfl ?_
    refine r_last C 10 dL_setSetting_9 rfl kd_233 (by unfold vp_in; decide) ?_
    refine r_goto C 21 dL_setSetting_10 (by decide) ?_
    refine r_iconst C 22 (v := 0) dL_setSetting_21 rfl (by decide) ?_
    exact r_iretW C r dL_setSetting_22 (by decide) h
  · rcases h with ⟨rfl, h⟩ | ⟨rfl, h⟩
    · refine ⟨[], ⟨0, 10, 13, 13⟩, [⟨0, 10, 17, 15⟩], 4, 15, rfl, (fun z hz => nomatch hz), by decide, by decide, wq_595, nbc_689, (Or.inl ⟨dL_setSetting_13, rfl⟩), by decide, (by intro q hq; simp only [List.mem_cons, List.not_mem_nil, or_false] at hq; rcases hq with rfl | rfl | rfl | rfl <;> exact ⟨Nat.le_of_ble_eq_true rfl, rfl⟩), ?_⟩
      refine r_iconst C 16 (v := 1) dL_setSetting_15 rfl (by decide) ?_
      exact r_iretW C r dL_setSetting_16 (by decide) h
    · refine ⟨[⟨0, 10, 13, 13⟩], ⟨0, 10, 17, 15⟩, [], 4, 19, rfl, (fun z hz => by rcases List.mem_singleton.mp hz with rfl; exact ⟨by decide, "java/lang/IndexOutOfBoundsException", wq_595, by decide⟩), by decide, by decide, wq_675, nbc_702, (Or.inl ⟨dL_setSetting_17, rfl⟩), by decide, (by intro q hq; simp only [List.mem_cons, List.not_mem_nil, or_false] at hq; rcases hq with rfl | rfl | rfl | rfl <;> exact ⟨Nat.le_of_ble_eq_true rfl, rfl⟩), ?_⟩
      refine r_iconst C 20 (v := 2) dL_setSetting_19 rfl (by decide) ?_
      exact r_iretW C r dL_setSetting_20 (by decide) h
theorem cw_setting (p0 : Int32) (σ : Mem) (K : Int32 → Mem → Prop) (h : sp_X4_setting p0 σ (fun r1 τ => K 0 (wl τ 233 0 r1.toInt64)) (fun E τ => E = "java/lang/IndexOutOfBoundsException" ∧ K 1 τ)) : CtW yL_setting cL_setting 4 [((0 : Nat), (9 : Nat), (12 : Nat), (13 : Nat))] 9 1 [.ref 0, .int p0, .ref 233] σ K := by
  refine ctW_of (by decide) (Nat.le_of_ble_eq_true rfl) (fun x C r => ?_)
  have C : Cx x RL cL_setting 4 := C
  show Ws x 0 0 [(0, .ref 0), (1, .int p0), (2, .ref 233)] [] σ
  refine r_aload_n C 1 (j := 2) dL_setting_0 rfl rfl ?_
  refine r_iconst C 2 (v := 0) dL_setting_1 rfl (by decide) ?_
  refine r_aload_n C 3 (j := 0) dL_setting_2 rfl rfl ?_
  refine r_iload_n C 4 (j := 1) dL_setting_3 rfl rfl ?_
  refine r_wVI (as := [.int p0]) (S := [.int 0, .ref 233]) C r 7 (ct_X4_setting _ _ _ _ h) dL_setting_4 rfl cl6 kd_0 wq_730 wq_729 rfl wq_728 wq_731 wd_90 yd_X4_setting ⟨Nat.le_of_ble_eq_true rfl, Nat.le_of_ble_eq_true rfl⟩ (Nat.le_of_ble_eq_true rfl) (by decide) (fun r1 τ h => ?_) (fun E τ h => ?_)
  · refine r_i2l C 8 dL_setting_7 rfl ?_
    refine r_last C 9 dL_setting_8 rfl kd_233 (by unfold vp_in; decide) ?_
    refine r_goto C 15 dL_setting_9 (by decide) ?_
    refine r_iconst C 16 (v := 0) dL_setting_15 rfl (by decide) ?_
    exact r_iretW C r dL_setting_16 (by decide) h
  · obtain ⟨rfl, h⟩ := h
    refine ⟨[], ⟨0, 9, 12, 13⟩, [], 3, 13, rfl, (fun z hz => nomatch hz), by decide, by decide, wq_595, nbc_689, (Or.inr ⟨_, dL_setting_12, rfl, rfl⟩), by decide, (by intro q hq; simp only [List.mem_cons, List.not_mem_nil, or_false] at hq; rcases hq with rfl | rfl | rfl <;> exact ⟨Nat.le_of_ble_eq_true rfl, rfl⟩), ?_⟩
    refine r_iconst C 14 (v := 1) dL_setting_13 rfl (by decide) ?_
    exact r_iretW C r dL_setting_14 (by decide) h
theorem cw_addPipe (p0 p1 p2 p3 : Int32) (σ : Mem) (K : Int32 → Mem → Prop) (h : sp_X4_addPipe p0 p1 p2 p3 σ (fun r1 τ => K 0 (wl τ 233 0 r1.toInt64)) (fun E τ => E = "java/lang/UnsupportedOperationException" ∧ K 1 τ)) : CtW yL_addPipe cL_addPipe 7 [((0 : Nat), (14 : Nat), (17 : Nat), (25 : Nat))] 10 1 [.ref 0, .int p0, .int p1, .int p2, .int p3, .ref 233] σ K := by
  refine ctW_of (by decide) (Nat.le_of_ble_eq_true rfl) (fun x C r => ?_)
  have C : Cx x RL cL_addPipe 7 := C
  show Ws x 0 0 [(0, .ref 0), (1, .int p0), (2, .int p1), (3, .int p2), (4, .int p3), (5, .ref 233)] [] σ
  refine r_aload C 2 (j := 5) dL_addPipe_0 rfl rfl ?_
  refine r_iconst C 3 (v := 0) dL_addPipe_2 rfl (by decide) ?_
  refine r_aload_n C 4 (j := 0) dL_addPipe_3 rfl rfl ?_
  refine r_iload_n C 5 (j := 1) dL_addPipe_4 rfl rfl ?_
  refine r_iload_n C 6 (j := 2) dL_addPipe_5 rfl rfl ?_
  refine r_iload_n C 7 (j := 3) dL_addPipe_6 rfl rfl ?_
  refine r_iload C 9 (j := 4) dL_addPipe_7 rfl rfl ?_
  refine r_wVI (as := [.int p0, .int p1, .int p2, .int p3]) (S := [.int 0, .ref 233]) C r 12 (ct_X4_addPipe _ _ _ _ _ _ _ h) dL_addPipe_9 rfl cl6 kd_0 wq_738 wq_737 rfl wq_736 wq_739 wd_90 yd_X4_addPipe ⟨Nat.le_of_ble_eq_true rfl, Nat.le_of_ble_eq_true rfl⟩ (Nat.le_of_ble_eq_true rfl) (by decide) (fun r1 τ h => ?_) (fun E τ h => ?_)
  · refine r_i2l C 13 dL_addPipe_12 rfl ?_
    refine r_last C 14 dL_addPipe_13 rfl kd_233 (by unfold vp_in; decide) ?_
    refine r_goto C 21 dL_addPipe_14 (by decide) ?_
    refine r_iconst C 22 (v := 0) dL_addPipe_21 rfl (by decide) ?_
    exact r_iretW C r dL_addPipe_22 (by decide) h
  · obtain ⟨rfl, h⟩ := h
    refine ⟨[], ⟨0, 14, 17, 25⟩, [], 6, 19, rfl, (fun z hz => nomatch hz), by decide, by decide, wq_735, nbc_770, (Or.inl ⟨dL_addPipe_17, rfl⟩), by decide, (by intro q hq; simp only [List.mem_cons, List.not_mem_nil, or_false] at hq; rcases hq with rfl | rfl | rfl | rfl | rfl | rfl <;> exact ⟨Nat.le_of_ble_eq_true rfl, rfl⟩), ?_⟩
    refine r_iconst C 20 (v := 1) dL_addPipe_19 rfl (by decide) ?_
    exact r_iretW C r dL_addPipe_20 (by decide) h
theorem cw_removePipe (p0 : Int32) (σ : Mem) (K : Int32 → Mem → Prop) (h : sp_X4_removePipe p0 σ (fun r1 τ => K 0 (wl τ 233 0 r1.toInt64)) (fun E τ => E = "java/lang/IndexOutOfBoundsException" ∧ K 1 τ)) : CtW yL_removePipe cL_removePipe 4 [((0 : Nat), (9 : Nat), (12 : Nat), (13 : Nat))] 10 1 [.ref 0, .int p0, .ref 233] σ K := by
  refine ctW_of (by decide) (Nat.le_of_ble_eq_true rfl) (fun x C r => ?_)
  have C : Cx x RL cL_removePipe 4 := C
  show Ws x 0 0 [(0, .ref 0), (1, .int p0), (2, .ref 233)] [] σ
  refine r_aload_n C 1 (j := 2) dL_removePipe_0 rfl rfl ?_
  refine r_iconst C 2 (v := 0) dL_removePipe_1 rfl (by decide) ?_
  refine r_aload_n C 3 (j := 0) dL_removePipe_2 rfl rfl ?_
  refine r_iload_n C 4 (j := 1) dL_removePipe_3 rfl rfl ?_
  refine r_wVI (as := [.int p0]) (S := [.int 0, .ref 233]) C r 7 (ct_X4_removePipe _ _ _ _ h) dL_removePipe_4 rfl cl6 kd_0 wq_793 wq_792 rfl wq_791 wq_794 wd_90 yd_X4_removePipe ⟨Nat.le_of_ble_eq_true rfl, Nat.le_of_ble_eq_true rfl⟩ (Nat.le_of_ble_eq_true rfl) (by decide) (fun r1 τ h => ?_) (fun E τ h => ?_)
  · refine r_i2l C 8 dL_removePipe_7 rfl ?_
    refine r_last C 9 dL_removePipe_8 rfl kd_233 (by unfold vp_in; decide) ?_
    refine r_goto C 15 dL_removePipe_9 (by decide) ?_
    refine r_iconst C 16 (v := 0) dL_removePipe_15 rfl (by decide) ?_
    exact r_iretW C r dL_removePipe_16 (by decide) h
  · obtain ⟨rfl, h⟩ := h
    refine ⟨[], ⟨0, 9, 12, 13⟩, [], 3, 13, rfl, (fun z hz => nomatch hz), by decide, by decide, wq_595, nbc_689, (Or.inr ⟨_, dL_removePipe_12, rfl, rfl⟩), by decide, (by intro q hq; simp only [List.mem_cons, List.not_mem_nil, or_false] at hq; rcases hq with rfl | rfl | rfl <;> exact ⟨Nat.le_of_ble_eq_true rfl, rfl⟩), ?_⟩
    refine r_iconst C 14 (v := 1) dL_removePipe_13 rfl (by decide) ?_
    exact r_iretW C r dL_removePipe_14 (by decide) h
theorem cw_addStation (p0 p1 p2 p3 : Int32) (σ : Mem) (K : Int32 → Mem → Prop) (h : sp_X4_addStation p0 p1 p2 p3 σ (fun r1 τ => K 0 (wl τ 233 0 r1.toInt64)) (fun E τ => E = "java/lang/UnsupportedOperationException" ∧ K 1 τ)) : CtW yL_addStation cL_addStation 7 [((0 : Nat), (14 : Nat), (17 : Nat), (25 : Nat))] 10 1 [.ref 0, .int p0, .int p1, .int p2, .int p3, .ref 233] σ K := by
  refine ctW_of (by decide) (Nat.le_of_ble_eq_true rfl) (fun x C r => ?_)
  have C : Cx x RL cL_addStation 7 := C
  show Ws x 0 0 [(0, .ref 0), (1, .int p0), (2, .int p1), (3, .int p2), (4, .int p3), (5, .ref 233)] [] σ
  refine r_aload C 2 (j := 5) dL_addStation_0 rfl rfl ?_
  refine r_iconst C 3 (v := 0) dL_addStation_2 rfl (by decide) ?_
  refine r_aload_n C 4 (j := 0) dL_addStation_3 rfl rfl ?_
  refine r_iload_n C 5 (j := 1) dL_addStation_4 rfl rfl ?_
  refine r_iload_n C 6 (j := 2) dL_addStation_5 rfl rfl ?_
  refine r_iload_n C 7 (j := 3) dL_addStation_6 rfl rfl ?_
  refine r_iload C 9 (j := 4) dL_addStation_7 rfl rfl ?_
  refine r_wVI (as := [.int p0, .int p1, .int p2, .int p3]) (S := [.int 0, .ref 233]) C r 12 (ct_X4_addStation _ _ _ _ _ _ _ h) dL_addStation_9 rfl cl6 kd_0 wq_809 wq_808 rfl wq_807 wq_810 wd_90 yd_X4_addStation ⟨Nat.le_of_ble_eq_true rfl, Nat.le_of_ble_eq_true rfl⟩ (Nat.le_of_ble_eq_true rfl) (by decide) (fun r1 τ h => ?_) (fun E τ h => ?_)
  · refine r_i2l C 13 dL_addStation_12 rfl ?_
    refine r_last C 14 dL_addStation_13 rfl kd_233 (by unfold vp_in; decide) ?_
    refine r_goto C 21 dL_addStation_14 (by decide) ?_
    refine r_iconst C 22 (v := 0) dL_addStation_21 rfl (by decide) ?_
    exact r_iretW C r dL_addStation_22 (by decide) h
  · obtain ⟨rfl, h⟩ := h
    refine ⟨[], ⟨0, 14, 17, 25⟩, [], 6, 19, rfl, (fun z hz => nomatch hz), by decide, by decide, wq_735, nbc_770, (Or.inl ⟨dL_addStation_17, rfl⟩), by decide, (by intro q hq; simp only [List.mem_cons, List.not_mem_nil, or_false] at hq; rcases hq with rfl | rfl | rfl | rfl | rfl | rfl <;> exact ⟨Nat.le_of_ble_eq_true rfl, rfl⟩), ?_⟩
    refine r_iconst C 20 (v := 1) dL_addStation_19 rfl (by decide) ?_
    exact r_iretW C r dL_addStation_20 (by decide) h
theorem cw_removeStation (p0 : Int32) (σ : Mem) (K : Int32 → Mem → Prop) (h : sp_X4_removeStation p0 σ (fun r1 τ => K 0 (wl τ 233 0 r1.toInt64)) (fun E τ => E = "java/lang/UnsupportedOperationException" ∧ K 1 τ)) : CtW yL_removeStation cL_removeStation 4 [((0 : Nat), (9 : Nat), (12 : Nat), (25 : Nat))] 10 1 [.ref 0, .int p0, .ref 233] σ K := by
  refine ctW_of (by decide) (Nat.le_of_ble_eq_true rfl) (fun x C r => ?_)
  have C : Cx x RL cL_removeStation 4 := C
  show Ws x 0 0 [(0, .ref 0), (1, .int p0), (2, .ref 233)] [] σ
  refine r_aload_n C 1 (j := 2) dL_removeStation_0 rfl rfl ?_
  refine r_iconst C 2 (v := 0) dL_removeStation_1 rfl (by decide) ?_
  refine r_aload_n C 3 (j := 0) dL_removeStation_2 rfl rfl ?_
  refine r_iload_n C 4 (j := 1) dL_removeStation_3 rfl rfl ?_
  refine r_wVI (as := [.int p0]) (S := [.int 0, .ref 233]) C r 7 (ct_X4_removeStation _ _ _ _ h) dL_removeStation_4 rfl cl6 kd_0 wq_829 wq_828 rfl wq_827 wq_830 wd_90 yd_X4_removeStation ⟨Nat.le_of_ble_eq_true rfl, Nat.le_of_ble_eq_true rfl⟩ (Nat.le_of_ble_eq_true rfl) (by decide) (fun r1 τ h => ?_) (fun E τ h => ?_)
  · refine r_i2l C 8 dL_removeStation_7 rfl ?_
    refine r_last C 9 dL_removeStation_8 rfl kd_233 (by unfold vp_in; decide) ?_
    refine r_goto C 15 dL_removeStation_9 (by decide) ?_
    refine r_iconst C 16 (v := 0) dL_removeStation_15 rfl (by decide) ?_
    exact r_iretW C r dL_removeStation_16 (by decide) h
  · obtain ⟨rfl, h⟩ := h
    refine ⟨[], ⟨0, 9, 12, 25⟩, [], 3, 13, rfl, (fun z hz => nomatch hz), by decide, by decide, wq_735, nbc_770, (Or.inr ⟨_, dL_removeStation_12, rfl, rfl⟩), by decide, (by intro q hq; simp only [List.mem_cons, List.not_mem_nil, or_false] at hq; rcases hq with rfl | rfl | rfl <;> exact ⟨Nat.le_of_ble_eq_true rfl, rfl⟩), ?_⟩
    refine r_iconst C 14 (v := 1) dL_removeStation_13 rfl (by decide) ?_
    exact r_iretW C r dL_removeStation_14 (by decide) h
theorem cw_setReturn (p0 p1 : Int32) (σ : Mem) (K : Int32 → Mem → Prop) (h : sp_X4_setReturn p0 p1 σ (fun r1 τ => K 0 (wl τ 233 0 r1.toInt64)) (fun E τ => (E = "java/util/NoSuchElementException" ∧ K 1 τ) ∨ (E = "java/lang/IllegalArgumentException" ∧ K 2 τ))) : CtW yL_setReturn cL_setReturn 5 [((0 : Nat), (10 : Nat), (13 : Nat), (39 : Nat)), ((0 : Nat), (10 : Nat), (17 : Nat), (15 : Nat))] 10 2 [.ref 0, .int p0, .int p1, .ref 233] σ K := by
  refine ctW_of (by decide) (Nat.le_of_ble_eq_true rfl) (fun x C r => ?_)
  have C : Cx x RL cL_setReturn 5 := C
  show Ws x 0 0 [(0, .ref 0), (1, .int p0), (2, .int p1), (3, .ref 233)] [] σ
  refine r_aload_n C 1 (j := 3) dL_setReturn_0 rfl rfl ?_
  refine r_iconst C 2 (v := 0) dL_setReturn_1 rfl (by decide) ?_
  refine r_aload_n C 3 (j := 0) dL_setReturn_2 rfl rfl ?_
  refine r_iload_n C 4 (j := 1) dL_setReturn_3 rfl rfl ?_
  refine r_iload_n C 5 (j := 2) dL_setReturn_4 rfl rfl ?_
  refine r_wVI (as := [.int p0, .int p1]) (S := [.int 0, .ref 233]) C r 8 (ct_X4_setReturn _ _ _ _ _ h) dL_setReturn_5 rfl cl6 kd_0 wq_845 wq_844 rfl wq_843 wq_846 wd_90 yd_X4_setReturn ⟨Nat.le_of_ble_eq_true rfl, Nat.le_of_ble_eq_true rfl⟩ (Nat.le_of_ble_eq_true rfl) (by decide) (fun r1 τ h => ?_) (fun E τ h => ?_)
  · refine r_i2l C 9 dL_setReturn_8 rfl ?_
    refine r_last C 10 dL_setReturn_9 rfl kd_233 (by unfold vp_in; decide) ?_
    refine r_goto C 21 dL_setReturn_10 (by decide) ?_
    refine r_iconst C 22 (v := 0) dL_setReturn_21 rfl (by decide) ?_
    exact r_iretW C r dL_setReturn_22 (by decide) h
  · rcases h with ⟨rfl, h⟩ | ⟨rfl, h⟩
    · refine ⟨[], ⟨0, 10, 13, 39⟩, [⟨0, 10, 17, 15⟩], 4, 15, rfl, (fun z hz => nomatch hz), by decide, by decide, wq_842, nbc_854, (Or.inl ⟨dL_setReturn_13, rfl⟩), by decide, (by intro q hq; simp only [List.mem_cons, List.not_mem_nil, or_false] at hq; rcases hq with rfl | rfl | rfl | rfl <;> exact ⟨Nat.le_of_ble_eq_true rfl, rfl⟩), ?_⟩
      refine r_iconst C 16 (v := 1) dL_setReturn_15 rfl (by decide) ?_
      exact r_iretW C r dL_setReturn_16 (by decide) h
    · refine ⟨[⟨0, 10, 13, 39⟩], ⟨0, 10, 17, 15⟩, [], 4, 19, rfl, (fun z hz => by rcases List.mem_singleton.mp hz with rfl; exact ⟨by decide, "java/util/NoSuchElementException", wq_842, by decide⟩), by decide, by decide, wq_675, nbc_702, (Or.inl ⟨dL_setReturn_17, rfl⟩), by decide, (by intro q hq; simp only [List.mem_cons, List.not_mem_nil, or_false] at hq; rcases hq with rfl | rfl | rfl | rfl <;> exact ⟨Nat.le_of_ble_eq_true rfl, rfl⟩), ?_⟩
      refine r_iconst C 20 (v := 2) dL_setReturn_19 rfl (by decide) ?_
      exact r_iretW C r dL_setReturn_20 (by decide) h
theorem cw_setMeter (p0 p1 p2 : Int32) (σ : Mem) (K : Int32 → Mem → Prop) (h : sp_X4_setMeter p0 p1 p2 σ (fun r1 τ => K 0 (wl τ 233 0 r1.toInt64)) (fun E τ => (E = "java/util/NoSuchElementException" ∧ K 1 τ) ∨ (E = "java/lang/IllegalArgumentException" ∧ K 2 τ))) : CtW yL_setMeter cL_setMeter 6 [((0 : Nat), (12 : Nat), (15 : Nat), (39 : Nat)), ((0 : Nat), (12 : Nat), (19 : Nat), (15 : Nat))] 10 3 [.ref 0, .int p0, .int p1, .int p2, .ref 233] σ K := by
  refine ctW_of (by decide) (Nat.le_of_ble_eq_true rfl) (fun x C r => ?_)
  have C : Cx x RL cL_setMeter 6 := C
  show Ws x 0 0 [(0, .ref 0), (1, .int p0), (2, .int p1), (3, .int p2), (4, .ref 233)] [] σ
  refine r_aload C 2 (j := 4) dL_setMeter_0 rfl rfl ?_
  refine r_iconst C 3 (v := 0) dL_setMeter_2 rfl (by decide) ?_
  refine r_aload_n C 4 (j := 0) dL_setMeter_3 rfl rfl ?_
  refine r_iload_n C 5 (j := 1) dL_setMeter_4 rfl rfl ?_
  refine r_iload_n C 6 (j := 2) dL_setMeter_5 rfl rfl ?_
  refine r_iload_n C 7 (j := 3) dL_setMeter_6 rfl rfl ?_
  refine r_wVI (as := [.int p0, .int p1, .int p2]) (S := [.int 0, .ref 233]) C r 10 (ct_X4_setMeter _ _ _ _ _ _ h) dL_setMeter_7 rfl cl6 kd_0 wq_877 wq_876 rfl wq_875 wq_878 wd_90 yd_X4_setMeter ⟨Nat.le_of_ble_eq_true rfl, Nat.le_of_ble_eq_true rfl⟩ (Nat.le_of_ble_eq_true rfl) (by decide) (fun r1 τ h => ?_) (fun E τ h => ?_)
  · refine r_i2l C 11 dL_setMeter_10 rfl ?_
    refine r_last C 12 dL_setMeter_11 rfl kd_233 (by unfold vp_in; decide) ?_
    refine r_goto C 23 dL_setMeter_12 (by decide) ?_
    refine r_iconst C 24 (v := 0) dL_setMeter_23 rfl (by decide) ?_
    exact r_iretW C r dL_setMeter_24 (by decide) h
  · rcases h with ⟨rfl, h⟩ | ⟨rfl, h⟩
    · refine ⟨[], ⟨0, 12, 15, 39⟩, [⟨0, 12, 19, 15⟩], 5, 17, rfl, (fun z hz => nomatch hz), by decide, by decide, wq_842, nbc_854, (Or.inl ⟨dL_setMeter_15, rfl⟩), by decide, (by intro q hq; simp only [List.mem_cons, List.not_mem_nil, or_false] at hq; rcases hq with rfl | rfl | rfl | rfl | rfl <;> exact ⟨Nat.le_of_ble_eq_true rfl, rfl⟩), ?_⟩
      refine r_iconst C 18 (v := 1) dL_setMeter_17 rfl (by decide) ?_
      exact r_iretW C r dL_setMeter_18 (by decide) h
    · refine ⟨[⟨0, 12, 15, 39⟩], ⟨0, 12, 19, 15⟩, [], 5, 21, rfl, (fun z hz => by rcases List.mem_singleton.mp hz with rfl; exact ⟨by decide, "java/util/NoSuchElementException", wq_842, by decide⟩), by decide, by decide, wq_675, nbc_702, (Or.inl ⟨dL_setMeter_19, rfl⟩), by decide, (by intro q hq; simp only [List.mem_cons, List.not_mem_nil, or_false] at hq; rcases hq with rfl | rfl | rfl | rfl | rfl <;> exact ⟨Nat.le_of_ble_eq_true rfl, rfl⟩), ?_⟩
      refine r_iconst C 22 (v := 2) dL_setMeter_21 rfl (by decide) ?_
      exact r_iretW C r dL_setMeter_22 (by decide) h
theorem cw_hours (p0 : Int32) (σ : Mem) (K : Int32 → Mem → Prop) (h : sp_X4_hours p0 σ (fun r1 τ => K 0 (wl τ 233 0 r1)) (fun E τ => (E = "java/lang/IllegalArgumentException" ∧ K 1 τ) ∨ (E = "java/lang/UnsupportedOperationException" ∧ K 2 τ))) : CtW yL_hours cL_hours 4 [((0 : Nat), (8 : Nat), (11 : Nat), (15 : Nat)), ((0 : Nat), (8 : Nat), (14 : Nat), (25 : Nat))] 10 2 [.ref 0, .int p0, .ref 233] σ K := by
  refine ctW_of (by decide) (Nat.le_of_ble_eq_true rfl) (fun x C r => ?_)
  have C : Cx x RL cL_hours 4 := C
  show Ws x 0 0 [(0, .ref 0), (1, .int p0), (2, .ref 233)] [] σ
  refine r_aload_n C 1 (j := 2) dL_hours_0 rfl rfl ?_
  refine r_iconst C 2 (v := 0) dL_hours_1 rfl (by decide) ?_
  refine r_aload_n C 3 (j := 0) dL_hours_2 rfl rfl ?_
  refine r_iload_n C 4 (j := 1) dL_hours_3 rfl rfl ?_
  refine r_wVL (as := [.int p0]) (S := [.int 0, .ref 233]) C r 7 (ct_X4_hours _ _ _ _ h) dL_hours_4 rfl cl6 kd_0 wq_884 wq_883 rfl wq_882 wq_885 wd_90 yd_X4_hours ⟨Nat.le_of_ble_eq_true rfl, Nat.le_of_ble_eq_true rfl⟩ (Nat.le_of_ble_eq_true rfl) (by decide) (fun r1 τ h => ?_) (fun E τ h => ?_)
  · refine r_last C 8 dL_hours_7 rfl kd_233 (by unfold vp_in; decide) ?_
    refine r_goto C 17 dL_hours_8 (by decide) ?_
    refine r_iconst C 18 (v := 0) dL_hours_17 rfl (by decide) ?_
    exact r_iretW C r dL_hours_18 (by decide) h
  · rcases h with ⟨rfl, h⟩ | ⟨rfl, h⟩
    · refine ⟨[], ⟨0, 8, 11, 15⟩, [⟨0, 8, 14, 25⟩], 3, 12, rfl, (fun z hz => nomatch hz), by decide, by decide, wq_675, nbc_702, (Or.inr ⟨_, dL_hours_11, rfl, rfl⟩), by decide, (by intro q hq; simp only [List.mem_cons, List.not_mem_nil, or_false] at hq; rcases hq with rfl | rfl | rfl <;> exact ⟨Nat.le_of_ble_eq_true rfl, rfl⟩), ?_⟩
      refine r_iconst C 13 (v := 1) dL_hours_12 rfl (by decide) ?_
      exact r_iretW C r dL_hours_13 (by decide) h
    · refine ⟨[⟨0, 8, 11, 15⟩], ⟨0, 8, 14, 25⟩, [], 3, 15, rfl, (fun z hz => by rcases List.mem_singleton.mp hz with rfl; exact ⟨by decide, "java/lang/IllegalArgumentException", wq_675, by decide⟩), by decide, by decide, wq_735, nbc_770, (Or.inr ⟨_, dL_hours_14, rfl, rfl⟩), by decide, (by intro q hq; simp only [List.mem_cons, List.not_mem_nil, or_false] at hq; rcases hq with rfl | rfl | rfl <;> exact ⟨Nat.le_of_ble_eq_true rfl, rfl⟩), ?_⟩
      refine r_iconst C 16 (v := 2) dL_hours_15 rfl (by decide) ?_
      exact r_iretW C r dL_hours_16 (by decide) h
theorem cw_append (p0 : Int32) (σ : Mem) (K : Int32 → Mem → Prop) (h : sp_X4_append p0 σ (fun r1 τ => K 0 (wl τ 233 0 r1.toInt64)) (fun E τ => (E = "java/lang/IllegalArgumentException" ∧ K 1 τ) ∨ (E = "java/lang/IllegalStateException" ∧ K 2 τ))) : CtW yL_append cL_append 4 [((0 : Nat), (9 : Nat), (12 : Nat), (15 : Nat)), ((0 : Nat), (9 : Nat), (15 : Nat), (52 : Nat))] 10 2 [.ref 0, .int p0, .ref 233] σ K := by
  refine ctW_of (by decide) (Nat.le_of_ble_eq_true rfl) (fun x C r => ?_)
  have C : Cx x RL cL_append 4 := C
  show Ws x 0 0 [(0, .ref 0), (1, .int p0), (2, .ref 233)] [] σ
  refine r_aload_n C 1 (j := 2) dL_append_0 rfl rfl ?_
  refine r_iconst C 2 (v := 0) dL_append_1 rfl (by decide) ?_
  refine r_aload_n C 3 (j := 0) dL_append_2 rfl rfl ?_
  refine r_iload_n C 4 (j := 1) dL_append_3 rfl rfl ?_
  refine r_wVI (as := [.int p0]) (S := [.int 0, .ref 233]) C r 7 (ct_X4_append _ _ _ _ h) dL_append_4 rfl cl6 kd_0 wq_932 wq_931 rfl wq_930 wq_933 wd_90 yd_X4_append ⟨Nat.le_of_ble_eq_true rfl, Nat.le_of_ble_eq_true rfl⟩ (Nat.le_of_ble_eq_true rfl) (by decide) (fun r1 τ h => ?_) (fun E τ h => ?_)
  · refine r_i2l C 8 dL_append_7 rfl ?_
    refine r_last C 9 dL_append_8 rfl kd_233 (by unfold vp_in; decide) ?_
    refine r_goto C 18 dL_append_9 (by decide) ?_
    refine r_iconst C 19 (v := 0) dL_append_18 rfl (by decide) ?_
    exact r_iretW C r dL_append_19 (by decide) h
  · rcases h with ⟨rfl, h⟩ | ⟨rfl, h⟩
    · refine ⟨[], ⟨0, 9, 12, 15⟩, [⟨0, 9, 15, 52⟩], 3, 13, rfl, (fun z hz => nomatch hz), by decide, by decide, wq_675, nbc_702, (Or.inr ⟨_, dL_append_12, rfl, rfl⟩), by decide, (by intro q hq; simp only [List.mem_cons, List.not_mem_nil, or_false] at hq; rcases hq with rfl | rfl | rfl <;> exact ⟨Nat.le_of_ble_eq_true rfl, rfl⟩), ?_⟩
      refine r_iconst C 14 (v := 1) dL_append_13 rfl (by decide) ?_
      exact r_iretW C r dL_append_14 (by decide) h
    · refine ⟨[⟨0, 9, 12, 15⟩], ⟨0, 9, 15, 52⟩, [], 3, 16, rfl, (fun z hz => by rcases List.mem_singleton.mp hz with rfl; exact ⟨by decide, "java/lang/IllegalArgumentException", wq_675, by decide⟩), by decide, by decide, wq_929, nbc_936, (Or.inr ⟨_, dL_append_15, rfl, rfl⟩), by decide, (by intro q hq; simp only [List.mem_cons, List.not_mem_nil, or_false] at hq; rcases hq with rfl | rfl | rfl <;> exact ⟨Nat.le_of_ble_eq_true rfl, rfl⟩), ?_⟩
      refine r_iconst C 17 (v := 2) dL_append_16 rfl (by decide) ?_
      exact r_iretW C r dL_append_17 (by decide) h
theorem cw_run (σ : Mem) (K : Int32 → Mem → Prop) (h : sp_X4_run  σ (fun r1 τ => K 0 (wl τ 233 0 r1.toInt64)) (fun E τ => (E = "java/lang/IllegalArgumentException" ∧ K 1 τ) ∨ (E = "java/lang/UnsupportedOperationException" ∧ K 2 τ))) : CtW yL_run cL_run 3 [((0 : Nat), (8 : Nat), (11 : Nat), (15 : Nat)), ((0 : Nat), (8 : Nat), (14 : Nat), (25 : Nat))] 10 1 [.ref 0, .ref 233] σ K := by
  refine ctW_of (by decide) (by decide) (fun x C r => ?_)
  have C : Cx x RL cL_run 3 := C
  show Ws x 0 0 [(0, .ref 0), (1, .ref 233)] [] σ
  refine r_aload_n C 1 (j := 1) dL_run_0 rfl rfl ?_
  refine r_iconst C 2 (v := 0) dL_run_1 rfl (by decide) ?_
  refine r_aload_n C 3 (j := 0) dL_run_2 rfl rfl ?_
  refine r_wVI (as := []) (S := [.int 0, .ref 233]) C r 6 (ct_X4_run  _ _ _ h) dL_run_3 rfl cl6 kd_0 wq_955 wq_954 rfl wq_953 wq_956 wd_90 yd_X4_run ⟨Nat.le_of_ble_eq_true rfl, Nat.le_of_ble_eq_true rfl⟩ (Nat.le_of_ble_eq_true rfl) (by decide) (fun r1 τ h => ?_) (fun E τ h => ?_)
  · refine r_i2l C 7 dL_run_6 rfl ?_
    refine r_last C 8 dL_run_7 rfl kd_233 (by unfold vp_in; decide) ?_
    refine r_goto C 17 dL_run_8 (by decide) ?_
    refine r_iconst C 18 (v := 0) dL_run_17 rfl (by decide) ?_
    exact r_iretW C r dL_run_18 (by decide) h
  · rcases h with ⟨rfl, h⟩ | ⟨rfl, h⟩
    · refine ⟨[], ⟨0, 8, 11, 15⟩, [⟨0, 8, 14, 25⟩], 2, 12, rfl, (fun z hz => nomatch hz), by decide, by decide, wq_675, nbc_702, (Or.inr ⟨_, dL_run_11, rfl, rfl⟩), by decide, (by intro q hq; simp only [List.mem_cons, List.not_mem_nil, or_false] at hq; rcases hq with rfl | rfl <;> exact ⟨Nat.le_of_ble_eq_true rfl, rfl⟩), ?_⟩
      refine r_iconst C 13 (v := 1) dL_run_12 rfl (by decide) ?_
      exact r_iretW C r dL_run_13 (by decide) h
    · refine ⟨[⟨0, 8, 11, 15⟩], ⟨0, 8, 14, 25⟩, [], 2, 15, rfl, (fun z hz => by rcases List.mem_singleton.mp hz with rfl; exact ⟨by decide, "java/lang/IllegalArgumentException", wq_675, by decide⟩), by decide, by decide, wq_735, nbc_770, (Or.inr ⟨_, dL_run_14, rfl, rfl⟩), by decide, (by intro q hq; simp only [List.mem_cons, List.not_mem_nil, or_false] at hq; rcases hq with rfl | rfl <;> exact ⟨Nat.le_of_ble_eq_true rfl, rfl⟩), ?_⟩
      refine r_iconst C 16 (v := 2) dL_run_15 rfl (by decide) ?_
      exact r_iretW C r dL_run_16 (by decide) h
theorem cw_refusal (σ : Mem) (K : Int32 → Mem → Prop) (h : sp_X4_refusal  σ (fun r1 τ => K 0 (wl τ 233 0 r1.toInt64)) (fun E τ => E = "java/util/NoSuchElementException" ∧ K 1 τ)) : CtW yL_refusal cL_refusal 3 [((0 : Nat), (8 : Nat), (11 : Nat), (39 : Nat))] 9 1 [.ref 0, .ref 233] σ K := by
  refine ctW_of (by decide) (by decide) (fun x C r => ?_)
  have C : Cx x RL cL_refusal 3 := C
  show Ws x 0 0 [(0, .ref 0), (1, .ref 233)] [] σ
  refine r_aload_n C 1 (j := 1) dL_refusal_0 rfl rfl ?_
  refine r_iconst C 2 (v := 0) dL_refusal_1 rfl (by decide) ?_
  refine r_aload_n C 3 (j := 0) dL_refusal_2 rfl rfl ?_
  refine r_wVI (as := []) (S := [.int 0, .ref 233]) C r 6 (ct_X4_refusal  _ _ _ h) dL_refusal_3 rfl cl6 kd_0 wq_1001 wq_1000 rfl wq_999 wq_1002 wd_90 yd_X4_refusal ⟨Nat.le_of_ble_eq_true rfl, Nat.le_of_ble_eq_true rfl⟩ (Nat.le_of_ble_eq_true rfl) (by decide) (fun r1 τ h => ?_) (fun E τ h => ?_)
  · refine r_i2l C 7 dL_refusal_6 rfl ?_
    refine r_last C 8 dL_refusal_7 rfl kd_233 (by unfold vp_in; decide) ?_
    refine r_goto C 14 dL_refusal_8 (by decide) ?_
    refine r_iconst C 15 (v := 0) dL_refusal_14 rfl (by decide) ?_
    exact r_iretW C r dL_refusal_15 (by decide) h
  · obtain ⟨rfl, h⟩ := h
    refine ⟨[], ⟨0, 8, 11, 39⟩, [], 2, 12, rfl, (fun z hz => nomatch hz), by decide, by decide, wq_842, nbc_854, (Or.inr ⟨_, dL_refusal_11, rfl, rfl⟩), by decide, (by intro q hq; simp only [List.mem_cons, List.not_mem_nil, or_false] at hq; rcases hq with rfl | rfl <;> exact ⟨Nat.le_of_ble_eq_true rfl, rfl⟩), ?_⟩
    refine r_iconst C 13 (v := 1) dL_refusal_12 rfl (by decide) ?_
    exact r_iretW C r dL_refusal_13 (by decide) h
theorem cw_pipe (p0 p1 : Int32) (σ : Mem) (K : Int32 → Mem → Prop) (h : sp_X4_pipe p0 p1 σ (fun r1 τ => K 0 (wl τ 233 0 r1.toInt64)) (fun E τ => (E = "java/lang/IndexOutOfBoundsException" ∧ K 1 τ) ∨ (E = "java/lang/IllegalArgumentException" ∧ K 2 τ))) : CtW yL_pipe cL_pipe 5 [((0 : Nat), (10 : Nat), (13 : Nat), (13 : Nat)), ((0 : Nat), (10 : Nat), (17 : Nat), (15 : Nat))] 10 2 [.ref 0, .int p0, .int p1, .ref 233] σ K := by
  refine ctW_of (by decide) (Nat.le_of_ble_eq_true rfl) (fun x C r => ?_)
  have C : Cx x RL cL_pipe 5 := C
  show Ws x 0 0 [(0, .ref 0), (1, .int p0), (2, .int p1), (3, .ref 233)] [] σ
  refine r_aload_n C 1 (j := 3) dL_pipe_0 rfl rfl ?_
  refine r_iconst C 2 (v := 0) dL_pipe_1 rfl (by decide) ?_
  refine r_aload_n C 3 (j := 0) dL_pipe_2 rfl rfl ?_
  refine r_iload_n C 4 (j := 1) dL_pipe_3 rfl rfl ?_
  refine r_iload_n C 5 (j := 2) dL_pipe_4 rfl rfl ?_
  refine r_wVI (as := [.int p0, .int p1]) (S := [.int 0, .ref 233]) C r 8 (ct_X4_pipe _ _ _ _ _ h) dL_pipe_5 rfl cl6 kd_0 wq_1009 wq_1008 rfl wq_1007 wq_1010 wd_90 yd_X4_pipe ⟨Nat.le_of_ble_eq_true rfl, Nat.le_of_ble_eq_true rfl⟩ (Nat.le_of_ble_eq_true rfl) (by decide) (fun r1 τ h => ?_) (fun E τ h => ?_)
  · refine r_i2l C 9 dL_pipe_8 rfl ?_
    refine r_last C 10 dL_pipe_9 rfl kd_233 (by unfold vp_in; decide) ?_
    refine r_goto C 21 dL_pipe_10 (by decide) ?_
    refine r_iconst C 22 (v := 0) dL_pipe_21 rfl (by decide) ?_
    exact r_iretW C r dL_pipe_22 (by decide) h
  · rcases h with ⟨rfl, h⟩ | ⟨rfl, h⟩
    · refine ⟨[], ⟨0, 10, 13, 13⟩, [⟨0, 10, 17, 15⟩], 4, 15, rfl, (fun z hz => nomatch hz), by decide, by decide, wq_595, nbc_689, (Or.inl ⟨dL_pipe_13, rfl⟩), by decide, (by intro q hq; simp only [List.mem_cons, List.not_mem_nil, or_false] at hq; rcases hq with rfl | rfl | rfl | rfl <;> exact ⟨Nat.le_of_ble_eq_true rfl, rfl⟩), ?_⟩
      refine r_iconst C 16 (v := 1) dL_pipe_15 rfl (by decide) ?_
      exact r_iretW C r dL_pipe_16 (by decide) h
    · refine ⟨[⟨0, 10, 13, 13⟩], ⟨0, 10, 17, 15⟩, [], 4, 19, rfl, (fun z hz => by rcases List.mem_singleton.mp hz with rfl; exact ⟨by decide, "java/lang/IndexOutOfBoundsException", wq_595, by decide⟩), by decide, by decide, wq_675, nbc_702, (Or.inl ⟨dL_pipe_17, rfl⟩), by decide, (by intro q hq; simp only [List.mem_cons, List.not_mem_nil, or_false] at hq; rcases hq with rfl | rfl | rfl | rfl <;> exact ⟨Nat.le_of_ble_eq_true rfl, rfl⟩), ?_⟩
      refine r_iconst C 20 (v := 2) dL_pipe_19 rfl (by decide) ?_
      exact r_iretW C r dL_pipe_20 (by decide) h
theorem cw_station (p0 p1 : Int32) (σ : Mem) (K : Int32 → Mem → Prop) (h : sp_X4_station p0 p1 σ (fun r1 τ => K 0 (wl τ 233 0 r1.toInt64)) (fun E τ => (E = "java/util/NoSuchElementException" ∧ K 1 τ) ∨ (E = "java/lang/IllegalArgumentException" ∧ K 2 τ))) : CtW yL_station cL_station 5 [((0 : Nat), (10 : Nat), (13 : Nat), (39 : Nat)), ((0 : Nat), (10 : Nat), (17 : Nat), (15 : Nat))] 10 2 [.ref 0, .int p0, .int p1, .ref 233] σ K := by
  refine ctW_of (by decide) (Nat.le_of_ble_eq_true rfl) (fun x C r => ?_)
  have C : Cx x RL cL_station 5 := C
  show Ws x 0 0 [(0, .ref 0), (1, .int p0), (2, .int p1), (3, .ref 233)] [] σ
  refine r_aload_n C 1 (j := 3) dL_station_0 rfl rfl ?_
  refine r_iconst C 2 (v := 0) dL_station_1 rfl (by decide) ?_
  refine r_aload_n C 3 (j := 0) dL_station_2 rfl rfl ?_
  refine r_iload_n C 4 (j := 1) dL_station_3 rfl rfl ?_
  refine r_iload_n C 5 (j := 2) dL_station_4 rfl rfl ?_
  refine r_wVI (as := [.int p0, .int p1]) (S := [.int 0, .ref 233]) C r 8 (ct_X4_station _ _ _ _ _ h) dL_station_5 rfl cl6 kd_0 wq_1016 wq_1015 rfl wq_1014 wq_1017 wd_90 yd_X4_station ⟨Nat.le_of_ble_eq_true rfl, Nat.le_of_ble_eq_true rfl⟩ (Nat.le_of_ble_eq_true rfl) (by decide) (fun r1 τ h => ?_) (fun E τ h => ?_)
  · refine r_i2l C 9 dL_station_8 rfl ?_
    refine r_last C 10 dL_station_9 rfl kd_233 (by unfold vp_in; decide) ?_
    refine r_goto C 21 dL_station_10 (by decide) ?_
    refine r_iconst C 22 (v := 0) dL_station_21 rfl (by decide) ?_
    exact r_iretW C r dL_station_22 (by decide) h
  · rcases h with ⟨rfl, h⟩ | ⟨rfl, h⟩
    · refine ⟨[], ⟨0, 10, 13, 39⟩, [⟨0, 10, 17, 15⟩], 4, 15, rfl, (fun z hz => nomatch hz), by decide, by decide, wq_842, nbc_854, (Or.inl ⟨dL_station_13, rfl⟩), by decide, (by intro q hq; simp only [List.mem_cons, List.not_mem_nil, or_false] at hq; rcases hq with rfl | rfl | rfl | rfl <;> exact ⟨Nat.le_of_ble_eq_true rfl, rfl⟩), ?_⟩
      refine r_iconst C 16 (v := 1) dL_station_15 rfl (by decide) ?_
      exact r_iretW C r dL_station_16 (by decide) h
    · refine ⟨[⟨0, 10, 13, 39⟩], ⟨0, 10, 17, 15⟩, [], 4, 19, rfl, (fun z hz => by rcases List.mem_singleton.mp hz with rfl; exact ⟨by decide, "java/util/NoSuchElementException", wq_842, by decide⟩), by decide, by decide, wq_675, nbc_702, (Or.inl ⟨dL_station_17, rfl⟩), by decide, (by intro q hq; simp only [List.mem_cons, List.not_mem_nil, or_false] at hq; rcases hq with rfl | rfl | rfl | rfl <;> exact ⟨Nat.le_of_ble_eq_true rfl, rfl⟩), ?_⟩
      refine r_iconst C 20 (v := 2) dL_station_19 rfl (by decide) ?_
      exact r_iretW C r dL_station_20 (by decide) h
theorem cw_meter (p0 p1 : Int32) (σ : Mem) (K : Int32 → Mem → Prop) (h : sp_X4_meter p0 p1 σ (fun r1 τ => K 0 (wl τ 233 0 r1)) (fun E τ => (E = "java/util/NoSuchElementException" ∧ K 1 τ) ∨ (E = "java/lang/IllegalArgumentException" ∧ K 2 τ))) : CtW yL_meter cL_meter 5 [((0 : Nat), (9 : Nat), (12 : Nat), (39 : Nat)), ((0 : Nat), (9 : Nat), (16 : Nat), (15 : Nat))] 10 2 [.ref 0, .int p0, .int p1, .ref 233] σ K := by
  refine ctW_of (by decide) (Nat.le_of_ble_eq_true rfl) (fun x C r => ?_)
  have C : Cx x RL cL_meter 5 := C
  show Ws x 0 0 [(0, .ref 0), (1, .int p0), (2, .int p1), (3, .ref 233)] [] σ
  refine r_aload_n C 1 (j := 3) dL_meter_0 rfl rfl ?_
  refine r_iconst C 2 (v := 0) dL_meter_1 rfl (by decide) ?_
  refine r_aload_n C 3 (j := 0) dL_meter_2 rfl rfl ?_
  refine r_iload_n C 4 (j := 1) dL_meter_3 rfl rfl ?_
  refine r_iload_n C 5 (j := 2) dL_meter_4 rfl rfl ?_
  refine r_wVL (as := [.int p0, .int p1]) (S := [.int 0, .ref 233]) C r 8 (ct_X4_meter _ _ _ _ _ h) dL_meter_5 rfl cl6 kd_0 wq_1025 wq_1024 rfl wq_1023 wq_1026 wd_90 yd_X4_meter ⟨Nat.le_of_ble_eq_true rfl, Nat.le_of_ble_eq_true rfl⟩ (Nat.le_of_ble_eq_true rfl) (by decide) (fun r1 τ h => ?_) (fun E τ h => ?_)
  · refine r_last C 9 dL_meter_8 rfl kd_233 (by unfold vp_in; decide) ?_
    refine r_goto C 20 dL_meter_9 (by decide) ?_
    refine r_iconst C 21 (v := 0) dL_meter_20 rfl (by decide) ?_
    exact r_iretW C r dL_meter_21 (by decide) h
  · rcases h with ⟨rfl, h⟩ | ⟨rfl, h⟩
    · refine ⟨[], ⟨0, 9, 12, 39⟩, [⟨0, 9, 16, 15⟩], 4, 14, rfl, (fun z hz => nomatch hz), by decide, by decide, wq_842, nbc_854, (Or.inl ⟨dL_meter_12, rfl⟩), by decide, (by intro q hq; simp only [List.mem_cons, List.not_mem_nil, or_false] at hq; rcases hq with rfl | rfl | rfl | rfl <;> exact ⟨Nat.le_of_ble_eq_true rfl, rfl⟩), ?_⟩
      refine r_iconst C 15 (v := 1) dL_meter_14 rfl (by decide) ?_
      exact r_iretW C r dL_meter_15 (by decide) h
    · refine ⟨[⟨0, 9, 12, 39⟩], ⟨0, 9, 16, 15⟩, [], 4, 18, rfl, (fun z hz => by rcases List.mem_singleton.mp hz with rfl; exact ⟨by decide, "java/util/NoSuchElementException", wq_842, by decide⟩), by decide, by decide, wq_675, nbc_702, (Or.inl ⟨dL_meter_16, rfl⟩), by decide, (by intro q hq; simp only [List.mem_cons, List.not_mem_nil, or_false] at hq; rcases hq with rfl | rfl | rfl | rfl <;> exact ⟨Nat.le_of_ble_eq_true rfl, rfl⟩), ?_⟩
      refine r_iconst C 19 (v := 2) dL_meter_18 rfl (by decide) ?_
      exact r_iretW C r dL_meter_19 (by decide) h
theorem cw_flow (p0 : Int32) (σ : Mem) (K : Int32 → Mem → Prop) (h : sp_X4_flow p0 σ (fun r1 τ => K 0 (wl τ 233 0 r1.toInt64)) (fun E τ => E = "java/lang/IndexOutOfBoundsException" ∧ K 1 τ)) : CtW yL_flow cL_flow 4 [((0 : Nat), (9 : Nat), (12 : Nat), (13 : Nat))] 10 1 [.ref 0, .int p0, .ref 233] σ K := by
  refine ctW_of (by decide) (Nat.le_of_ble_eq_true rfl) (fun x C r => ?_)
  have C : Cx x RL cL_flow 4 := C
  show Ws x 0 0 [(0, .ref 0), (1, .int p0), (2, .ref 233)] [] σ
  refine r_aload_n C 1 (j := 2) dL_flow_0 rfl rfl ?_
  refine r_iconst C 2 (v := 0) dL_flow_1 rfl (by decide) ?_
  refine r_aload_n C 3 (j := 0) dL_flow_2 rfl rfl ?_
  refine r_iload_n C 4 (j := 1) dL_flow_3 rfl rfl ?_
  refine r_wVI (as := [.int p0]) (S := [.int 0, .ref 233]) C r 7 (ct_X4_flow _ _ _ _ h) dL_flow_4 rfl cl6 kd_0 wq_1032 wq_1031 rfl wq_1030 wq_1033 wd_90 yd_X4_flow ⟨Nat.le_of_ble_eq_true rfl, Nat.le_of_ble_eq_true rfl⟩ (Nat.le_of_ble_eq_true rfl) (by decide) (fun r1 τ h => ?_) (fun E τ h => ?_)
  · refine r_i2l C 8 dL_flow_7 rfl ?_
    refine r_last C 9 dL_flow_8 rfl kd_233 (by unfold vp_in; decide) ?_
    refine r_goto C 15 dL_flow_9 (by decide) ?_
    refine r_iconst C 16 (v := 0) dL_flow_15 rfl (by decide) ?_
    exact r_iretW C r dL_flow_16 (by decide) h
  · obtain ⟨rfl, h⟩ := h
    refine ⟨[], ⟨0, 9, 12, 13⟩, [], 3, 13, rfl, (fun z hz => nomatch hz), by decide, by decide, wq_595, nbc_689, (Or.inr ⟨_, dL_flow_12, rfl, rfl⟩), by decide, (by intro q hq; simp only [List.mem_cons, List.not_mem_nil, or_false] at hq; rcases hq with rfl | rfl | rfl <;> exact ⟨Nat.le_of_ble_eq_true rfl, rfl⟩), ?_⟩
    refine r_iconst C 14 (v := 1) dL_flow_13 rfl (by decide) ?_
    exact r_iretW C r dL_flow_14 (by decide) h
theorem cw_direction (p0 : Int32) (σ : Mem) (K : Int32 → Mem → Prop) (h : sp_X4_direction p0 σ (fun r1 τ => K 0 (wl τ 233 0 r1.toInt64)) (fun E τ => E = "java/lang/IndexOutOfBoundsException" ∧ K 1 τ)) : CtW yL_direction cL_direction 4 [((0 : Nat), (9 : Nat), (12 : Nat), (13 : Nat))] 10 1 [.ref 0, .int p0, .ref 233] σ K := by
  refine ctW_of (by decide) (Nat.le_of_ble_eq_true rfl) (fun x C r => ?_)
  have C : Cx x RL cL_direction 4 := C
  show Ws x 0 0 [(0, .ref 0), (1, .int p0), (2, .ref 233)] [] σ
  refine r_aload_n C 1 (j := 2) dL_direction_0 rfl rfl ?_
  refine r_iconst C 2 (v := 0) dL_direction_1 rfl (by decide) ?_
  refine r_aload_n C 3 (j := 0) dL_direction_2 rfl rfl ?_
  refine r_iload_n C 4 (j := 1) dL_direction_3 rfl rfl ?_
  refine r_wVI (as := [.int p0]) (S := [.int 0, .ref 233]) C r 7 (ct_X4_direction _ _ _ _ h) dL_direction_4 rfl cl6 kd_0 wq_1039 wq_1038 rfl wq_1037 wq_1040 wd_90 yd_X4_direction ⟨Nat.le_of_ble_eq_true rfl, Nat.le_of_ble_eq_true rfl⟩ (Nat.le_of_ble_eq_true rfl) (by decide) (fun r1 τ h => ?_) (fun E τ h => ?_)
  · refine r_i2l C 8 dL_direction_7 rfl ?_
    refine r_last C 9 dL_direction_8 rfl kd_233 (by unfold vp_in; decide) ?_
    refine r_goto C 15 dL_direction_9 (by decide) ?_
    refine r_iconst C 16 (v := 0) dL_direction_15 rfl (by decide) ?_
    exact r_iretW C r dL_direction_16 (by decide) h
  · obtain ⟨rfl, h⟩ := h
    refine ⟨[], ⟨0, 9, 12, 13⟩, [], 3, 13, rfl, (fun z hz => nomatch hz), by decide, by decide, wq_595, nbc_689, (Or.inr ⟨_, dL_direction_12, rfl, rfl⟩), by decide, (by intro q hq; simp only [List.mem_cons, List.not_mem_nil, or_false] at hq; rcases hq with rfl | rfl | rfl <;> exact ⟨Nat.le_of_ble_eq_true rfl, rfl⟩), ?_⟩
    refine r_iconst C 14 (v := 1) dL_direction_13 rfl (by decide) ?_
    exact r_iretW C r dL_direction_14 (by decide) h
theorem cw_temperature (p0 p1 : Int32) (σ : Mem) (K : Int32 → Mem → Prop) (h : sp_X4_temperature p0 p1 σ (fun r1 τ => K 0 (wl τ 233 0 r1.toInt64)) (fun E τ => E = "java/lang/IndexOutOfBoundsException" ∧ K 1 τ)) : CtW yL_temperature cL_temperature 5 [((0 : Nat), (10 : Nat), (13 : Nat), (13 : Nat))] 10 1 [.ref 0, .int p0, .int p1, .ref 233] σ K := by
  refine ctW_of (by decide) (Nat.le_of_ble_eq_true rfl) (fun x C r => ?_)
  have C : Cx x RL cL_temperature 5 := C
  show Ws x 0 0 [(0, .ref 0), (1, .int p0), (2, .int p1), (3, .ref 233)] [] σ
  refine r_aload_n C 1 (j := 3) dL_temperature_0 rfl rfl ?_
  refine r_iconst C 2 (v := 0) dL_temperature_1 rfl (by decide) ?_
  refine r_aload_n C 3 (j := 0) dL_temperature_2 rfl rfl ?_
  refine r_iload_n C 4 (j := 1) dL_temperature_3 rfl rfl ?_
  refine r_iload_n C 5 (j := 2) dL_temperature_4 rfl rfl ?_
  refine r_wVI (as := [.int p0, .int p1]) (S := [.int 0, .ref 233]) C r 8 (ct_X4_temperature _ _ _ _ _ h) dL_temperature_5 rfl cl6 kd_0 wq_1046 wq_1045 rfl wq_1044 wq_1047 wd_90 yd_X4_temperature ⟨Nat.le_of_ble_eq_true rfl, Nat.le_of_ble_eq_true rfl⟩ (Nat.le_of_ble_eq_true rfl) (by decide) (fun r1 τ h => ?_) (fun E τ h => ?_)
  · refine r_i2l C 9 dL_temperature_8 rfl ?_
    refine r_last C 10 dL_temperature_9 rfl kd_233 (by unfold vp_in; decide) ?_
    refine r_goto C 17 dL_temperature_10 (by decide) ?_
    refine r_iconst C 18 (v := 0) dL_temperature_17 rfl (by decide) ?_
    exact r_iretW C r dL_temperature_18 (by decide) h
  · obtain ⟨rfl, h⟩ := h
    refine ⟨[], ⟨0, 10, 13, 13⟩, [], 4, 15, rfl, (fun z hz => nomatch hz), by decide, by decide, wq_595, nbc_689, (Or.inl ⟨dL_temperature_13, rfl⟩), by decide, (by intro q hq; simp only [List.mem_cons, List.not_mem_nil, or_false] at hq; rcases hq with rfl | rfl | rfl | rfl <;> exact ⟨Nat.le_of_ble_eq_true rfl, rfl⟩), ?_⟩
    refine r_iconst C 16 (v := 1) dL_temperature_15 rfl (by decide) ?_
    exact r_iretW C r dL_temperature_16 (by decide) h
theorem cw_loss (p0 : Int32) (σ : Mem) (K : Int32 → Mem → Prop) (h : sp_X4_loss p0 σ (fun r1 τ => K 0 (wl τ 233 0 r1)) (fun E τ => E = "java/lang/IndexOutOfBoundsException" ∧ K 1 τ)) : CtW yL_loss cL_loss 4 [((0 : Nat), (8 : Nat), (11 : Nat), (13 : Nat))] 10 1 [.ref 0, .int p0, .ref 233] σ K := by
  refine ctW_of (by decide) (Nat.le_of_ble_eq_true rfl) (fun x C r => ?_)
  have C : Cx x RL cL_loss 4 := C
  show Ws x 0 0 [(0, .ref 0), (1, .int p0), (2, .ref 233)] [] σ
  refine r_aload_n C 1 (j := 2) dL_loss_0 rfl rfl ?_
  refine r_iconst C 2 (v := 0) dL_loss_1 rfl (by decide) ?_
  refine r_aload_n C 3 (j := 0) dL_loss_2 rfl rfl ?_
  refine r_iload_n C 4 (j := 1) dL_loss_3 rfl rfl ?_
  refine r_wVL (as := [.int p0]) (S := [.int 0, .ref 233]) C r 7 (ct_X4_loss _ _ _ _ h) dL_loss_4 rfl cl6 kd_0 wq_1058 wq_1057 rfl wq_1056 wq_1059 wd_90 yd_X4_loss ⟨Nat.le_of_ble_eq_true rfl, Nat.le_of_ble_eq_true rfl⟩ (Nat.le_of_ble_eq_true rfl) (by decide) (fun r1 τ h => ?_) (fun E τ h => ?_)
  · refine r_last C 8 dL_loss_7 rfl kd_233 (by unfold vp_in; decide) ?_
    refine r_goto C 14 dL_loss_8 (by decide) ?_
    refine r_iconst C 15 (v := 0) dL_loss_14 rfl (by decide) ?_
    exact r_iretW C r dL_loss_15 (by decide) h
  · obtain ⟨rfl, h⟩ := h
    refine ⟨[], ⟨0, 8, 11, 13⟩, [], 3, 12, rfl, (fun z hz => nomatch hz), by decide, by decide, wq_595, nbc_689, (Or.inr ⟨_, dL_loss_11, rfl, rfl⟩), by decide, (by intro q hq; simp only [List.mem_cons, List.not_mem_nil, or_false] at hq; rcases hq with rfl | rfl | rfl <;> exact ⟨Nat.le_of_ble_eq_true rfl, rfl⟩), ?_⟩
    refine r_iconst C 13 (v := 1) dL_loss_12 rfl (by decide) ?_
    exact r_iretW C r dL_loss_13 (by decide) h
theorem cw_rounding (p0 : Int32) (σ : Mem) (K : Int32 → Mem → Prop) (h : sp_X4_rounding p0 σ (fun r1 τ => K 0 (wl τ 233 0 r1)) (fun E τ => E = "java/lang/IndexOutOfBoundsException" ∧ K 1 τ)) : CtW yL_rounding cL_rounding 4 [((0 : Nat), (8 : Nat), (11 : Nat), (13 : Nat))] 10 1 [.ref 0, .int p0, .ref 233] σ K := by
  refine ctW_of (by decide) (Nat.le_of_ble_eq_true rfl) (fun x C r => ?_)
  have C : Cx x RL cL_rounding 4 := C
  show Ws x 0 0 [(0, .ref 0), (1, .int p0), (2, .ref 233)] [] σ
  refine r_aload_n C 1 (j := 2) dL_rounding_0 rfl rfl ?_
  refine r_iconst C 2 (v := 0) dL_rounding_1 rfl (by decide) ?_
  refine r_aload_n C 3 (j := 0) dL_rounding_2 rfl rfl ?_
  refine r_iload_n C 4 (j := 1) dL_rounding_3 rfl rfl ?_
  refine r_wVL (as := [.int p0]) (S := [.int 0, .ref 233]) C r 7 (ct_X4_rounding _ _ _ _ h) dL_rounding_4 rfl cl6 kd_0 wq_1065 wq_1064 rfl wq_1063 wq_1066 wd_90 yd_X4_rounding ⟨Nat.le_of_ble_eq_true rfl, Nat.le_of_ble_eq_true rfl⟩ (Nat.le_of_ble_eq_true rfl) (by decide) (fun r1 τ h => ?_) (fun E τ h => ?_)
  · refine r_last C 8 dL_rounding_7 rfl kd_233 (by unfold vp_in; decide) ?_
    refine r_goto C 14 dL_rounding_8 (by decide) ?_
    refine r_iconst C 15 (v := 0) dL_rounding_14 rfl (by decide) ?_
    exact r_iretW C r dL_rounding_15 (by decide) h
  · obtain ⟨rfl, h⟩ := h
    refine ⟨[], ⟨0, 8, 11, 13⟩, [], 3, 12, rfl, (fun z hz => nomatch hz), by decide, by decide, wq_595, nbc_689, (Or.inr ⟨_, dL_rounding_11, rfl, rfl⟩), by decide, (by intro q hq; simp only [List.mem_cons, List.not_mem_nil, or_false] at hq; rcases hq with rfl | rfl | rfl <;> exact ⟨Nat.le_of_ble_eq_true rfl, rfl⟩), ?_⟩
    refine r_iconst C 13 (v := 1) dL_rounding_12 rfl (by decide) ?_
    exact r_iretW C r dL_rounding_13 (by decide) h
theorem cw_head (p0 : Int32) (σ : Mem) (K : Int32 → Mem → Prop) (h : sp_X4_head p0 σ (fun r1 τ => K 0 (wl τ 233 0 r1)) (fun E τ => E = "java/util/NoSuchElementException" ∧ K 1 τ)) : CtW yL_head cL_head 4 [((0 : Nat), (8 : Nat), (11 : Nat), (39 : Nat))] 10 1 [.ref 0, .int p0, .ref 233] σ K := by
  refine ctW_of (by decide) (Nat.le_of_ble_eq_true rfl) (fun x C r => ?_)
  have C : Cx x RL cL_head 4 := C
  show Ws x 0 0 [(0, .ref 0), (1, .int p0), (2, .ref 233)] [] σ
  refine r_aload_n C 1 (j := 2) dL_head_0 rfl rfl ?_
  refine r_iconst C 2 (v := 0) dL_head_1 rfl (by decide) ?_
  refine r_aload_n C 3 (j := 0) dL_head_2 rfl rfl ?_
  refine r_iload_n C 4 (j := 1) dL_head_3 rfl rfl ?_
  refine r_wVL (as := [.int p0]) (S := [.int 0, .ref 233]) C r 7 (ct_X4_head _ _ _ _ h) dL_head_4 rfl cl6 kd_0 wq_1072 wq_1071 rfl wq_1070 wq_1073 wd_90 yd_X4_head ⟨Nat.le_of_ble_eq_true rfl, Nat.le_of_ble_eq_true rfl⟩ (Nat.le_of_ble_eq_true rfl) (by decide) (fun r1 τ h => ?_) (fun E τ h => ?_)
  · refine r_last C 8 dL_head_7 rfl kd_233 (by unfold vp_in; decide) ?_
    refine r_goto C 14 dL_head_8 (by decide) ?_
    refine r_iconst C 15 (v := 0) dL_head_14 rfl (by decide) ?_
    exact r_iretW C r dL_head_15 (by decide) h
  · obtain ⟨rfl, h⟩ := h
    refine ⟨[], ⟨0, 8, 11, 39⟩, [], 3, 12, rfl, (fun z hz => nomatch hz), by decide, by decide, wq_842, nbc_854, (Or.inr ⟨_, dL_head_11, rfl, rfl⟩), by decide, (by intro q hq; simp only [List.mem_cons, List.not_mem_nil, or_false] at hq; rcases hq with rfl | rfl | rfl <;> exact ⟨Nat.le_of_ble_eq_true rfl, rfl⟩), ?_⟩
    refine r_iconst C 13 (v := 1) dL_head_12 rfl (by decide) ?_
    exact r_iretW C r dL_head_13 (by decide) h
theorem cw_imbalance (σ : Mem) (K : Int32 → Mem → Prop) (h : sp_X4_imbalance  σ (fun r1 τ => K 0 (wl τ 233 0 r1)) (fun E τ => E = "java/util/NoSuchElementException" ∧ K 1 τ)) : CtW yL_imbalance cL_imbalance 3 [((0 : Nat), (7 : Nat), (10 : Nat), (39 : Nat))] 9 1 [.ref 0, .ref 233] σ K := by
  refine ctW_of (by decide) (by decide) (fun x C r => ?_)
  have C : Cx x RL cL_imbalance 3 := C
  show Ws x 0 0 [(0, .ref 0), (1, .ref 233)] [] σ
  refine r_aload_n C 1 (j := 1) dL_imbalance_0 rfl rfl ?_
  refine r_iconst C 2 (v := 0) dL_imbalance_1 rfl (by decide) ?_
  refine r_aload_n C 3 (j := 0) dL_imbalance_2 rfl rfl ?_
  refine r_wVL (as := []) (S := [.int 0, .ref 233]) C r 6 (ct_X4_imbalance  _ _ _ h) dL_imbalance_3 rfl cl6 kd_0 wq_1084 wq_1083 rfl wq_1082 wq_1085 wd_90 yd_X4_imbalance ⟨Nat.le_of_ble_eq_true rfl, Nat.le_of_ble_eq_true rfl⟩ (Nat.le_of_ble_eq_true rfl) (by decide) (fun r1 τ h => ?_) (fun E τ h => ?_)
  · refine r_last C 7 dL_imbalance_6 rfl kd_233 (by unfold vp_in; decide) ?_
    refine r_goto C 13 dL_imbalance_7 (by decide) ?_
    refine r_iconst C 14 (v := 0) dL_imbalance_13 rfl (by decide) ?_
    exact r_iretW C r dL_imbalance_14 (by decide) h
  · obtain ⟨rfl, h⟩ := h
    refine ⟨[], ⟨0, 7, 10, 39⟩, [], 2, 11, rfl, (fun z hz => nomatch hz), by decide, by decide, wq_842, nbc_854, (Or.inr ⟨_, dL_imbalance_10, rfl, rfl⟩), by decide, (by intro q hq; simp only [List.mem_cons, List.not_mem_nil, or_false] at hq; rcases hq with rfl | rfl <;> exact ⟨Nat.le_of_ble_eq_true rfl, rfl⟩), ?_⟩
    refine r_iconst C 12 (v := 1) dL_imbalance_11 rfl (by decide) ?_
    exact r_iretW C r dL_imbalance_12 (by decide) h
theorem cw_loop (p0 : Int32) (σ : Mem) (K : Int32 → Mem → Prop) (h : sp_X4_loop p0 σ (fun r1 τ => K 0 (wl τ 233 0 r1.toInt64)) (fun E τ => E = "java/util/NoSuchElementException" ∧ K 1 τ)) : CtW yL_loop cL_loop 4 [((0 : Nat), (9 : Nat), (12 : Nat), (39 : Nat))] 9 1 [.ref 0, .int p0, .ref 233] σ K := by
  refine ctW_of (by decide) (Nat.le_of_ble_eq_true rfl) (fun x C r => ?_)
  have C : Cx x RL cL_loop 4 := C
  show Ws x 0 0 [(0, .ref 0), (1, .int p0), (2, .ref 233)] [] σ
  refine r_aload_n C 1 (j := 2) dL_loop_0 rfl rfl ?_
  refine r_iconst C 2 (v := 0) dL_loop_1 rfl (by decide) ?_
  refine r_aload_n C 3 (j := 0) dL_loop_2 rfl rfl ?_
  refine r_iload_n C 4 (j := 1) dL_loop_3 rfl rfl ?_
  refine r_wVI (as := [.int p0]) (S := [.int 0, .ref 233]) C r 7 (ct_X4_loop _ _ _ _ h) dL_loop_4 rfl cl6 kd_0 wq_1092 wq_1091 rfl wq_1090 wq_1093 wd_90 yd_X4_loop ⟨Nat.le_of_ble_eq_true rfl, Nat.le_of_ble_eq_true rfl⟩ (Nat.le_of_ble_eq_true rfl) (by decide) (fun r1 τ h => ?_) (fun E τ h => ?_)
  · refine r_i2l C 8 dL_loop_7 rfl ?_
    refine r_last C 9 dL_loop_8 rfl kd_233 (by unfold vp_in; decide) ?_
    refine r_goto C 15 dL_loop_9 (by decide) ?_
    refine r_iconst C 16 (v := 0) dL_loop_15 rfl (by decide) ?_
    exact r_iretW C r dL_loop_16 (by decide) h
  · obtain ⟨rfl, h⟩ := h
    refine ⟨[], ⟨0, 9, 12, 39⟩, [], 3, 13, rfl, (fun z hz => nomatch hz), by decide, by decide, wq_842, nbc_854, (Or.inr ⟨_, dL_loop_12, rfl, rfl⟩), by decide, (by intro q hq; simp only [List.mem_cons, List.not_mem_nil, or_false] at hq; rcases hq with rfl | rfl | rfl <;> exact ⟨Nat.le_of_ble_eq_true rfl, rfl⟩), ?_⟩
    refine r_iconst C 14 (v := 1) dL_loop_13 rfl (by decide) ?_
    exact r_iretW C r dL_loop_14 (by decide) h
theorem cw_distance (p0 : Int32) (σ : Mem) (K : Int32 → Mem → Prop) (h : sp_X4_distance p0 σ (fun r1 τ => K 0 (wl τ 233 0 r1.toInt64)) (fun E τ => E = "java/util/NoSuchElementException" ∧ K 1 τ)) : CtW yL_distance cL_distance 4 [((0 : Nat), (9 : Nat), (12 : Nat), (39 : Nat))] 10 1 [.ref 0, .int p0, .ref 233] σ K := by
  refine ctW_of (by decide) (Nat.le_of_ble_eq_true rfl) (fun x C r => ?_)
  have C : Cx x RL cL_distance 4 := C
  show Ws x 0 0 [(0, .ref 0), (1, .int p0), (2, .ref 233)] [] σ
  refine r_aload_n C 1 (j := 2) dL_distance_0 rfl rfl ?_
  refine r_iconst C 2 (v := 0) dL_distance_1 rfl (by decide) ?_
  refine r_aload_n C 3 (j := 0) dL_distance_2 rfl rfl ?_
  refine r_iload_n C 4 (j := 1) dL_distance_3 rfl rfl ?_
  refine r_wVI (as := [.int p0]) (S := [.int 0, .ref 233]) C r 7 (ct_X4_distance _ _ _ _ h) dL_distance_4 rfl cl6 kd_0 wq_1100 wq_1099 rfl wq_1098 wq_1101 wd_90 yd_X4_distance ⟨Nat.le_of_ble_eq_true rfl, Nat.le_of_ble_eq_true rfl⟩ (Nat.le_of_ble_eq_true rfl) (by decide) (fun r1 τ h => ?_) (fun E τ h => ?_)
  · refine r_i2l C 8 dL_distance_7 rfl ?_
    refine r_last C 9 dL_distance_8 rfl kd_233 (by unfold vp_in; decide) ?_
    refine r_goto C 15 dL_distance_9 (by decide) ?_
    refine r_iconst C 16 (v := 0) dL_distance_15 rfl (by decide) ?_
    exact r_iretW C r dL_distance_16 (by decide) h
  · obtain ⟨rfl, h⟩ := h
    refine ⟨[], ⟨0, 9, 12, 39⟩, [], 3, 13, rfl, (fun z hz => nomatch hz), by decide, by decide, wq_842, nbc_854, (Or.inr ⟨_, dL_distance_12, rfl, rfl⟩), by decide, (by intro q hq; simp only [List.mem_cons, List.not_mem_nil, or_false] at hq; rcases hq with rfl | rfl | rfl <;> exact ⟨Nat.le_of_ble_eq_true rfl, rfl⟩), ?_⟩
    refine r_iconst C 14 (v := 1) dL_distance_13 rfl (by decide) ?_
    exact r_iretW C r dL_distance_14 (by decide) h
theorem cw_part (p0 : Int32) (σ : Mem) (K : Int32 → Mem → Prop) (h : sp_X4_part p0 σ (fun r1 τ => K 0 (wl τ 233 0 r1.toInt64)) (fun E τ => E = "java/lang/IndexOutOfBoundsException" ∧ K 1 τ)) : CtW yL_part cL_part 4 [((0 : Nat), (9 : Nat), (12 : Nat), (13 : Nat))] 10 1 [.ref 0, .int p0, .ref 233] σ K := by
  refine ctW_of (by decide) (Nat.le_of_ble_eq_true rfl) (fun x C r => ?_)
  have C : Cx x RL cL_part 4 := C
  show Ws x 0 0 [(0, .ref 0), (1, .int p0), (2, .ref 233)] [] σ
  refine r_aload_n C 1 (j := 2) dL_part_0 rfl rfl ?_
  refine r_iconst C 2 (v := 0) dL_part_1 rfl (by decide) ?_
  refine r_aload_n C 3 (j := 0) dL_part_2 rfl rfl ?_
  refine r_iload_n C 4 (j := 1) dL_part_3 rfl rfl ?_
  refine r_wVI (as := [.int p0]) (S := [.int 0, .ref 233]) C r 7 (ct_X4_part _ _ _ _ h) dL_part_4 rfl cl6 kd_0 wq_1107 wq_1106 rfl wq_1105 wq_1108 wd_90 yd_X4_part ⟨Nat.le_of_ble_eq_true rfl, Nat.le_of_ble_eq_true rfl⟩ (Nat.le_of_ble_eq_true rfl) (by decide) (fun r1 τ h => ?_) (fun E τ h => ?_)
  · refine r_i2l C 8 dL_part_7 rfl ?_
    refine r_last C 9 dL_part_8 rfl kd_233 (by unfold vp_in; decide) ?_
    refine r_goto C 15 dL_part_9 (by decide) ?_
    refine r_iconst C 16 (v := 0) dL_part_15 rfl (by decide) ?_
    exact r_iretW C r dL_part_16 (by decide) h
  · obtain ⟨rfl, h⟩ := h
    refine ⟨[], ⟨0, 9, 12, 13⟩, [], 3, 13, rfl, (fun z hz => nomatch hz), by decide, by decide, wq_595, nbc_689, (Or.inr ⟨_, dL_part_12, rfl, rfl⟩), by decide, (by intro q hq; simp only [List.mem_cons, List.not_mem_nil, or_false] at hq; rcases hq with rfl | rfl | rfl <;> exact ⟨Nat.le_of_ble_eq_true rfl, rfl⟩), ?_⟩
    refine r_iconst C 14 (v := 1) dL_part_13 rfl (by decide) ?_
    exact r_iretW C r dL_part_14 (by decide) h
theorem cw_isConnected (p0 : Int32) (σ : Mem) (K : Int32 → Mem → Prop) (h : sp_X4_isConnected p0 σ (fun r1 τ => (r1 = 0 → K 0 (wl τ 233 0 0)) ∧ (¬ r1 = 0 → K 0 (wl τ 233 0 1))) (fun E τ => E = "java/lang/IndexOutOfBoundsException" ∧ K 1 τ)) : CtW yL_isConnected cL_isConnected 4 [((0 : Nat), (16 : Nat), (19 : Nat), (13 : Nat))] 10 1 [.ref 0, .int p0, .ref 233] σ K := by
  refine ctW_of (by decide) (Nat.le_of_ble_eq_true rfl) (fun x C r => ?_)
  have C : Cx x RL cL_isConnected 4 := C
  show Ws x 0 0 [(0, .ref 0), (1, .int p0), (2, .ref 233)] [] σ
  refine r_aload_n C 1 (j := 2) dL_isConnected_0 rfl rfl ?_
  refine r_iconst C 2 (v := 0) dL_isConnected_1 rfl (by decide) ?_
  refine r_aload_n C 3 (j := 0) dL_isConnected_2 rfl rfl ?_
  refine r_iload_n C 4 (j := 1) dL_isConnected_3 rfl rfl ?_
  refine r_wVI (as := [.int p0]) (S := [.int 0, .ref 233]) C r 7 (ct_X4_isConnected _ _ _ _ h) dL_isConnected_4 rfl cl6 kd_0 wq_1115 wq_1114 rfl wq_1113 wq_1116 wd_90 yd_X4_isConnected ⟨Nat.le_of_ble_eq_true rfl, Nat.le_of_ble_eq_true rfl⟩ (Nat.le_of_ble_eq_true rfl) (by decide) (fun r1 τ h => ?_) (fun E τ h => ?_)
  · refine r_if_eq C 14 10 dL_isConnected_7 (by decide) rfl (fun h0 => ?_) (fun h0 => ?_)
    · have h := h.1 h0
      refine r_lconst C 15 (v := 0) dL_isConnected_14 rfl (by decide) ?_
      refine r_last C 16 dL_isConnected_15 rfl kd_233 (by unfold vp_in; decide) ?_
      refine r_goto C 22 dL_isConnected_16 (by decide) ?_
      refine r_iconst C 23 (v := 0) dL_isConnected_22 rfl (by decide) ?_
      exact r_iretW C r dL_isConnected_23 (by decide) h
    · have h := h.2 h0
      refine r_lconst C 11 (v := 1) dL_isConnected_10 rfl (by decide) ?_
      refine r_goto C 15 dL_isConnected_11 (by decide) ?_
      refine r_last C 16 dL_isConnected_15 rfl kd_233 (by unfold vp_in; decide) ?_
      refine r_goto C 22 dL_isConnected_16 (by decide) ?_
      refine r_iconst C 23 (v := 0) dL_isConnected_22 rfl (by decide) ?_
      exact r_iretW C r dL_isConnected_23 (by decide) h
  · obtain ⟨rfl, h⟩ := h
    refine ⟨[], ⟨0, 16, 19, 13⟩, [], 3, 20, rfl, (fun z hz => nomatch hz), by decide, by decide, wq_595, nbc_689, (Or.inr ⟨_, dL_isConnected_19, rfl, rfl⟩), by decide, (by intro q hq; simp only [List.mem_cons, List.not_mem_nil, or_false] at hq; rcases hq with rfl | rfl | rfl <;> exact ⟨Nat.le_of_ble_eq_true rfl, rfl⟩), ?_⟩
    refine r_iconst C 21 (v := 1) dL_isConnected_20 rfl (by decide) ?_
    exact r_iretW C r dL_isConnected_21 (by decide) h
theorem cw_suspect (σ : Mem) (K : Int32 → Mem → Prop) (h : sp_X4_suspect  σ (fun r1 τ => K 0 (wl τ 233 0 r1.toInt64)) (fun E τ => E = "java/util/NoSuchElementException" ∧ K 1 τ)) : CtW yL_suspect cL_suspect 3 [((0 : Nat), (8 : Nat), (11 : Nat), (39 : Nat))] 9 1 [.ref 0, .ref 233] σ K := by
  refine ctW_of (by decide) (by decide) (fun x C r => ?_)
  have C : Cx x RL cL_suspect 3 := C
  show Ws x 0 0 [(0, .ref 0), (1, .ref 233)] [] σ
  refine r_aload_n C 1 (j := 1) dL_suspect_0 rfl rfl ?_
  refine r_iconst C 2 (v := 0) dL_suspect_1 rfl (by decide) ?_
  refine r_aload_n C 3 (j := 0) dL_suspect_2 rfl rfl ?_
  refine r_wVI (as := []) (S := [.int 0, .ref 233]) C r 6 (ct_X4_suspect  _ _ _ h) dL_suspect_3 rfl cl6 kd_0 wq_1122 wq_1121 rfl wq_1120 wq_1123 wd_90 yd_X4_suspect ⟨Nat.le_of_ble_eq_true rfl, Nat.le_of_ble_eq_true rfl⟩ (Nat.le_of_ble_eq_true rfl) (by decide) (fun r1 τ h => ?_) (fun E τ h => ?_)
  · refine r_i2l C 7 dL_suspect_6 rfl ?_
    refine r_last C 8 dL_suspect_7 rfl kd_233 (by unfold vp_in; decide) ?_
    refine r_goto C 14 dL_suspect_8 (by decide) ?_
    refine r_iconst C 15 (v := 0) dL_suspect_14 rfl (by decide) ?_
    exact r_iretW C r dL_suspect_15 (by decide) h
  · obtain ⟨rfl, h⟩ := h
    refine ⟨[], ⟨0, 8, 11, 39⟩, [], 2, 12, rfl, (fun z hz => nomatch hz), by decide, by decide, wq_842, nbc_854, (Or.inr ⟨_, dL_suspect_11, rfl, rfl⟩), by decide, (by intro q hq; simp only [List.mem_cons, List.not_mem_nil, or_false] at hq; rcases hq with rfl | rfl <;> exact ⟨Nat.le_of_ble_eq_true rfl, rfl⟩), ?_⟩
    refine r_iconst C 13 (v := 1) dL_suspect_12 rfl (by decide) ?_
    exact r_iretW C r dL_suspect_13 (by decide) h
theorem cw_trial (p0 p1 : Int32) (σ : Mem) (K : Int32 → Mem → Prop) (h : sp_X4_trial p0 p1 σ (fun r1 τ => K 0 (wl τ 233 0 r1)) (fun E τ => (E = "java/util/NoSuchElementException" ∧ K 1 τ) ∨ (E = "java/lang/IllegalArgumentException" ∧ K 2 τ))) : CtW yL_trial cL_trial 5 [((0 : Nat), (9 : Nat), (12 : Nat), (39 : Nat)), ((0 : Nat), (9 : Nat), (16 : Nat), (15 : Nat))] 10 2 [.ref 0, .int p0, .int p1, .ref 233] σ K := by
  refine ctW_of (by decide) (Nat.le_of_ble_eq_true rfl) (fun x C r => ?_)
  have C : Cx x RL cL_trial 5 := C
  show Ws x 0 0 [(0, .ref 0), (1, .int p0), (2, .int p1), (3, .ref 233)] [] σ
  refine r_aload_n C 1 (j := 3) dL_trial_0 rfl rfl ?_
  refine r_iconst C 2 (v := 0) dL_trial_1 rfl (by decide) ?_
  refine r_aload_n C 3 (j := 0) dL_trial_2 rfl rfl ?_
  refine r_iload_n C 4 (j := 1) dL_trial_3 rfl rfl ?_
  refine r_iload_n C 5 (j := 2) dL_trial_4 rfl rfl ?_
  refine r_wVL (as := [.int p0, .int p1]) (S := [.int 0, .ref 233]) C r 8 (ct_X4_trial _ _ _ _ _ h) dL_trial_5 rfl cl6 kd_0 wq_1134 wq_1133 rfl wq_1132 wq_1135 wd_90 yd_X4_trial ⟨Nat.le_of_ble_eq_true rfl, Nat.le_of_ble_eq_true rfl⟩ (Nat.le_of_ble_eq_true rfl) (by decide) (fun r1 τ h => ?_) (fun E τ h => ?_)
  · refine r_last C 9 dL_trial_8 rfl kd_233 (by unfold vp_in; decide) ?_
    refine r_goto C 20 dL_trial_9 (by decide) ?_
    refine r_iconst C 21 (v := 0) dL_trial_20 rfl (by decide) ?_
    exact r_iretW C r dL_trial_21 (by decide) h
  · rcases h with ⟨rfl, h⟩ | ⟨rfl, h⟩
    · refine ⟨[], ⟨0, 9, 12, 39⟩, [⟨0, 9, 16, 15⟩], 4, 14, rfl, (fun z hz => nomatch hz), by decide, by decide, wq_842, nbc_854, (Or.inl ⟨dL_trial_12, rfl⟩), by decide, (by intro q hq; simp only [List.mem_cons, List.not_mem_nil, or_false] at hq; rcases hq with rfl | rfl | rfl | rfl <;> exact ⟨Nat.le_of_ble_eq_true rfl, rfl⟩), ?_⟩
      refine r_iconst C 15 (v := 1) dL_trial_14 rfl (by decide) ?_
      exact r_iretW C r dL_trial_15 (by decide) h
    · refine ⟨[⟨0, 9, 12, 39⟩], ⟨0, 9, 16, 15⟩, [], 4, 18, rfl, (fun z hz => by rcases List.mem_singleton.mp hz with rfl; exact ⟨by decide, "java/util/NoSuchElementException", wq_842, by decide⟩), by decide, by decide, wq_675, nbc_702, (Or.inl ⟨dL_trial_16, rfl⟩), by decide, (by intro q hq; simp only [List.mem_cons, List.not_mem_nil, or_false] at hq; rcases hq with rfl | rfl | rfl | rfl <;> exact ⟨Nat.le_of_ble_eq_true rfl, rfl⟩), ?_⟩
      refine r_iconst C 19 (v := 2) dL_trial_18 rfl (by decide) ?_
      exact r_iretW C r dL_trial_19 (by decide) h
theorem cw_bestReturn (p0 : Int32) (σ : Mem) (K : Int32 → Mem → Prop) (h : sp_X4_bestReturn p0 σ (fun r1 τ => K 0 (wl τ 233 0 r1.toInt64)) (fun E τ => E = "java/util/NoSuchElementException" ∧ K 1 τ)) : CtW yL_bestReturn cL_bestReturn 4 [((0 : Nat), (9 : Nat), (12 : Nat), (39 : Nat))] 10 1 [.ref 0, .int p0, .ref 233] σ K := by
  refine ctW_of (by decide) (Nat.le_of_ble_eq_true rfl) (fun x C r => ?_)
  have C : Cx x RL cL_bestReturn 4 := C
  show Ws x 0 0 [(0, .ref 0), (1, .int p0), (2, .ref 233)] [] σ
  refine r_aload_n C 1 (j := 2) dL_bestReturn_0 rfl rfl ?_
  refine r_iconst C 2 (v := 0) dL_bestReturn_1 rfl (by decide) ?_
  refine r_aload_n C 3 (j := 0) dL_bestReturn_2 rfl rfl ?_
  refine r_iload_n C 4 (j := 1) dL_bestReturn_3 rfl rfl ?_
  refine r_wVI (as := [.int p0]) (S := [.int 0, .ref 233]) C r 7 (ct_X4_bestReturn _ _ _ _ h) dL_bestReturn_4 rfl cl6 kd_0 wq_1145 wq_1144 rfl wq_1143 wq_1146 wd_90 yd_X4_bestReturn ⟨Nat.le_of_ble_eq_true rfl, Nat.le_of_ble_eq_true rfl⟩ (Nat.le_of_ble_eq_true rfl) (by decide) (fun r1 τ h => ?_) (fun E τ h => ?_)
  · refine r_i2l C 8 dL_bestReturn_7 rfl ?_
    refine r_last C 9 dL_bestReturn_8 rfl kd_233 (by unfold vp_in; decide) ?_
    refine r_goto C 15 dL_bestReturn_9 (by decide) ?_
    refine r_iconst C 16 (v := 0) dL_bestReturn_15 rfl (by decide) ?_
    exact r_iretW C r dL_bestReturn_16 (by decide) h
  · obtain ⟨rfl, h⟩ := h
    refine ⟨[], ⟨0, 9, 12, 39⟩, [], 3, 13, rfl, (fun z hz => nomatch hz), by decide, by decide, wq_842, nbc_854, (Or.inr ⟨_, dL_bestReturn_12, rfl, rfl⟩), by decide, (by intro q hq; simp only [List.mem_cons, List.not_mem_nil, or_false] at hq; rcases hq with rfl | rfl | rfl <;> exact ⟨Nat.le_of_ble_eq_true rfl, rfl⟩), ?_⟩
    refine r_iconst C 14 (v := 1) dL_bestReturn_13 rfl (by decide) ?_
    exact r_iretW C r dL_bestReturn_14 (by decide) h
theorem cw_account (p0 : Int32) (σ : Mem) (K : Int32 → Mem → Prop) (h : sp_X4_account p0 σ (fun r1 τ => K 0 (wl τ 233 0 r1)) (fun E τ => E = "java/lang/IllegalArgumentException" ∧ K 1 τ)) : CtW yL_account cL_account 4 [((0 : Nat), (8 : Nat), (11 : Nat), (15 : Nat))] 10 1 [.ref 0, .int p0, .ref 233] σ K := by
  refine ctW_of (by decide) (Nat.le_of_ble_eq_true rfl) (fun x C r => ?_)
  have C : Cx x RL cL_account 4 := C
  show Ws x 0 0 [(0, .ref 0), (1, .int p0), (2, .ref 233)] [] σ
  refine r_aload_n C 1 (j := 2) dL_account_0 rfl rfl ?_
  refine r_iconst C 2 (v := 0) dL_account_1 rfl (by decide) ?_
  refine r_aload_n C 3 (j := 0) dL_account_2 rfl rfl ?_
  refine r_iload_n C 4 (j := 1) dL_account_3 rfl rfl ?_
  refine r_wVL (as := [.int p0]) (S := [.int 0, .ref 233]) C r 7 (ct_X4_account _ _ _ _ h) dL_account_4 rfl cl6 kd_0 wq_1153 wq_1152 rfl wq_1151 wq_1154 wd_90 yd_X4_account ⟨Nat.le_of_ble_eq_true rfl, Nat.le_of_ble_eq_true rfl⟩ (Nat.le_of_ble_eq_true rfl) (by decide) (fun r1 τ h => ?_) (fun E τ h => ?_)
  · refine r_last C 8 dL_account_7 rfl kd_233 (by unfold vp_in; decide) ?_
    refine r_goto C 14 dL_account_8 (by decide) ?_
    refine r_iconst C 15 (v := 0) dL_account_14 rfl (by decide) ?_
    exact r_iretW C r dL_account_15 (by decide) h
  · obtain ⟨rfl, h⟩ := h
    refine ⟨[], ⟨0, 8, 11, 15⟩, [], 3, 12, rfl, (fun z hz => nomatch hz), by decide, by decide, wq_675, nbc_702, (Or.inr ⟨_, dL_account_11, rfl, rfl⟩), by decide, (by intro q hq; simp only [List.mem_cons, List.not_mem_nil, or_false] at hq; rcases hq with rfl | rfl | rfl <;> exact ⟨Nat.le_of_ble_eq_true rfl, rfl⟩), ?_⟩
    refine r_iconst C 13 (v := 1) dL_account_12 rfl (by decide) ?_
    exact r_iretW C r dL_account_13 (by decide) h
theorem cw_efficiency (σ : Mem) (K : Int32 → Mem → Prop) (h : sp_X4_efficiency  σ (fun r1 τ => K 0 (wd τ 234 0 r1)) (fun E τ => E = "java/lang/ArithmeticException" ∧ K 1 τ)) : CtW yL_efficiency cL_efficiency 3 [((0 : Nat), (7 : Nat), (10 : Nat), (124 : Nat))] 9 1 [.ref 0, .ref 234] σ K := by
  refine ctW_of (by decide) (by decide) (fun x C r => ?_)
  have C : Cx x RL cL_efficiency 3 := C
  show Ws x 0 0 [(0, .ref 0), (1, .ref 234)] [] σ
  refine r_aload_n C 1 (j := 1) dL_efficiency_0 rfl rfl ?_
  refine r_iconst C 2 (v := 0) dL_efficiency_1 rfl (by decide) ?_
  refine r_aload_n C 3 (j := 0) dL_efficiency_2 rfl rfl ?_
  refine r_wVD (as := []) (S := [.int 0, .ref 234]) C r 6 (ct_X4_efficiency  _ _ _ h) dL_efficiency_3 rfl cl6 kd_0 wq_1177 wq_1176 rfl wq_1175 wq_1178 wd_90 yd_X4_efficiency ⟨Nat.le_of_ble_eq_true rfl, Nat.le_of_ble_eq_true rfl⟩ (Nat.le_of_ble_eq_true rfl) (by decide) (fun r1 τ h => ?_) (fun E τ h => ?_)
  · refine r_dast C 7 dL_efficiency_6 rfl kd_234 (by unfold vp_in; decide) ?_
    refine r_goto C 13 dL_efficiency_7 (by decide) ?_
    refine r_iconst C 14 (v := 0) dL_efficiency_13 rfl (by decide) ?_
    exact r_iretW C r dL_efficiency_14 (by decide) h
  · obtain ⟨rfl, h⟩ := h
    refine ⟨[], ⟨0, 7, 10, 124⟩, [], 2, 11, rfl, (fun z hz => nomatch hz), by decide, by decide, wq_1161, nbc_1173, (Or.inr ⟨_, dL_efficiency_10, rfl, rfl⟩), by decide, (by intro q hq; simp only [List.mem_cons, List.not_mem_nil, or_false] at hq; rcases hq with rfl | rfl <;> exact ⟨Nat.le_of_ble_eq_true rfl, rfl⟩), ?_⟩
    refine r_iconst C 12 (v := 1) dL_efficiency_11 rfl (by decide) ?_
    exact r_iretW C r dL_efficiency_12 (by decide) h
theorem cw_count (p0 : Int32) (σ : Mem) (K : Int32 → Mem → Prop) (h : sp_X4_count p0 σ (fun r1 τ => K 0 (wl τ 233 0 r1.toInt64)) (fun E τ => E = "java/lang/IllegalArgumentException" ∧ K 1 τ)) : CtW yL_count cL_count 4 [((0 : Nat), (9 : Nat), (12 : Nat), (15 : Nat))] 10 1 [.ref 0, .int p0, .ref 233] σ K := by
  refine ctW_of (by decide) (Nat.le_of_ble_eq_true rfl) (fun x C r => ?_)
  have C : Cx x RL cL_count 4 := C
  show Ws x 0 0 [(0, .ref 0), (1, .int p0), (2, .ref 233)] [] σ
  refine r_aload_n C 1 (j := 2) dL_count_0 rfl rfl ?_
  refine r_iconst C 2 (v := 0) dL_count_1 rfl (by decide) ?_
  refine r_aload_n C 3 (j := 0) dL_count_2 rfl rfl ?_
  refine r_iload_n C 4 (j := 1) dL_count_3 rfl rfl ?_
  refine r_wVI (as := [.int p0]) (S := [.int 0, .ref 233]) C r 7 (ct_X4_count _ _ _ _ h) dL_count_4 rfl cl6 kd_0 wq_1187 wq_1186 rfl wq_1185 wq_1188 wd_90 yd_X4_count ⟨Nat.le_of_ble_eq_true rfl, Nat.le_of_ble_eq_true rfl⟩ (Nat.le_of_ble_eq_true rfl) (by decide) (fun r1 τ h => ?_) (fun E τ h => ?_)
  · refine r_i2l C 8 dL_count_7 rfl ?_
    refine r_last C 9 dL_count_8 rfl kd_233 (by unfold vp_in; decide) ?_
    refine r_goto C 15 dL_count_9 (by decide) ?_
    refine r_iconst C 16 (v := 0) dL_count_15 rfl (by decide) ?_
    exact r_iretW C r dL_count_16 (by decide) h
  · obtain ⟨rfl, h⟩ := h
    refine ⟨[], ⟨0, 9, 12, 15⟩, [], 3, 13, rfl, (fun z hz => nomatch hz), by decide, by decide, wq_675, nbc_702, (Or.inr ⟨_, dL_count_12, rfl, rfl⟩), by decide, (by intro q hq; simp only [List.mem_cons, List.not_mem_nil, or_false] at hq; rcases hq with rfl | rfl | rfl <;> exact ⟨Nat.le_of_ble_eq_true rfl, rfl⟩), ?_⟩
    refine r_iconst C 14 (v := 1) dL_count_13 rfl (by decide) ?_
    exact r_iretW C r dL_count_14 (by decide) h
theorem cw_undo (σ : Mem) (K : Int32 → Mem → Prop) (h : sp_X4_undo  σ (fun r1 τ => K 0 (wl τ 233 0 r1.toInt64)) (fun E τ => E = "java/lang/IllegalStateException" ∧ K 1 τ)) : CtW yL_undo cL_undo 3 [((0 : Nat), (8 : Nat), (11 : Nat), (52 : Nat))] 9 1 [.ref 0, .ref 233] σ K := by
  refine ctW_of (by decide) (by decide) (fun x C r => ?_)
  have C : Cx x RL cL_undo 3 := C
  show Ws x 0 0 [(0, .ref 0), (1, .ref 233)] [] σ
  refine r_aload_n C 1 (j := 1) dL_undo_0 rfl rfl ?_
  refine r_iconst C 2 (v := 0) dL_undo_1 rfl (by decide) ?_
  refine r_aload_n C 3 (j := 0) dL_undo_2 rfl rfl ?_
  refine r_wVI (as := []) (S := [.int 0, .ref 233]) C r 6 (ct_X4_undo  _ _ _ h) dL_undo_3 rfl cl6 kd_0 wq_1194 wq_1193 rfl wq_1192 wq_1195 wd_90 yd_X4_undo ⟨Nat.le_of_ble_eq_true rfl, Nat.le_of_ble_eq_true rfl⟩ (Nat.le_of_ble_eq_true rfl) (by decide) (fun r1 τ h => ?_) (fun E τ h => ?_)
  · refine r_i2l C 7 dL_undo_6 rfl ?_
    refine r_last C 8 dL_undo_7 rfl kd_233 (by unfold vp_in; decide) ?_
    refine r_goto C 14 dL_undo_8 (by decide) ?_
    refine r_iconst C 15 (v := 0) dL_undo_14 rfl (by decide) ?_
    exact r_iretW C r dL_undo_15 (by decide) h
  · obtain ⟨rfl, h⟩ := h
    refine ⟨[], ⟨0, 8, 11, 52⟩, [], 2, 12, rfl, (fun z hz => nomatch hz), by decide, by decide, wq_929, nbc_936, (Or.inr ⟨_, dL_undo_11, rfl, rfl⟩), by decide, (by intro q hq; simp only [List.mem_cons, List.not_mem_nil, or_false] at hq; rcases hq with rfl | rfl <;> exact ⟨Nat.le_of_ble_eq_true rfl, rfl⟩), ?_⟩
    refine r_iconst C 13 (v := 1) dL_undo_12 rfl (by decide) ?_
    exact r_iretW C r dL_undo_13 (by decide) h
theorem cw_restore (σ : Mem) (K : Int32 → Mem → Prop) (h : sp_X4_restore  σ (fun r1 τ => K 0 (wl τ 233 0 r1.toInt64)) (fun E τ => E = "java/lang/IllegalStateException" ∧ K 1 τ)) : CtW yL_restore cL_restore 3 [((0 : Nat), (8 : Nat), (11 : Nat), (52 : Nat))] 9 1 [.ref 0, .ref 233] σ K := by
  refine ctW_of (by decide) (by decide) (fun x C r => ?_)
  have C : Cx x RL cL_restore 3 := C
  show Ws x 0 0 [(0, .ref 0), (1, .ref 233)] [] σ
  refine r_aload_n C 1 (j := 1) dL_restore_0 rfl rfl ?_
  refine r_iconst C 2 (v := 0) dL_restore_1 rfl (by decide) ?_
  refine r_aload_n C 3 (j := 0) dL_restore_2 rfl rfl ?_
  refine r_wVI (as := []) (S := [.int 0, .ref 233]) C r 6 (ct_X4_restore  _ _ _ h) dL_restore_3 rfl cl6 kd_0 wq_1202 wq_1201 rfl wq_1200 wq_1203 wd_90 yd_X4_restore ⟨Nat.le_of_ble_eq_true rfl, Nat.le_of_ble_eq_true rfl⟩ (Nat.le_of_ble_eq_true rfl) (by decide) (fun r1 τ h => ?_) (fun E τ h => ?_)
  · refine r_i2l C 7 dL_restore_6 rfl ?_
    refine r_last C 8 dL_restore_7 rfl kd_233 (by unfold vp_in; decide) ?_
    refine r_goto C 14 dL_restore_8 (by decide) ?_
    refine r_iconst C 15 (v := 0) dL_restore_14 rfl (by decide) ?_
    exact r_iretW C r dL_restore_15 (by decide) h
  · obtain ⟨rfl, h⟩ := h
    refine ⟨[], ⟨0, 8, 11, 52⟩, [], 2, 12, rfl, (fun z hz => nomatch hz), by decide, by decide, wq_929, nbc_936, (Or.inr ⟨_, dL_restore_11, rfl, rfl⟩), by decide, (by intro q hq; simp only [List.mem_cons, List.not_mem_nil, or_false] at hq; rcases hq with rfl | rfl <;> exact ⟨Nat.le_of_ble_eq_true rfl, rfl⟩), ?_⟩
    refine r_iconst C 13 (v := 1) dL_restore_12 rfl (by decide) ?_
    exact r_iretW C r dL_restore_13 (by decide) h
