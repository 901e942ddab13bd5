/-! HeatNetworkModel.count(I)I: level 5, exceptions 0 -/
def sp_X5_count (p0 : Int32) (σ : Mem) (K : Int32 → Mem → Prop) (X : String → Mem → Prop) : Prop := (p0 = 0 → K (σ.1 210 7) (wi σ 209 0 0)) ∧ (p0 = 1 → sp_X5_stations (wi σ 209 0 0) K X) ∧ (p0 = 2 → ∃ g : Gr, WG g ∧ GM σ g ∧ ∀ τ : Mem, ChM (wi σ 209 0 0) τ → K (nI (bfs g 0).length) τ) ∧ (p0 = 3 → ∃ (g : Gr) (c : Lp), WG g ∧ GM σ g ∧ LPo g (bfs g 0) c ∧ ∀ τ : Mem, ChM (wi σ 209 0 0) τ → K (nI c.1) τ) ∧ (p0 = 4 → K (σ.1 209 5) (wi σ 209 0 0)) ∧ (p0 = 5 → K (σ.1 209 12) (wi σ 209 0 0)) ∧ (¬ p0 = 0 → ¬ p0 = 1 → ¬ p0 = 2 → ¬ p0 = 3 → ¬ p0 = 4 → ¬ p0 = 5 → K 0 (wi (wi σ 209 0 0) 209 0 1))
set_option maxRecDepth 4000 in
theorem sg_X5_count_0 {x : Ctx} {K : Int32 → Mem → Prop} {X : String → Mem → Prop} (C : Cx x RX5 cX5_count 4) (r : RtI x 5 0 (some .int) K X) (p0 : Int32)  (σ : Mem) (h : ∀ σ2 : Mem, σ2 = wi σ 209 0 0 → (p0 = 0 → sp_X5_pipes  σ2 (fun r45 σ45 => K r45 σ45) X) ∧ (p0 = 1 → sp_X5_stations  σ2 (fun r50 σ50 => K r50 σ50) X) ∧ (p0 = 2 → sp_X5_measure 0 σ2 (fun σ56 => Ws x 0 63 [(0, .ref 209), (2, .int 0), (3, .int 0)] [] σ56) X) ∧ (p0 = 3 → sp_X5_findsLoop  σ2 (fun σ90 => K (σ90.1 209 22) σ90) X) ∧ (p0 = 4 → K (σ2.1 209 5) σ2) ∧ (p0 = 5 → K (σ2.1 209 12) σ2) ∧ (¬ p0 = 0 → ¬ p0 = 1 → ¬ p0 = 2 → ¬ p0 = 3 → ¬ p0 = 4 → ¬ p0 = 5 → sp_X5_raises 1 σ2 (fun r110 σ110 => K r110 σ110) X)) : Ws x 0 0 [(0, .ref 209), (1, .int p0)] [] σ := by
  refine r_aload_n (j := 0) C 1 dX5_count_0 rfl rfl ?_
  refine r_iconst C 2 (v := 0) dX5_count_1 rfl (by decide) ?_
  refine r_putI (k := 0) C cl7 5 dX5_count_2 rfl kd_209 (by decide) wd_1212 rfl rfl rfl rfl ?_
  refine r_nmS (fun σ2 e2 => ?_)
  have h := h σ2 e2
  refine r_iload_n (j := 1) C 6 dX5_count_5 rfl rfl ?_
  by_cases c6_0 : p0 = 0
  · have h := h.1 c6_0
    refine r_tblIn C 44 (off := 38) dX5_count_6 (by rw [c6_0]; decide) (by rw [c6_0]; decide) (by rw [c6_0] <;> rfl) (by decide) ?_
    refine r_aload_n (j := 0) C 45 dX5_count_44 rfl rfl ?_
    refine r_cVI (as := []) (S := []) C r.px 48 (ct_X5_pipes  _ _ _ h) dX5_count_45 rfl cl7 kd_209 wd_45 wd_1360 rfl wd_1358 wd_1361 wd_95 yd_X5_pipes ⟨Nat.le_of_ble_eq_true rfl, Nat.le_of_ble_eq_true rfl⟩ (Nat.le_of_ble_eq_true rfl) (by decide) (fun r45 σ45 h => ?_)
    exact r_iret (S := []) C r dX5_count_48 (by decide) rfl h
  by_cases c6_1 : p0 = 1
  · have h := h.2.1 c6_1
    refine r_tblIn C 49 (off := 43) dX5_count_6 (by rw [c6_1]; decide) (by rw [c6_1]; decide) (by rw [c6_1] <;> rfl) (by decide) ?_
    refine r_aload_n (j := 0) C 50 dX5_count_49 rfl rfl ?_
    refine r_cVI (as := []) (S := []) C r.px 53 (ct_X5_stations  _ _ _ h) dX5_count_50 rfl cl7 kd_209 wd_53 wd_1400 rfl wd_1398 wd_1401 wd_95 yd_X5_stations ⟨Nat.le_of_ble_eq_true rfl, Nat.le_of_ble_eq_true rfl⟩ (Nat.le_of_ble_eq_true rfl) (by decide) (fun r50 σ50 h => ?_)
    exact r_iret (S := []) C r dX5_count_53 (by decide) rfl h
  by_cases c6_2 : p0 = 2
  · have h := h.2.2.1 c6_2
    refine r_tblIn C 54 (off := 48) dX5_count_6 (by rw [c6_2]; decide) (by rw [c6_2]; decide) (by rw [c6_2] <;> rfl) (by decide) ?_
    refine r_aload_n (j := 0) C 55 dX5_count_54 rfl rfl ?_
    refine r_iconst C 56 (v := 0) dX5_count_55 rfl (by decide) ?_
    refine r_cVV (as := [.int 0]) (S := []) C r.px 59 (ct_X5_measure _ _ _ _ h) dX5_count_56 rfl cl7 kd_209 wd_48 wd_1372 rfl wd_1370 wd_1373 wd_95 yd_X5_measure ⟨Nat.le_of_ble_eq_true rfl, Nat.le_of_ble_eq_true rfl⟩ (Nat.le_of_ble_eq_true rfl) (by decide) (fun σ56 h => ?_)
    refine r_iconst C 60 (v := 0) dX5_count_59 rfl (by decide) ?_
    refine r_istore_n C 61 [(2, .int 0), (0, .ref 209), (1, .int p0)] dX5_count_60 rfl (by decide) rfl ?_
    refine r_iconst C 62 (v := 0) dX5_count_61 rfl (by decide) ?_
    refine r_istore_n C 63 [(3, .int 0), (2, .int 0), (0, .ref 209), (1, .int p0)] dX5_count_62 rfl (by decide) rfl ?_
    exact Ws_pick [2, 1, 0] rfl h
  by_cases c6_3 : p0 = 3
  · have h := h.2.2.2.1 c6_3
    refine r_tblIn C 89 (off := 83) dX5_count_6 (by rw [c6_3]; decide) (by rw [c6_3]; decide) (by rw [c6_3] <;> rfl) (by decide) ?_
    refine r_aload_n (j := 0) C 90 dX5_count_89 rfl rfl ?_
    refine r_cVV (as := []) (S := []) C r.px 93 (ct_X5_findsLoop  _ _ _ h) dX5_count_90 rfl cl7 kd_209 wd_57 wd_1432 rfl wd_1430 wd_1433 wd_95 yd_X5_findsLoop ⟨Nat.le_of_ble_eq_true rfl, Nat.le_of_ble_eq_true rfl⟩ (Nat.le_of_ble_eq_true rfl) (by decide) (fun σ90 h => ?_)
    refine r_aload_n (j := 0) C 94 dX5_count_93 rfl rfl ?_
    refine r_get (k := 22) C cl7 97 dX5_count_94 rfl kd_209 (by decide) wd_1234 (.int (σ90.1 209 22)) (fun _ => rfl) ?_
    exact r_iret (S := []) C r dX5_count_97 (by decide) rfl h
  by_cases c6_4 : p0 = 4
  · have h := h.2.2.2.2.1 c6_4
    refine r_tblIn C 98 (off := 92) dX5_count_6 (by rw [c6_4]; decide) (by rw [c6_4]; decide) (by rw [c6_4] <;> rfl) (by decide) ?_
    refine r_aload_n (j := 0) C 99 dX5_count_98 rfl rfl ?_
    refine r_get (k := 5) C cl7 102 dX5_count_99 rfl kd_209 (by decide) wd_1217 (.int (σ2.1 209 5)) (fun _ => rfl) ?_
    exact r_iret (S := []) C r dX5_count_102 (by decide) rfl h
  by_cases c6_5 : p0 = 5
  · have h := h.2.2.2.2.2.1 c6_5
    refine r_tblIn C 103 (off := 97) dX5_count_6 (by rw [c6_5]; decide) (by rw [c6_5]; decide) (by rw [c6_5] <;> rfl) (by decide) ?_
    refine r_aload_n (j := 0) C 104 dX5_count_103 rfl rfl ?_
    refine r_get (k := 12) C cl7 107 dX5_count_104 rfl kd_209 (by decide) wd_1224 (.int (σ2.1 209 12)) (fun _ => rfl) ?_
    exact r_iret (S := []) C r dX5_count_107 (by decide) rfl h
  have h := h.2.2.2.2.2.2 c6_0 c6_1 c6_2 c6_3 c6_4 c6_5
  refine r_tblOut C 108 dX5_count_6 (tsw_out 6 (by decide) (fun k hk => by
    match k, hk with
    | 0, _ => exact c6_0
    | 1, _ => exact c6_1
    | 2, _ => exact c6_2
    | 3, _ => exact c6_3
    | 4, _ => exact c6_4
    | 5, _ => exact c6_5
    | k + 6, hk => exact absurd hk (by omega))) (by decide) ?_
  refine r_aload_n (j := 0) C 109 dX5_count_108 rfl rfl ?_
  refine r_iconst C 110 (v := 1) dX5_count_109 rfl (by decide) ?_
  refine r_cVI (as := [.int 1]) (S := []) C r.px 113 (ct_X5_raises _ _ _ _ h) dX5_count_110 rfl cl7 kd_209 wd_40 wd_1325 rfl wd_1323 wd_1326 wd_95 yd_X5_raises ⟨Nat.le_of_ble_eq_true rfl, Nat.le_of_ble_eq_true rfl⟩ (Nat.le_of_ble_eq_true rfl) (by decide) (fun r110 σ110 h => ?_)
  exact r_iret (S := []) C r dX5_count_113 (by decide) rfl h
set_option maxRecDepth 4000 in
theorem sg_X5_count_63 {x : Ctx} {K : Int32 → Mem → Prop} {X : String → Mem → Prop} (C : Cx x RX5 cX5_count 4) (r : RtI x 5 0 (some .int) K X) (i2 : Int32) (i3 : Int32)  (σ : Mem) (h : (10 ≤ i3 → K i2 σ) ∧ (¬ 10 ≤ i3 → (vp_in i3 10) ∧ (((σ.1 219 i3.toNatClampNeg) < 0 → ∀ v81 : Int32, v81 = i3 + 1 → Ws x 0 63 [(0, .ref 209), (2, .int i2), (3, .int v81)] [] σ) ∧ (¬ (σ.1 219 i3.toNatClampNeg) < 0 → ∀ v78 : Int32, v78 = i2 + 1 → ∀ v81 : Int32, v81 = i3 + 1 → Ws x 0 63 [(0, .ref 209), (2, .int v78), (3, .int v81)] [] σ)))) : Ws x 0 63 [(0, .ref 209), (2, .int i2), (3, .int i3)] [] σ := by
  refine r_iload_n (j := 2) C 64 dX5_count_63 rfl rfl ?_
  refine r_bipush C 66 (v := 10) dX5_count_64 rfl (by decide) ?_
  refine r_icmp_ge C 87 69 dX5_count_66 (by decide) rfl (fun c66 => ?_) (fun c66 => ?_)
  · have h := h.1 c66
    refine r_iload_n (j := 1) C 88 dX5_count_87 rfl rfl ?_
    exact r_iret (S := []) C r dX5_count_88 (by decide) rfl h
  · have h := h.2 c66
    refine r_aload_n (j := 0) C 70 dX5_count_69 rfl rfl ?_
    refine r_get (k := 16) C cl7 73 dX5_count_70 rfl kd_209 (by decide) wd_1228 (.ref 219) (fun _ => rfl) ?_
    refine r_iload_n (j := 2) C 74 dX5_count_73 rfl rfl ?_
    obtain ⟨o74, h⟩ := h
    refine r_iald C 75 dX5_count_74 rfl kd_219 o74 ?_
    refine r_if_lt C 81 78 dX5_count_75 (by decide) rfl (fun c75 => ?_) (fun c75 => ?_)
    · have h := h.1 c75
      obtain ⟨v81, e81⟩ : ∃ y : Int32, y = i3 + 1 := ⟨_, rfl⟩
      have h := h v81 e81
      refine r_iinc (j := 2) C 84 [(3, .int v81), (0, .ref 209), (2, .int i2)] dX5_count_81 rfl rfl (by rw [e81]; rfl) (by decide) rfl ?_
      refine r_goto C 63 dX5_count_84 (by decide) ?_
      exact Ws_pick [1, 2, 0] rfl h
    · have h := h.2 c75
      obtain ⟨v78, e78⟩ : ∃ y : Int32, y = i2 + 1 := ⟨_, rfl⟩
      have h := h v78 e78
      refine r_iinc (j := 1) C 81 [(2, .int v78), (0, .ref 209), (3, .int i3)] dX5_count_78 rfl rfl (by rw [e78]; rfl) (by decide) rfl ?_
      obtain ⟨v81, e81⟩ : ∃ y : Int32, y = i3 + 1 := ⟨_, rfl⟩
      have h := h v81 e81
      refine r_iinc (j := 2) C 84 [(3, .int v81), (2, .int v78), (0, .ref 209)] dX5_count_81 rfl rfl (by rw [e81]; rfl) (by decide) rfl ?_
      refine r_goto C 63 dX5_count_84 (by decide) ?_
      exact Ws_pick [2, 1, 0] rfl h
theorem vc_X5_count {x : Ctx} {K : Int32 → Mem → Prop} {X : String → Mem → Prop} (C : Cx x RX5 cX5_count 4) (r : RtI x 5 0 (some .int) K X) (p0 : Int32) (σ : Mem) (h : sp_X5_count p0 σ K X) : Ws x 0 0 [(0, .ref 209), (1, .int p0)] [] σ := by
  obtain ⟨h0, h1, h2, h3, h4, h5, h6⟩ := h
  refine sg_X5_count_0 C r _ σ (fun σ2 e2 => ⟨fun q => ?_, fun q => ?_, fun q => ?_, fun q => ?_, fun q => ?_, fun q => ?_, fun q0 q1 q2 q3 q4 q5 => i_X5_raises (by rw [e2]; exact h6 q0 q1 q2 q3 q4 q5)⟩)
  · rw [e2]; exact h0 q
  · rw [e2]; exact h1 q
  · obtain ⟨g, hg, hG, hK⟩ := h2 q
    have hG2 : GM σ2 g := by
      rw [e2]
      exact ⟨by rw [wi_i, if_neg (by omega)]; exact hG.1, fun p hp => by rw [wi_i, if_neg (by omega), wi_i, if_neg (by omega)]; exact hG.2 p hp⟩
    have hT := bfs_tre hg (src := 0) (by decide)
    refine ⟨g, 0, hg, by decide, rfl, hG2, fun τ t1 t2 t3 => ?_⟩
    have hM : ChM σ2 τ := ⟨fun a k q => ⟨t1 a k (by omega) (by omega), by rw [t2]⟩, fun k _ _ => t1 209 k (by decide) (by decide), fun k _ => by rw [t2], by rw [t2]⟩
    have H := cnt 10 (fun _ (_ : Unit) => True) (fun k _ => Ws x 0 63 [(0, .ref 209), (2, .int (nI (ctB (fun n => decide (n ∈ nds (bfs g 0))) k))), (3, .int (nI k))] [] τ)
      (fun _ _ => sg_X5_count_63 C r _ (nI 10) τ ⟨fun _ => by
        rw [ctB_len hT]
        exact hK τ (by rw [← e2]; exact hM), fun c => (lit_lt (by decide) (Nat.le_refl 10) (by decide) c).elim⟩)
      (fun k _ hk _ ih => sg_X5_count_63 C r _ (nI k) τ ⟨fun c => (lit_ge (by decide) hk c).elim, fun _ => ⟨n_inR hk (by decide), by
        have ih := ih () trivial
        rw [n_cl (by omega), t3 k hk, fI_lt10 hT k]
        refine ⟨fun q v81 e81 => ?_, fun q v78 e78 v81 e81 => ?_⟩
        · rw [ctB, if_neg (fun z => q (of_decide_eq_true z)), Nat.add_zero] at ih
          rw [e81, nI_1]; exact ih
        · rw [ctB, if_pos (decide_eq_true (Classical.not_not.mp q))] at ih
          rw [e78, e81, nI_1, nI_1]; exact ih⟩⟩) 0 () (Nat.zero_le _) trivial
    exact H
  · obtain ⟨g, c, hg, hG, hL, hK⟩ := h3 q
    have hG2 : GM σ2 g := by
      rw [e2]
      exact ⟨by rw [wi_i, if_neg (by omega)]; exact hG.1, fun p hp => by rw [wi_i, if_neg (by omega), wi_i, if_neg (by omega)]; exact hG.2 p hp⟩
    refine ⟨g, c, hg, hG2, hL, fun τ hM _ hl => ?_⟩
    show K (τ.1 209 22) τ
    rw [hl.1]
    exact hK τ (by rw [← e2]; exact hM)
  · rw [e2]; exact h4 q
  · rw [e2]; exact h5 q
theorem ct_X5_count (p0 : Int32) (σ : Mem) (K : Int32 → Mem → Prop) (X : String → Mem → Prop) (h : sp_X5_count p0 σ K X) : CtI yX5_count cX5_count 4 (some .int) 5 0 [.ref 209, .int p0] σ K X :=
  ctI_of (by decide +kernel) (Nat.le_of_ble_eq_true rfl) (fun x C r => vc_X5_count C r p0 σ h)
/-! HeatNetworkModel.account(I)J: level 7, exceptions 0 -/
/-- what is found of an hour -/
def acV (w : Nat → Int32) (g : Gr) (dr B T S : Nat → Nat) (f : Nat → Int32) (m : Nat) : Int64 := if m = 0 then lN (B 0) * (w 0 - nI (S 0)).toInt64 else if m = 1 then zL (smZ (htZ w dr T) 10) else if m = 2 then sumL (fun p => lN (if p < g.1 then lsH w g (flR f) T p + lsC w g (flR f) S p else 0)) 10 else sumL (fun n => lN (rmH w g (flR f) T n + rmC w g (flR f) dr S n)) 10
def sp_X5_account (p0 : Int32) (σ : Mem) (K : Int64 → Mem → Prop) (X : String → Mem → Prop) : Prop := (¬ (¬ p0 < 0 ∧ ¬ 7 < p0) → K 0 (wi (wi σ 209 0 0) 209 0 1)) ∧ ∀ m, m ≤ 7 → p0 = nI m → (4 ≤ m → K (σ.2.1 211 (26 + m)) (wi σ 209 0 0)) ∧ (m ≤ 3 → ∃ (w : Nat → Int32) (g : Gr) (c : Lp) (R : Nat) (D T : Nat → Nat → Nat) (B S : Nat → Nat) (z : Int) (f : Nat → Int32), WFw w g ∧ (∀ k, k < 108 → σ.1 210 k = w k) ∧ Sol w g c R D T B S z f ∧ ∀ τ : Mem, ChM (wi σ 209 0 0) τ → K (acV w g (D R) B (T R) S f m) τ)
theorem sumL_cg {f f' : Nat → Int64} : ∀ n, (∀ k, k < n → f k = f' k) → sumL f n = sumL f' n
  | 0, _ => rfl
  | n + 1, h => by
    unfold sumL
    rw [sumL_cg n (fun k hk => h k (by omega)), h n (by omega)]
theorem sumL_zero {f : Nat → Int64} {m : Nat} (h : ∀ k, m ≤ k → f k = 0) : ∀ n, sumL f (m + n) = sumL f m
  | 0 => rfl
  | n + 1 => by
    show sumL f (m + n) + f (m + n) = _
    rw [sumL_zero h n, h _ (by omega)]
    exact Int64.add_zero _
set_option maxRecDepth 4000 in
theorem sg_X5_account_0 {x : Ctx} {K : Int64 → Mem → Prop} {X : String → Mem → Prop} (C : Cx x RX5 cX5_account 5) (r : RtL x 7 0 (some .long) K X) (p0 : Int32)  (σ : Mem) (h : ∀ σ2 : Mem, σ2 = wi σ 209 0 0 → sp_X5_in p0 0 7 σ2 (fun r9 σ9 => (¬ r9 = 0 → (p0 ≤ 3 → sp_X5_looks  σ9 (fun σ40 => (p0 = 0 → sp_X5_made  σ40 (fun r73 σ73 => K r73 σ73) X) ∧ (p0 = 1 → sp_X5_allHeat  σ40 (fun r78 σ78 => K r78 σ78) X) ∧ (p0 = 2 → Ws x 0 85 [(0, .ref 209), (2, .long 0), (4, .int 0)] [] σ40) ∧ (¬ p0 = 0 → ¬ p0 = 1 → ¬ p0 = 2 → Ws x 0 114 [(0, .ref 209), (2, .long 0), (4, .int 0)] [] σ40)) X) ∧ (¬ p0 ≤ 3 → (vp_in ((30 + p0) - 4) 34) ∧ (K (σ9.2.1 211 (((30 + p0) - 4)).toNatClampNeg) σ9))) ∧ (r9 = 0 → sp_X5_raises 1 σ9 (fun r17 σ17 => K (r17).toInt64 σ17) X)) X) : Ws x 0 0 [(0, .ref 209), (1, .int p0)] [] σ := by
  refine r_aload_n (j := 0) C 1 dX5_account_0 rfl rfl ?_
  refine r_iconst C 2 (v := 0) dX5_account_1 rfl (by decide) ?_
  refine r_putI (k := 0) C cl7 5 dX5_account_2 rfl kd_209 (by decide) wd_1212 rfl rfl rfl rfl ?_
  refine r_nmS (fun σ2 e2 => ?_)
  have h := h σ2 e2
  refine r_iload_n (j := 1) C 6 dX5_account_5 rfl rfl ?_
  refine r_iconst C 7 (v := 0) dX5_account_6 rfl (by decide) ?_
  refine r_bipush C 9 (v := 7) dX5_account_7 rfl (by decide) ?_
  refine r_cSI (b := 0) (as := [.int p0, .int 0, .int 7]) (S := []) C r.px 12 (ct_X5_in _ _ _ _ _ _ h) dX5_account_9 rfl wd_1321 wd_1320 wd_1322 wd_95 yd_X5_in ⟨Nat.le_of_ble_eq_true rfl, Nat.le_of_ble_eq_true rfl⟩ (Nat.le_of_ble_eq_true rfl) (by decide) (fun r9 σ9 h => ?_)
  refine r_if_ne C 22 15 dX5_account_12 (by decide) rfl (fun c12 => ?_) (fun c12 => ?_)
  · have h := h.1 c12
    refine r_iload_n (j := 1) C 23 dX5_account_22 rfl rfl ?_
    refine r_iconst C 24 (v := 3) dX5_account_23 rfl (by decide) ?_
    refine r_icmp_le C 39 27 dX5_account_24 (by decide) rfl (fun c24 => ?_) (fun c24 => ?_)
    · have h := h.1 c24
      refine r_aload_n (j := 0) C 40 dX5_account_39 rfl rfl ?_
      refine r_cVV (as := []) (S := []) C r.px 43 (ct_X5_looks  _ _ _ h) dX5_account_40 rfl cl7 kd_209 wd_56 wd_1428 rfl wd_1426 wd_1429 wd_95 yd_X5_looks ⟨Nat.le_of_ble_eq_true rfl, Nat.le_of_ble_eq_true rfl⟩ (Nat.le_of_ble_eq_true rfl) (by decide) (fun σ40 h => ?_)
      refine r_lconst C 44 (v := 0) dX5_account_43 rfl rfl ?_
      refine r_lstore_n C 45 [(2, .long 0), (0, .ref 209), (1, .int p0)] dX5_account_44 rfl (by decide) rfl ?_
      refine r_iload_n (j := 2) C 46 dX5_account_45 rfl rfl ?_
      by_cases c46_0 : p0 = 0
      · have h := h.1 c46_0
        refine r_tblIn C 72 (off := 26) dX5_account_46 (by rw [c46_0]; decide) (by rw [c46_0]; decide) (by rw [c46_0] <;> rfl) (by decide) ?_
        refine r_aload_n (j := 1) C 73 dX5_account_72 rfl rfl ?_
        refine r_cVL (as := []) (S := []) C r.px 76 (ct_X5_made  _ _ _ h) dX5_account_73 rfl cl7 kd_209 wd_74 wd_1511 rfl wd_1509 wd_1512 wd_95 yd_X5_made ⟨Nat.le_of_ble_eq_true rfl, Nat.le_of_ble_eq_true rfl⟩ (Nat.le_of_ble_eq_true rfl) (by decide) (fun r73 σ73 h => ?_)
        exact r_lret (S := []) C r dX5_account_76 (by decide) h
      by_cases c46_1 : p0 = 1
      · have h := h.2.1 c46_1
        refine r_tblIn C 77 (off := 31) dX5_account_46 (by rw [c46_1]; decide) (by rw [c46_1]; decide) (by rw [c46_1] <;> rfl) (by decide) ?_
        refine r_aload_n (j := 1) C 78 dX5_account_77 rfl rfl ?_
        refine r_cVL (as := []) (S := []) C r.px 81 (ct_X5_allHeat  _ _ _ h) dX5_account_78 rfl cl7 kd_209 wd_75 wd_1515 rfl wd_1513 wd_1516 wd_95 yd_X5_allHeat ⟨Nat.le_of_ble_eq_true rfl, Nat.le_of_ble_eq_true rfl⟩ (Nat.le_of_ble_eq_true rfl) (by decide) (fun r78 σ78 h => ?_)
        exact r_lret (S := []) C r dX5_account_81 (by decide) h
      by_cases c46_2 : p0 = 2
      · have h := h.2.2.1 c46_2
        refine r_tblIn C 82 (off := 36) dX5_account_46 (by rw [c46_2]; decide) (by rw [c46_2]; decide) (by rw [c46_2] <;> rfl) (by decide) ?_
        refine r_iconst C 83 (v := 0) dX5_account_82 rfl (by decide) ?_
        refine r_istore C 85 [(4, .int 0), (2, .long 0), (0, .ref 209), (1, .int p0)] dX5_account_83 rfl (by decide) rfl ?_
        exact Ws_pick [2, 1, 0] rfl h
      have h := h.2.2.2 c46_0 c46_1 c46_2
      refine r_tblOut C 111 dX5_account_46 (tsw_out 3 (by decide) (fun k hk => by
        match k, hk with
        | 0, _ => exact c46_0
        | 1, _ => exact c46_1
        | 2, _ => exact c46_2
        | k + 3, hk => exact absurd hk (by omega))) (by decide) ?_
      refine r_iconst C 112 (v := 0) dX5_account_111 rfl (by decide) ?_
      refine r_istore C 114 [(4, .int 0), (2, .long 0), (0, .ref 209), (1, .int p0)] dX5_account_112 rfl (by decide) rfl ?_
      exact Ws_pick [2, 1, 0] rfl h
    · have h := h.2 c24
      refine r_aload_n (j := 0) C 28 dX5_account_27 rfl rfl ?_
      refine r_get (k := 2) C cl7 31 dX5_account_28 rfl kd_209 (by decide) wd_1214 (.ref 211) (fun _ => rfl) ?_
      refine r_bipush C 33 (v := 30) dX5_account_31 rfl (by decide) ?_
      refine r_iload_n (j := 1) C 34 dX5_account_33 rfl rfl ?_
      refine r_iadd C 35 dX5_account_34 rfl ?_
      refine r_iconst C 36 (v := 4) dX5_account_35 rfl (by decide) ?_
      refine r_isub C 37 dX5_account_36 rfl ?_
      obtain ⟨o37, h⟩ := h
      refine r_lald C 38 dX5_account_37 rfl kd_211 o37 ?_
      exact r_lret (S := []) C r dX5_account_38 (by decide) h
  · have h := h.2 c12
    refine r_aload_n (j := 0) C 16 dX5_account_15 rfl rfl ?_
    refine r_iconst C 17 (v := 1) dX5_account_16 rfl (by decide) ?_
    refine r_cVI (as := [.int 1]) (S := []) C r.px 20 (ct_X5_raises _ _ _ _ h) dX5_account_17 rfl cl7 kd_209 wd_40 wd_1325 rfl wd_1323 wd_1326 wd_95 yd_X5_raises ⟨Nat.le_of_ble_eq_true rfl, Nat.le_of_ble_eq_true rfl⟩ (Nat.le_of_ble_eq_true rfl) (by decide) (fun r17 σ17 h => ?_)
    refine r_i2l C 21 dX5_account_20 rfl ?_
    exact r_lret (S := []) C r dX5_account_21 (by decide) h
set_option maxRecDepth 4000 in
theorem sg_X5_account_85 {x : Ctx} {K : Int64 → Mem → Prop} {X : String → Mem → Prop} (C : Cx x RX5 cX5_account 5) (r : RtL x 7 0 (some .long) K X) (l2 : Int64) (i4 : Int32)  (σ : Mem) (h : sp_X5_pipes  σ (fun r88 σ88 => (r88 ≤ i4 → K l2 σ88) ∧ (¬ r88 ≤ i4 → sp_X5_loses i4 σ88 (fun r98 σ98 => ∀ v102 : Int64, v102 = (l2 + r98) → ∀ v103 : Int32, v103 = i4 + 1 → Ws x 0 85 [(0, .ref 209), (2, .long v102), (4, .int v103)] [] σ98) X)) X) : Ws x 0 85 [(0, .ref 209), (2, .long l2), (4, .int i4)] [] σ := by
  refine r_iload (j := 2) C 87 dX5_account_85 rfl rfl ?_
  refine r_aload_n (j := 0) C 88 dX5_account_87 rfl rfl ?_
  refine r_cVI (as := []) (S := [.int i4]) C r.px 91 (ct_X5_pipes  _ _ _ h) dX5_account_88 rfl cl7 kd_209 wd_45 wd_1360 rfl wd_1358 wd_1361 wd_95 yd_X5_pipes ⟨Nat.le_of_ble_eq_true rfl, Nat.le_of_ble_eq_true rfl⟩ (Nat.le_of_ble_eq_true rfl) (by decide) (fun r88 σ88 h => ?_)
  refine r_icmp_ge C 109 94 dX5_account_91 (by decide) rfl (fun c91 => ?_) (fun c91 => ?_)
  · have h := h.1 c91
    refine r_lload_n (j := 1) C 110 dX5_account_109 rfl rfl ?_
    exact r_lret (S := []) C r dX5_account_110 (by decide) h
  · have h := h.2 c91
    refine r_lload_n (j := 1) C 95 dX5_account_94 rfl rfl ?_
    refine r_aload_n (j := 0) C 96 dX5_account_95 rfl rfl ?_
    refine r_iload (j := 2) C 98 dX5_account_96 rfl rfl ?_
    refine r_cVL (as := [.int i4]) (S := [.long l2]) C r.px 101 (ct_X5_loses _ _ _ _ h) dX5_account_98 rfl cl7 kd_209 wd_87 wd_1609 rfl wd_1607 wd_1610 wd_95 yd_X5_loses ⟨Nat.le_of_ble_eq_true rfl, Nat.le_of_ble_eq_true rfl⟩ (Nat.le_of_ble_eq_true rfl) (by decide) (fun r98 σ98 h => ?_)
    refine r_ladd C 102 dX5_account_101 rfl ?_
    refine r_nmL (fun v102 e102 => ?_)
    have h := h v102 e102
    refine r_lstore_n C 103 [(2, .long v102), (0, .ref 209), (4, .int i4)] dX5_account_102 rfl (by decide) rfl ?_
    obtain ⟨v103, e103⟩ : ∃ y : Int32, y = i4 + 1 := ⟨_, rfl⟩
    have h := h v103 e103
    refine r_iinc (j := 2) C 106 [(4, .int v103), (2, .long v102), (0, .ref 209)] dX5_account_103 rfl rfl (by rw [e103]; rfl) (by decide) rfl ?_
    refine r_goto C 85 dX5_account_106 (by decide) ?_
    exact Ws_pick [2, 1, 0] rfl h
set_option maxRecDepth 4000 in
theorem sg_X5_account_114 {x : Ctx} {K : Int64 → Mem → Prop} {X : String → Mem → Prop} (C : Cx x RX5 cX5_account 5) (r : RtL x 7 0 (some .long) K X) (l2 : Int64) (i4 : Int32)  (σ : Mem) (h : (10 ≤ i4 → K l2 σ) ∧ (¬ 10 ≤ i4 → (vp_in i4 10) ∧ (∀ v130 : Int64, v130 = (l2 + (σ.2.1 231 i4.toNatClampNeg)) → ∀ v131 : Int32, v131 = i4 + 1 → Ws x 0 114 [(0, .ref 209), (2, .long v130), (4, .int v131)] [] σ))) : Ws x 0 114 [(0, .ref 209), (2, .long l2), (4, .int i4)] [] σ := by
  refine r_iload (j := 2) C 116 dX5_account_114 rfl rfl ?_
  refine r_bipush C 118 (v := 10) dX5_account_116 rfl (by decide) ?_
  refine r_icmp_ge C 137 121 dX5_account_118 (by decide) rfl (fun c118 => ?_) (fun c118 => ?_)
  · have h := h.1 c118
    refine r_lload_n (j := 1) C 138 dX5_account_137 rfl rfl ?_
    exact r_lret (S := []) C r dX5_account_138 (by decide) h
  · have h := h.2 c118
    refine r_lload_n (j := 1) C 122 dX5_account_121 rfl rfl ?_
    refine r_aload_n (j := 0) C 123 dX5_account_122 rfl rfl ?_
    refine r_get (k := 29) C cl7 126 dX5_account_123 rfl kd_209 (by decide) wd_1241 (.ref 231) (fun _ => rfl) ?_
    refine r_iload (j := 2) C 128 dX5_account_126 rfl rfl ?_
    obtain ⟨o128, h⟩ := h
    refine r_lald C 129 dX5_account_128 rfl kd_231 o128 ?_
    refine r_ladd C 130 dX5_account_129 rfl ?_
    refine r_nmL (fun v130 e130 => ?_)
    have h := h v130 e130
    refine r_lstore_n C 131 [(2, .long v130), (0, .ref 209), (4, .int i4)] dX5_account_130 rfl (by decide) rfl ?_
    obtain ⟨v131, e131⟩ : ∃ y : Int32, y = i4 + 1 := ⟨_, rfl⟩
    have h := h v131 e131
    refine r_iinc (j := 2) C 134 [(4, .int v131), (2, .long v130), (0, .ref 209)] dX5_account_131 rfl rfl (by rw [e131]; rfl) (by decide) rfl ?_
    refine r_goto C 114 dX5_account_134 (by decide) ?_
    exact Ws_pick [2, 1, 0] rfl h
theorem vc_X5_account {x : Ctx} {K : Int64 → Mem → Prop} {X : String → Mem → Prop} (C : Cx x RX5 cX5_account 5) (r : RtL x 7 0 (some .long) K X) (p0 : Int32) (σ : Mem) (h : sp_X5_account p0 σ K X) : Ws x 0 0 [(0, .ref 209), (1, .int p0)] [] σ := by
  obtain ⟨h0, hm⟩ := h
  refine sg_X5_account_0 C r _ σ (fun σ2 e2 => i_X5_in ?_)
  by_cases c : ¬ p0 < 0 ∧ ¬ 7 < p0
  · rw [if_pos c]
    obtain ⟨m, hm7, e⟩ := sm_of (m := 7) rfl (by decide) c
    subst e
    obtain ⟨k1, k2⟩ := hm m hm7 rfl
    refine ⟨fun _ => ⟨fun q => ?_, fun q => ?_⟩, fun q => absurd q (by decide)⟩
    · have hm3 : m ≤ 3 := by rw [show (3 : Int32) = nI 3 from rfl, nI_leI (by omega) (by omega)] at q; exact q
      obtain ⟨w, g, cc, R, D, T, B, S, z, f, hw, hr, ⟨s1, s2, s3⟩, hK⟩ := k2 hm3
      have hr2 : ∀ k, k < 108 → σ2.1 210 k = w k := fun k hk => by rw [e2, wi_i, if_neg (by omega)]; exact hr k hk
      have hd : ∀ n, n < 10 → D R n ≤ 999 := fun n hn => by rw [(s2.2.2.1 R s2.1 (Nat.le_refl R)).1]; exact (drNx_bd hw hn).1
      refine ⟨w, g, cc, R, D, T, B, S, z, f, hw, hr2, s1, s2, s3, fun τ hM hR => ?_⟩
      rw [← e2] at hK
      have hK := hK τ hM
      have hrt : ∀ k, k < 108 → τ.1 210 k = w k := fun k hk => by rw [hM.i210]; exact hr2 k hk
      have hT := bfs_tre hw.2.1 (src := 0) (by decide)
      have em : ∀ {k : Nat}, k < 1000 → (nI m = nI k ↔ m = k) := fun hk => nI_eq (by omega) (by omega)
      refine ⟨fun q => ?_, fun q => ?_, fun q => ?_, fun q1 q2 q3 => ?_⟩
      · have e := (em (k := 0) (by decide)).mp q
        unfold acV at hK
        rw [if_pos e] at hK
        show K (τ.2.1 227 0 * (τ.1 210 0 - τ.1 230 0).toInt64) τ
        rw [hR.2.2.2.1 0 hT.src.1, hrt 0 (by decide), (hR.2.2.2.2.2.2.1 0 (by decide)).2.1]
        exact hK
      · have e := (em (k := 1) (by decide)).mp q
        unfold acV at hK
        rw [if_neg (by omega), if_pos e] at hK
        exact ⟨w, g, D R, T R, hw, hrt, fun n hn => ⟨⟨hR.2.2.1 n hn, hd n hn⟩, (hR.2.2.2.2.2.2.1 n hn).1, (s3.2.2 n hn).1.2.2⟩, hK⟩
      · have e := (em (k := 2) (by decide)).mp q
        unfold acV at hK
        rw [if_neg (by omega), if_neg (by omega), if_pos e] at hK
        have hg := hw.2.1.1
        have H := cnt g.1 (fun _ (_ : Unit) => True) (fun k _ => Ws x 0 85 [(0, .ref 209), (2, .long (sumL (fun p => lN (if p < g.1 then lsH w g (flR f) (T R) p + lsC w g (flR f) S p else 0)) k)), (4, .int (nI k))] [] τ)
          (fun _ _ => sg_X5_account_85 C r _ _ τ (by
            show (τ.1 210 7 ≤ nI g.1 → _) ∧ (¬ τ.1 210 7 ≤ nI g.1 → _)
            rw [hrt 7 (by decide), hw.1]
            refine ⟨fun _ => ?_, fun c => absurd (nI_le (Nat.le_refl _) (by omega)) c⟩
            have := sumL_zero (f := fun p => lN (if p < g.1 then lsH w g (flR f) (T R) p + lsC w g (flR f) S p else 0)) (m := g.1) (fun k hk => by show lN (if k < g.1 then _ else 0) = 0; rw [if_neg (by omega)]; rfl) (10 - g.1)
            rw [← this, show g.1 + (10 - g.1) = 10 by omega]
            exact hK))
          (fun k _ hk _ ih => sg_X5_account_85 C r _ _ τ (by
            show (τ.1 210 7 ≤ nI k → _) ∧ (¬ τ.1 210 7 ≤ nI k → _)
            rw [hrt 7 (by decide), hw.1]
            refine ⟨fun c => absurd c (nI_ge hk (by omega)), fun _ => i_X5_loses hw hrt s1 s3 hR hk (fun v102 e102 v103 e103 => ?_)⟩
            have ih := ih () trivial
            rw [sumL, if_pos hk] at ih
            rw [e102, e103, nI_1]
            exact ih)) 0 () (Nat.zero_le _) trivial
        exact H
      · unfold acV at hK
        rw [if_neg (fun e => q1 (by rw [e]; rfl)), if_neg (fun e => q2 (by rw [e]; rfl)), if_neg (fun e => q3 (by rw [e]; rfl))] at hK
        have H := cnt 10 (fun _ (_ : Unit) => True) (fun k _ => Ws x 0 114 [(0, .ref 209), (2, .long (sumL (fun n => lN (rmH w g (flR f) (T R) n + rmC w g (flR f) (D R) S n)) k)), (4, .int (nI k))] [] τ)
          (fun _ _ => sg_X5_account_114 C r _ (nI 10) τ ⟨fun _ => hK, fun c => (lit_lt (by decide) (Nat.le_refl 10) (by decide) c).elim⟩)
          (fun k _ hk _ ih => sg_X5_account_114 C r _ (nI k) τ ⟨fun c => (lit_ge (by decide) hk c).elim, fun _ => ⟨n_inR hk (by decide), fun v130 e130 v131 e131 => by
            have ih := ih () trivial
            rw [sumL] at ih
            rw [n_cl (by omega), (hR.2.2.2.2.2.2.1 k hk).2.2] at e130
            rw [e130, e131, nI_1]
            exact ih⟩⟩) 0 () (Nat.zero_le _) trivial
        exact H
    · have hm4 : 4 ≤ m := by
        rw [show (3 : Int32) = nI 3 from rfl, nI_leI (by omega) (by omega)] at q; omega
      have k1 := k1 hm4
      have e : (30 + nI m) - 4 = nI (26 + m) := by rw [show (30 : Int32) = nI 30 from rfl, show (4 : Int32) = nI 4 from rfl, nI_add, pk_sub (by omega)]; congr 1; omega
      rw [e, n_cl (by omega)]
      refine ⟨n_inR (by omega) (by decide), ?_⟩
      rw [e2]; exact k1
  · rw [if_neg c]
    refine ⟨fun q => absurd rfl q, fun _ => i_X5_raises ?_⟩
    rw [e2]; exact h0 c
theorem ct_X5_account (p0 : Int32) (σ : Mem) (K : Int64 → Mem → Prop) (X : String → Mem → Prop) (h : sp_X5_account p0 σ K X) : CtL yX5_account cX5_account 5 (some .long) 7 0 [.ref 209, .int p0] σ K X :=
  ctL_of (by decide +kernel) (Nat.le_of_ble_eq_true rfl) (fun x C r => vc_X5_account C r p0 σ h)
/-! HeatNetworkModel.bestReturn(I)I: level 7, exceptions 0 -/
def sp_X5_bestReturn (p0 : Int32) (σ : Mem) (K : Int32 → Mem → Prop) (X : String → Mem → Prop) : Prop := ∃ (w : Nat → Int32) (g : Gr), WFw w g ∧ (∀ k, k < 108 → σ.1 210 k = w k) ∧ ((∀ n, n < 10 → p0 = nI n → ¬ hasW w n) → K 0 (wi (wi σ 209 0 0) 209 0 1)) ∧ ∀ n, n < 10 → p0 = nI n → hasW w n → ∃ py : Nat → Int64, (∀ j, j ≤ 8 → PyOk w g n j (py j)) ∧ ∀ τ : Mem, ChM (wi σ 209 0 0) τ → K (nI (200 + 50 * (bsF py 8).1)) τ
theorem ChM.ix {σ τ : Mem} {k : Nat} {t t' : Int32} (h : ChM (wi σ 210 k t) τ) : ChM (wi σ 210 k t') (wi τ 210 k t') := by
  obtain ⟨h1, h2, h3, h4⟩ := h
  refine ⟨fun a j q => ⟨?_, (h1 a j q).2⟩, fun j q1 q2 => ?_, h3, h4⟩
  · have := (h1 a j q).1
    rw [wi_i] at this ⊢
    rw [wi_i]
    by_cases c : a = 210 ∧ j = k
    · rw [if_pos c, if_pos c]
    · rw [if_neg c] at this ⊢
      rw [if_neg c]; exact this
  · have := h2 j q1 q2
    rw [wi_i, if_neg (by omega)] at this ⊢
    rw [wi_i, if_neg (by omega)]; exact this
set_option maxRecDepth 4000 in
theorem sg_X5_bestReturn_0 {x : Ctx} {K : Int32 → Mem → Prop} {X : String → Mem → Prop} (C : Cx x RX5 cX5_bestReturn 7) (r : RtI x 7 0 (some .int) K X) (p0 : Int32)  (σ : Mem) (h : ∀ σ2 : Mem, σ2 = wi σ 209 0 0 → sp_X5_hasStation p0 σ2 (fun r7 σ7 => (¬ r7 = 0 → (vp_in ((48 + (6 * p0)) + 2) 108) ∧ (∀ v33 : Int32, v33 = (σ7.1 210 (((48 + (6 * p0)) + 2)).toNatClampNeg) → Ws x 0 44 [(0, .ref 209), (1, .int p0), (2, .int v33), (3, .int (-1)), (4, .long 0), (6, .int 200)] [] σ7)) ∧ (r7 = 0 → sp_X5_raises 1 σ7 (fun r15 σ15 => K r15 σ15) X)) X) : Ws x 0 0 [(0, .ref 209), (1, .int p0)] [] σ := by
  refine r_aload_n (j := 0) C 1 dX5_bestReturn_0 rfl rfl ?_
  refine r_iconst C 2 (v := 0) dX5_bestReturn_1 rfl (by decide) ?_
  refine r_putI (k := 0) C cl7 5 dX5_bestReturn_2 rfl kd_209 (by decide) wd_1212 rfl rfl rfl rfl ?_
  refine r_nmS (fun σ2 e2 => ?_)
  have h := h σ2 e2
  refine r_aload_n (j := 0) C 6 dX5_bestReturn_5 rfl rfl ?_
  refine r_iload_n (j := 1) C 7 dX5_bestReturn_6 rfl rfl ?_
  refine r_cVI (as := [.int p0]) (S := []) C r.px 10 (ct_X5_hasStation _ _ _ _ h) dX5_bestReturn_7 rfl cl7 kd_209 wd_52 wd_1396 rfl wd_1394 wd_1397 wd_95 yd_X5_hasStation ⟨Nat.le_of_ble_eq_true rfl, Nat.le_of_ble_eq_true rfl⟩ (Nat.le_of_ble_eq_true rfl) (by decide) (fun r7 σ7 h => ?_)
  refine r_if_ne C 19 13 dX5_bestReturn_10 (by decide) rfl (fun c10 => ?_) (fun c10 => ?_)
  · have h := h.1 c10
    refine r_aload_n (j := 0) C 20 dX5_bestReturn_19 rfl rfl ?_
    refine r_get (k := 1) C cl7 23 dX5_bestReturn_20 rfl kd_209 (by decide) wd_1213 (.ref 210) (fun _ => rfl) ?_
    refine r_bipush C 25 (v := 48) dX5_bestReturn_23 rfl (by decide) ?_
    refine r_bipush C 27 (v := 6) dX5_bestReturn_25 rfl (by decide) ?_
    refine r_iload_n (j := 1) C 28 dX5_bestReturn_27 rfl rfl ?_
    refine r_imul C 29 dX5_bestReturn_28 rfl ?_
    refine r_iadd C 30 dX5_bestReturn_29 rfl ?_
    refine r_iconst C 31 (v := 2) dX5_bestReturn_30 rfl (by decide) ?_
    refine r_iadd C 32 dX5_bestReturn_31 rfl ?_
    obtain ⟨o32, h⟩ := h
    refine r_iald C 33 dX5_bestReturn_32 rfl kd_210 o32 ?_
    refine r_nmI (fun v33 e33 => ?_)
    have h := h v33 e33
    refine r_istore_n C 34 [(2, .int v33), (0, .ref 209), (1, .int p0)] dX5_bestReturn_33 rfl (by decide) rfl ?_
    refine r_iconst C 35 (v := (-1)) dX5_bestReturn_34 rfl (by decide) ?_
    refine r_istore_n C 36 [(3, .int (-1)), (2, .int v33), (0, .ref 209), (1, .int p0)] dX5_bestReturn_35 rfl (by decide) rfl ?_
    refine r_lconst C 37 (v := 0) dX5_bestReturn_36 rfl rfl ?_
    refine r_lstore C 39 [(4, .long 0), (3, .int (-1)), (2, .int v33), (0, .ref 209), (1, .int p0)] dX5_bestReturn_37 rfl (by decide) rfl ?_
    refine r_sipush C 42 (v := 200) dX5_bestReturn_39 rfl (by decide) ?_
    refine r_istore C 44 [(6, .int 200), (4, .long 0), (3, .int (-1)), (2, .int v33), (0, .ref 209), (1, .int p0)] dX5_bestReturn_42 rfl (by decide) rfl ?_
    exact Ws_pick [4, 5, 3, 2, 1, 0] rfl h
  · have h := h.2 c10
    refine r_aload_n (j := 0) C 14 dX5_bestReturn_13 rfl rfl ?_
    refine r_iconst C 15 (v := 1) dX5_bestReturn_14 rfl (by decide) ?_
    refine r_cVI (as := [.int 1]) (S := []) C r.px 18 (ct_X5_raises _ _ _ _ h) dX5_bestReturn_15 rfl cl7 kd_209 wd_40 wd_1325 rfl wd_1323 wd_1326 wd_95 yd_X5_raises ⟨Nat.le_of_ble_eq_true rfl, Nat.le_of_ble_eq_true rfl⟩ (Nat.le_of_ble_eq_true rfl) (by decide) (fun r15 σ15 h => ?_)
    exact r_iret (S := []) C r dX5_bestReturn_18 (by decide) rfl h
set_option maxRecDepth 4000 in
theorem sg_X5_bestReturn_44 {x : Ctx} {K : Int32 → Mem → Prop} {X : String → Mem → Prop} (C : Cx x RX5 cX5_bestReturn 7) (r : RtI x 7 0 (some .int) K X) (i1 : Int32) (i2 : Int32) (i3 : Int32) (l4 : Int64) (i6 : Int32)  (σ : Mem) (h : (600 < i6 → (vp_in ((48 + (6 * i1)) + 2) 108) ∧ (∀ σ120 : Mem, σ120 = wi σ 210 (((48 + (6 * i1)) + 2)).toNatClampNeg i2 → K i3 σ120)) ∧ (¬ 600 < i6 → (vp_in ((48 + (6 * i1)) + 2) 108) ∧ (∀ σ67 : Mem, σ67 = wi σ 210 (((48 + (6 * i1)) + 2)).toNatClampNeg i6 → sp_X5_looks  σ67 (fun σ69 => (i3 < 0 → sp_X5_pays i1 σ69 (fun r95 σ95 => ∀ v100 : Int32, v100 = i6 + 50 → Ws x 0 44 [(0, .ref 209), (1, .int i1), (2, .int i2), (3, .int i6), (4, .long r95), (6, .int v100)] [] σ95) X) ∧ (¬ i3 < 0 → sp_X5_pays i1 σ69 (fun r78 σ78 => (r78 < l4 → sp_X5_pays i1 σ78 (fun r95 σ95 => ∀ v100 : Int32, v100 = i6 + 50 → Ws x 0 44 [(0, .ref 209), (1, .int i1), (2, .int i2), (3, .int i6), (4, .long r95), (6, .int v100)] [] σ95) X) ∧ (¬ r78 < l4 → ∀ v100 : Int32, v100 = i6 + 50 → Ws x 0 44 [(0, .ref 209), (1, .int i1), (2, .int i2), (3, .int i3), (4, .long l4), (6, .int v100)] [] σ78)) X)) X))) : Ws x 0 44 [(0, .ref 209), (1, .int i1), (2, .int i2), (3, .int i3), (4, .long l4), (6, .int i6)] [] σ := by
  refine r_iload (j := 5) C 46 dX5_bestReturn_44 rfl rfl ?_
  refine r_sipush C 49 (v := 600) dX5_bestReturn_46 rfl (by decide) ?_
  refine r_icmp_gt C 106 52 dX5_bestReturn_49 (by decide) rfl (fun c49 => ?_) (fun c49 => ?_)
  · have h := h.1 c49
    refine r_aload_n (j := 0) C 107 dX5_bestReturn_106 rfl rfl ?_
    refine r_get (k := 1) C cl7 110 dX5_bestReturn_107 rfl kd_209 (by decide) wd_1213 (.ref 210) (fun _ => rfl) ?_
    refine r_bipush C 112 (v := 48) dX5_bestReturn_110 rfl (by decide) ?_
    refine r_bipush C 114 (v := 6) dX5_bestReturn_112 rfl (by decide) ?_
    refine r_iload_n (j := 1) C 115 dX5_bestReturn_114 rfl rfl ?_
    refine r_imul C 116 dX5_bestReturn_115 rfl ?_
    refine r_iadd C 117 dX5_bestReturn_116 rfl ?_
    refine r_iconst C 118 (v := 2) dX5_bestReturn_117 rfl (by decide) ?_
    refine r_iadd C 119 dX5_bestReturn_118 rfl ?_
    refine r_iload_n (j := 2) C 120 dX5_bestReturn_119 rfl rfl ?_
    obtain ⟨o120, h⟩ := h
    refine r_iast C 121 dX5_bestReturn_120 rfl kd_210 o120 ?_
    refine r_nmS (fun σ120 e120 => ?_)
    have h := h σ120 e120
    refine r_iload_n (j := 3) C 122 dX5_bestReturn_121 rfl rfl ?_
    exact r_iret (S := []) C r dX5_bestReturn_122 (by decide) rfl h
  · have h := h.2 c49
    refine r_aload_n (j := 0) C 53 dX5_bestReturn_52 rfl rfl ?_
    refine r_get (k := 1) C cl7 56 dX5_bestReturn_53 rfl kd_209 (by decide) wd_1213 (.ref 210) (fun _ => rfl) ?_
    refine r_bipush C 58 (v := 48) dX5_bestReturn_56 rfl (by decide) ?_
    refine r_bipush C 60 (v := 6) dX5_bestReturn_58 rfl (by decide) ?_
    refine r_iload_n (j := 1) C 61 dX5_bestReturn_60 rfl rfl ?_
    refine r_imul C 62 dX5_bestReturn_61 rfl ?_
    refine r_iadd C 63 dX5_bestReturn_62 rfl ?_
    refine r_iconst C 64 (v := 2) dX5_bestReturn_63 rfl (by decide) ?_
    refine r_iadd C 65 dX5_bestReturn_64 rfl ?_
    refine r_iload (j := 5) C 67 dX5_bestReturn_65 rfl rfl ?_
    obtain ⟨o67, h⟩ := h
    refine r_iast C 68 dX5_bestReturn_67 rfl kd_210 o67 ?_
    refine r_nmS (fun σ67 e67 => ?_)
    have h := h σ67 e67
    refine r_aload_n (j := 0) C 69 dX5_bestReturn_68 rfl rfl ?_
    refine r_cVV (as := []) (S := []) C r.px 72 (ct_X5_looks  _ _ _ h) dX5_bestReturn_69 rfl cl7 kd_209 wd_56 wd_1428 rfl wd_1426 wd_1429 wd_95 yd_X5_looks ⟨Nat.le_of_ble_eq_true rfl, Nat.le_of_ble_eq_true rfl⟩ (Nat.le_of_ble_eq_true rfl) (by decide) (fun σ69 h => ?_)
    refine r_iload_n (j := 3) C 73 dX5_bestReturn_72 rfl rfl ?_
    refine r_if_lt C 90 76 dX5_bestReturn_73 (by decide) rfl (fun c73 => ?_) (fun c73 => ?_)
    · have h := h.1 c73
      refine r_iload (j := 5) C 92 dX5_bestReturn_90 rfl rfl ?_
      refine r_istore_n C 93 [(3, .int i6), (0, .ref 209), (1, .int i1), (2, .int i2), (4, .long l4), (6, .int i6)] dX5_bestReturn_92 rfl (by decide) rfl ?_
      refine r_aload_n (j := 1) C 94 dX5_bestReturn_93 rfl rfl ?_
      refine r_iload_n (j := 2) C 95 dX5_bestReturn_94 rfl rfl ?_
      refine r_cVL (as := [.int i1]) (S := []) C r.px 98 (ct_X5_pays _ _ _ _ h) dX5_bestReturn_95 rfl cl7 kd_209 wd_78 wd_1528 rfl wd_1526 wd_1529 wd_95 yd_X5_pays ⟨Nat.le_of_ble_eq_true rfl, Nat.le_of_ble_eq_true rfl⟩ (Nat.le_of_ble_eq_true rfl) (by decide) (fun r95 σ95 h => ?_)
      refine r_lstore C 100 [(4, .long r95), (3, .int i6), (0, .ref 209), (1, .int i1), (2, .int i2), (6, .int i6)] dX5_bestReturn_98 rfl (by decide) rfl ?_
      obtain ⟨v100, e100⟩ : ∃ y : Int32, y = i6 + 50 := ⟨_, rfl⟩
      have h := h v100 e100
      refine r_iinc (j := 5) C 103 [(6, .int v100), (4, .long r95), (3, .int i6), (0, .ref 209), (1, .int i1), (2, .int i2)] dX5_bestReturn_100 rfl rfl (by rw [e100]; rfl) (by decide) rfl ?_
      refine r_goto C 44 dX5_bestReturn_103 (by decide) ?_
      exact Ws_pick [3, 4, 5, 2, 1, 0] rfl h
    · have h := h.2 c73
      refine r_aload_n (j := 0) C 77 dX5_bestReturn_76 rfl rfl ?_
      refine r_iload_n (j := 1) C 78 dX5_bestReturn_77 rfl rfl ?_
      refine r_cVL (as := [.int i1]) (S := []) C r.px 81 (ct_X5_pays _ _ _ _ h) dX5_bestReturn_78 rfl cl7 kd_209 wd_78 wd_1528 rfl wd_1526 wd_1529 wd_95 yd_X5_pays ⟨Nat.le_of_ble_eq_true rfl, Nat.le_of_ble_eq_true rfl⟩ (Nat.le_of_ble_eq_true rfl) (by decide) (fun r78 σ78 h => ?_)
      refine r_lload (j := 4) C 83 dX5_bestReturn_81 rfl rfl ?_
      refine r_lcmp_lt C 84 90 87 dX5_bestReturn_83 rfl dX5_bestReturn_84 (by decide) rfl (fun c83 => ?_) (fun c83 => ?_)
      · have h := h.1 c83
        refine r_iload (j := 5) C 92 dX5_bestReturn_90 rfl rfl ?_
        refine r_istore_n C 93 [(3, .int i6), (0, .ref 209), (1, .int i1), (2, .int i2), (4, .long l4), (6, .int i6)] dX5_bestReturn_92 rfl (by decide) rfl ?_
        refine r_aload_n (j := 1) C 94 dX5_bestReturn_93 rfl rfl ?_
        refine r_iload_n (j := 2) C 95 dX5_bestReturn_94 rfl rfl ?_
        refine r_cVL (as := [.int i1]) (S := []) C r.px 98 (ct_X5_pays _ _ _ _ h) dX5_bestReturn_95 rfl cl7 kd_209 wd_78 wd_1528 rfl wd_1526 wd_1529 wd_95 yd_X5_pays ⟨Nat.le_of_ble_eq_true rfl, Nat.le_of_ble_eq_true rfl⟩ (Nat.le_of_ble_eq_true rfl) (by decide) (fun r95 σ95 h => ?_)
        refine r_lstore C 100 [(4, .long r95), (3, .int i6), (0, .ref 209), (1, .int i1), (2, .int i2), (6, .int i6)] dX5_bestReturn_98 rfl (by decide) rfl ?_
        obtain ⟨v100, e100⟩ : ∃ y : Int32, y = i6 + 50 := ⟨_, rfl⟩
        have h := h v100 e100
        refine r_iinc (j := 5) C 103 [(6, .int v100), (4, .long r95), (3, .int i6), (0, .ref 209), (1, .int i1), (2, .int i2)] dX5_bestReturn_100 rfl rfl (by rw [e100]; rfl) (by decide) rfl ?_
        refine r_goto C 44 dX5_bestReturn_103 (by decide) ?_
        exact Ws_pick [3, 4, 5, 2, 1, 0] rfl h
      · have h := h.2 c83
        refine r_goto C 100 dX5_bestReturn_87 (by decide) ?_
        obtain ⟨v100, e100⟩ : ∃ y : Int32, y = i6 + 50 := ⟨_, rfl⟩
        have h := h v100 e100
        refine r_iinc (j := 5) C 103 [(6, .int v100), (0, .ref 209), (1, .int i1), (2, .int i2), (3, .int i3), (4, .long l4)] dX5_bestReturn_100 rfl rfl (by rw [e100]; rfl) (by decide) rfl ?_
        refine r_goto C 44 dX5_bestReturn_103 (by decide) ?_
        exact Ws_pick [1, 2, 3, 4, 5, 0] rfl h
theorem vc_X5_bestReturn {x : Ctx} {K : Int32 → Mem → Prop} {X : String → Mem → Prop} (C : Cx x RX5 cX5_bestReturn 7) (r : RtI x 7 0 (some .int) K X) (p0 : Int32) (σ : Mem) (h : sp_X5_bestReturn p0 σ K X) : Ws x 0 0 [(0, .ref 209), (1, .int p0)] [] σ := by
  obtain ⟨w, g, hw, hr, h0, hK⟩ := h
  refine sg_X5_bestReturn_0 C r _ σ (fun σ2 e2 => i_hasM (w := w) (fun k hk => by rw [e2, wi_i, if_neg (by omega)]; exact hr k hk) (fun n hn e hh => ⟨fun _ => ?_, fun q => absurd q (by decide)⟩) (fun a => ⟨fun q => absurd rfl q, fun _ => i_X5_raises (by rw [e2]; exact h0 a)⟩))
  subst e
  obtain ⟨py, hpy, hK⟩ := hK n hn rfl hh
  have eix : (48 + (6 * nI n)) + 2 = nI (48 + 6 * n + 2) := ix_st'
  have ecl : (nI (48 + 6 * n + 2)).toNatClampNeg = 48 + 6 * n + 2 := n_cl (by omega)
  have hin : vp_in (nI (48 + 6 * n + 2)) 108 := n_inR (by omega) (by decide)
  rw [eix, ecl]
  refine ⟨hin, fun v33 e33 => ?_⟩
  have hr2 : ∀ k, k < 108 → σ2.1 210 k = w k := fun k hk => by rw [e2, wi_i, if_neg (by omega)]; exact hr k hk
  have rgt : ∀ m, m ≤ 8 → rg (nI (200 + 50 * m)) 200 600 := fun m hm => ⟨200 + 50 * m, by omega, by omega, rfl⟩
  have hrow : ∀ {t : Int32} {τ : Mem}, ChM (wi σ2 210 (48 + 6 * n + 2) t) τ → ∀ k, k < 108 → τ.1 210 k = wr w n t k := fun hC k hk => by
    rw [hC.i210, wi_i]
    by_cases c : k = 48 + 6 * n + 2
    · rw [if_pos ⟨rfl, c⟩, c, wr_at]
    · rw [if_neg (fun q => c q.2), wr_ne c, hr2 k hk]
  -- a look with the m-th temperature
  have st : ∀ (m : Nat) (t : Int32) (τ : Mem) (NX : Mem → Prop), m ≤ 8 → ChM (wi σ2 210 (48 + 6 * n + 2) t) τ → (∀ υ, ChM (wi σ2 210 (48 + 6 * n + 2) (nI (200 + 50 * m))) υ → (∀ Q : Int64 → Mem → Prop, Q (py m) υ → sp_X5_pays (nI n) υ Q X) → NX υ) → sp_X5_looks (wi τ 210 (48 + 6 * n + 2) (nI (200 + 50 * m))) (fun σ69 => NX σ69) X := by
    intro m t τ NX hm hC hNX
    obtain ⟨c, R, D, T, B, S, z, f, ⟨s1, s2, s3⟩, ev⟩ := hpy m hm
    have hw' := hw.wr (n := n) (rgt m hm)
    have hC1 := hC.ix (t' := nI (200 + 50 * m))
    refine ⟨_, g, c, R, D, T, B, S, z, f, hw', hrow hC1, s1, s2, s3, fun υ hM hR => hNX υ (hC1.trans hM) (fun Q hQ => ?_)⟩
    have hr' := hrow (hC1.trans hM)
    have hd : D R n ≤ 999 := by rw [(s2.2.2.1 R s2.1 (Nat.le_refl R)).1]; exact (drNx_bd hw' hn).1
    refine i_X5_pays hw' hr' hn (wr_has.mpr hh) ⟨hR.2.2.1 n hn, hd⟩ ⟨(hR.2.2.2.2.2.2.1 n hn).1, (s3.2.2 n hn).1.2.2⟩ ?_
    rw [← ev]; exact hQ
  have H : ∀ (q m : Nat) (t : Int32) (τ : Mem), q + m = 8 → ChM (wi σ2 210 (48 + 6 * n + 2) t) τ → Ws x 0 44 [(0, .ref 209), (1, .int (nI n)), (2, .int v33), (3, .int (nI (200 + 50 * (bsF py m).1))), (4, .long (bsF py m).2), (6, .int (nI (200 + 50 * (m + 1))))] [] τ := by
    intro q
    induction q with
    | zero =>
      intro m t τ hm hC
      have e : m = 8 := by omega
      subst e
      refine sg_X5_bestReturn_44 C r _ _ _ _ _ _ ⟨fun _ => ?_, fun c => absurd (by decide) c⟩
      rw [eix, ecl]
      refine ⟨hin, fun σ120 e120 => ?_⟩
      rw [e120]
      refine hK _ ?_
      have := hC.ix (t' := v33)
      rw [wi_same (σ := σ2) e33.symm] at this
      rw [← e2]; exact this
    | succ q ih =>
      intro m t τ hm hC
      have hb := bsF_le py m
      refine sg_X5_bestReturn_44 C r _ _ _ _ _ _ ⟨fun c => absurd c ?_, fun _ => ?_⟩
      · rw [show (600 : Int32) = nI 600 from rfl, nI_ltI (by omega) (by omega)]; omega
      rw [eix, ecl]
      refine ⟨hin, fun σ67 e67 => ?_⟩
      rw [e67]
      refine st (m + 1) t τ _ (by omega) hC (fun υ hC' hpays => ⟨fun c => absurd c (nI_pos (by omega)), fun _ => hpays _ ?_⟩)
      have := ih (m + 1) _ υ (by omega) hC'
      rw [bsF] at this
      have e50 : nI (200 + 50 * (m + 1)) + 50 = nI (200 + 50 * (m + 1 + 1)) := by rw [show (50 : Int32) = nI 50 from rfl, nI_add]; congr 1
      refine ⟨fun q => hpays _ (fun v100 e100 => ?_), fun q v100 e100 => ?_⟩
      · rw [if_pos q] at this
        rw [e100, e50]; exact this
      · rw [if_neg q] at this
        rw [e100, e50]; exact this
  have hC0 : ChM (wi σ2 210 (48 + 6 * n + 2) v33) σ2 := by rw [wi_same (σ := σ2) e33.symm]; exact ChM.rfl' σ2
  refine sg_X5_bestReturn_44 C r _ _ _ _ _ _ ⟨fun c => absurd c (by decide), fun _ => ?_⟩
  rw [eix, ecl]
  refine ⟨hin, fun σ67 e67 => ?_⟩
  rw [e67]
  refine st 0 v33 σ2 _ (by omega) hC0 (fun υ hC' hpays => ⟨fun _ => hpays _ (fun v100 e100 => ?_), fun c => absurd (by decide) c⟩)
  rw [e100]
  exact H 8 0 _ υ rfl hC'
theorem ct_X5_bestReturn (p0 : Int32) (σ : Mem) (K : Int32 → Mem → Prop) (X : String → Mem → Prop) (h : sp_X5_bestReturn p0 σ K X) : CtI yX5_bestReturn cX5_bestReturn 7 (some .int) 7 0 [.ref 209, .int p0] σ K X :=
  ctI_of (by decide +kernel) (Nat.le_of_ble_eq_true rfl) (fun x C r => vc_X5_bestReturn C r p0 σ h)
/-! HeatNetwork.bestReturn(I)I: level 9, exceptions 1 -/
def sp_X4_bestReturn (p0 : Int32) (σ : Mem) (K : Int32 → Mem → Prop) (X : String → Mem → Prop) : Prop := ∃ (w : Nat → Int32) (g : Gr), WFw w g ∧ NR σ 1 w g ∧ (¬ σ.1 0 11 = 0 → SettE w g σ) ∧ ((∀ n, n < 10 → p0 = nI n → ¬ hasW w n) → X "java/util/NoSuchElementException" σ) ∧ ∀ (n : Nat) (τ υ : Mem) (py : Nat → Int64), n < 10 → p0 = nI n → hasW w n → ChS σ τ → ChT τ υ → ¬ υ.1 0 11 = 0 → SettE w g υ → (∀ j, j ≤ 8 → PyOk w g n j (py j)) → K (nI (200 + 50 * (bsF py 8).1)) υ
set_option maxRecDepth 4000 in
theorem sg_X4_bestReturn_0 {x : Ctx} {K : Int32 → Mem → Prop} {X : String → Mem → Prop} (C : Cx x RX4 cX4_bestReturn 10) (r : RtI x 9 1 (some .int) K X) (p0 : Int32)  (σ : Mem) (h : sp_X4_needStation p0 σ (fun σ2 => sp_X4_settle  σ2 (fun σ6 => Ws x 1 22 [(0, .ref 0), (1, .int p0), (2, .int 200), (3, .long 9223372036854775807), (5, .int 200)] [] σ6) X) X) : Ws x 0 0 [(0, .ref 0), (1, .int p0)] [] σ := by
  refine r_aload_n (j := 0) C 1 dX4_bestReturn_0 rfl rfl ?_
  refine r_iload_n (j := 1) C 2 dX4_bestReturn_1 rfl rfl ?_
  refine r_cVV (as := [.int p0]) (S := []) C r.px 5 (ct_X4_needStation _ _ _ _ h) dX4_bestReturn_2 rfl cl6 kd_0 wd_28 wd_849 rfl wd_847 wd_850 wd_90 yd_X4_needStation ⟨Nat.le_of_ble_eq_true rfl, Nat.le_of_ble_eq_true rfl⟩ (Nat.le_of_ble_eq_true rfl) (by decide) (fun σ2 h => ?_)
  refine r_aload_n (j := 0) C 6 dX4_bestReturn_5 rfl rfl ?_
  refine r_cVV (as := []) (S := []) C r.px 9 (ct_X4_settle  _ _ _ h) dX4_bestReturn_6 rfl cl6 kd_0 wd_0 wd_411 rfl wd_409 wd_412 wd_90 yd_X4_settle ⟨Nat.le_of_ble_eq_true rfl, Nat.le_of_ble_eq_true rfl⟩ (Nat.le_of_ble_eq_true rfl) (by decide) (fun σ6 h => ?_)
  refine r_sipush C 12 (v := 200) dX4_bestReturn_9 rfl (by decide) ?_
  refine r_istore_n C 13 [(2, .int 200), (0, .ref 0), (1, .int p0)] dX4_bestReturn_12 rfl (by decide) rfl ?_
  refine r_ldc2 C 16 (v := 9223372036854775807) dX4_bestReturn_13 rfl wd_1147 ?_
  refine r_lstore_n C 17 [(3, .long 9223372036854775807), (2, .int 200), (0, .ref 0), (1, .int p0)] dX4_bestReturn_16 rfl (by decide) rfl ?_
  refine r_sipush C 20 (v := 200) dX4_bestReturn_17 rfl (by decide) ?_
  refine r_istore C 22 [(5, .int 200), (3, .long 9223372036854775807), (2, .int 200), (0, .ref 0), (1, .int p0)] dX4_bestReturn_20 rfl (by decide) rfl ?_
  exact Ws_pick [3, 4, 2, 1, 0] rfl h
set_option maxRecDepth 4000 in
theorem sg_X4_bestReturn_22 {x : Ctx} {K : Int32 → Mem → Prop} {X : String → Mem → Prop} (C : Cx x RX4 cX4_bestReturn 10) (r : RtI x 9 1 (some .int) K X) (i1 : Int32) (i2 : Int32) (l3 : Int64) (i5 : Int32)  (σ : Mem) (h : (600 < i5 → K i2 σ) ∧ (¬ 600 < i5 → sp_X4_tryReturn i1 i5 σ (fun σ34 => sp_X2_stationHeat 66 29 i1 σ34 (fun r51 σ51 => sp_X0_countedHeat 29 i1 r51 σ51 (fun r54 σ54 => sp_X0_paymentFor 29 i1 r54 σ54 (fun r66 σ66 => (l3 ≤ r66 → ∀ v84 : Int32, v84 = i5 + 50 → Ws x 1 22 [(0, .ref 0), (1, .int i1), (2, .int i2), (3, .long l3), (5, .int v84)] [] σ66) ∧ (¬ l3 ≤ r66 → ∀ v84 : Int32, v84 = i5 + 50 → Ws x 1 22 [(0, .ref 0), (1, .int i1), (2, .int i5), (3, .long r66), (5, .int v84)] [] σ66)) X) X) X) X)) : Ws x 1 22 [(0, .ref 0), (1, .int i1), (2, .int i2), (3, .long l3), (5, .int i5)] [] σ := by
  refine r_iload (j := 4) C 24 dX4_bestReturn_22 rfl rfl ?_
  refine r_sipush C 27 (v := 600) dX4_bestReturn_24 rfl (by decide) ?_
  refine r_icmp_gt C 90 30 dX4_bestReturn_27 (by decide) rfl (fun c27 => ?_) (fun c27 => ?_)
  · have h := h.1 c27
    refine r_iload_n (j := 2) C 91 dX4_bestReturn_90 rfl rfl ?_
    exact r_iret (S := []) C r dX4_bestReturn_91 (by decide) rfl h
  · have h := h.2 c27
    refine r_aload_n (j := 0) C 31 dX4_bestReturn_30 rfl rfl ?_
    refine r_iload_n (j := 1) C 32 dX4_bestReturn_31 rfl rfl ?_
    refine r_iload (j := 4) C 34 dX4_bestReturn_32 rfl rfl ?_
    refine r_cVV (as := [.int i1, .int i5]) (S := []) C r.px 37 (ct_X4_tryReturn _ _ _ _ _ h) dX4_bestReturn_34 rfl cl6 kd_0 wd_39 wd_1138 rfl wd_1136 wd_1139 wd_90 yd_X4_tryReturn ⟨Nat.le_of_ble_eq_true rfl, Nat.le_of_ble_eq_true rfl⟩ (Nat.le_of_ble_eq_true rfl) (by decide) (fun σ34 h => ?_)
    refine r_aload_n (j := 0) C 38 dX4_bestReturn_37 rfl rfl ?_
    refine r_get (k := 2) C cl6 41 dX4_bestReturn_38 rfl kd_0 (by decide) wd_360 (.ref 29) (fun _ => rfl) ?_
    refine r_iload_n (j := 1) C 42 dX4_bestReturn_41 rfl rfl ?_
    refine r_aload_n (j := 0) C 43 dX4_bestReturn_42 rfl rfl ?_
    refine r_get (k := 6) C cl6 46 dX4_bestReturn_43 rfl kd_0 (by decide) wd_364 (.ref 66) (fun _ => rfl) ?_
    refine r_aload_n (j := 0) C 47 dX4_bestReturn_46 rfl rfl ?_
    refine r_get (k := 2) C cl6 50 dX4_bestReturn_47 rfl kd_0 (by decide) wd_360 (.ref 29) (fun _ => rfl) ?_
    refine r_iload_n (j := 1) C 51 dX4_bestReturn_50 rfl rfl ?_
    refine r_cVL (as := [.ref 29, .int i1]) (S := [.int i1, .ref 29]) C r.px 54 (ct_X2_stationHeat _ _ _ _ _ _ h) dX4_bestReturn_51 rfl cl4 kd_66 wd_896 wd_895 rfl wd_894 wd_897 wd_93 yd_X2_stationHeat ⟨Nat.le_of_ble_eq_true rfl, Nat.le_of_ble_eq_true rfl⟩ (Nat.le_of_ble_eq_true rfl) (by decide) (fun r51 σ51 h => ?_)
    refine r_cVL (as := [.int i1, .long r51]) (S := []) C r.px 57 (ct_X0_countedHeat _ _ _ _ _ _ h) dX4_bestReturn_54 rfl cl2 kd_29 wd_900 wd_899 rfl wd_898 wd_901 wd_91 yd_X0_countedHeat ⟨Nat.le_of_ble_eq_true rfl, Nat.le_of_ble_eq_true rfl⟩ (Nat.le_of_ble_eq_true rfl) (by decide) (fun r54 σ54 h => ?_)
    refine r_lstore C 59 [(6, .long r54), (0, .ref 0), (1, .int i1), (2, .int i2), (3, .long l3), (5, .int i5)] dX4_bestReturn_57 rfl (by decide) rfl ?_
    refine r_aload_n (j := 1) C 60 dX4_bestReturn_59 rfl rfl ?_
    refine r_get (k := 2) C cl6 63 dX4_bestReturn_60 rfl kd_0 (by decide) wd_360 (.ref 29) (fun _ => rfl) ?_
    refine r_iload_n (j := 2) C 64 dX4_bestReturn_63 rfl rfl ?_
    refine r_lload (j := 0) C 66 dX4_bestReturn_64 rfl rfl ?_
    refine r_cVL (as := [.int i1, .long r54]) (S := []) C r.px 69 (ct_X0_paymentFor _ _ _ _ _ _ h) dX4_bestReturn_66 rfl cl2 kd_29 wd_908 wd_907 rfl wd_906 wd_909 wd_91 yd_X0_paymentFor ⟨Nat.le_of_ble_eq_true rfl, Nat.le_of_ble_eq_true rfl⟩ (Nat.le_of_ble_eq_true rfl) (by decide) (fun r66 σ66 h => ?_)
    refine r_lstore C 71 [(8, .long r66), (6, .long r54), (0, .ref 0), (1, .int i1), (2, .int i2), (3, .long l3), (5, .int i5)] dX4_bestReturn_69 rfl (by decide) rfl ?_
    refine r_lload (j := 0) C 73 dX4_bestReturn_71 rfl rfl ?_
    refine r_lload_n (j := 5) C 74 dX4_bestReturn_73 rfl rfl ?_
    refine r_lcmp_ge C 75 84 78 dX4_bestReturn_74 rfl dX4_bestReturn_75 (by decide) rfl (fun c74 => ?_) (fun c74 => ?_)
    · have h := h.1 c74
      obtain ⟨v84, e84⟩ : ∃ y : Int32, y = i5 + 50 := ⟨_, rfl⟩
      have h := h v84 e84
      refine r_iinc (j := 6) C 87 [(5, .int v84), (8, .long r66), (6, .long r54), (0, .ref 0), (1, .int i1), (2, .int i2), (3, .long l3)] dX4_bestReturn_84 rfl rfl (by rw [e84]; rfl) (by decide) rfl ?_
      refine r_goto C 22 dX4_bestReturn_87 (by decide) ?_
      exact Ws_pick [3, 4, 5, 6, 0] rfl h
    · have h := h.2 c74
      refine r_iload (j := 6) C 80 dX4_bestReturn_78 rfl rfl ?_
      refine r_istore_n C 81 [(2, .int i5), (8, .long r66), (6, .long r54), (0, .ref 0), (1, .int i1), (3, .long l3), (5, .int i5)] dX4_bestReturn_80 rfl (by decide) rfl ?_
      refine r_lload (j := 1) C 83 dX4_bestReturn_81 rfl rfl ?_
      refine r_lstore_n C 84 [(3, .long r66), (2, .int i5), (8, .long r66), (6, .long r54), (0, .ref 0), (1, .int i1), (5, .int i5)] dX4_bestReturn_83 rfl (by decide) rfl ?_
      obtain ⟨v84, e84⟩ : ∃ y : Int32, y = i5 + 50 := ⟨_, rfl⟩
      have h := h v84 e84
      refine r_iinc (j := 6) C 87 [(5, .int v84), (3, .long r66), (2, .int i5), (8, .long r66), (6, .long r54), (0, .ref 0), (1, .int i1)] dX4_bestReturn_84 rfl rfl (by rw [e84]; rfl) (by decide) rfl ?_
      refine r_goto C 22 dX4_bestReturn_87 (by decide) ?_
      exact Ws_pick [5, 6, 2, 1, 0] rfl h
theorem vc_X4_bestReturn {x : Ctx} {K : Int32 → Mem → Prop} {X : String → Mem → Prop} (C : Cx x RX4 cX4_bestReturn 10) (r : RtI x 9 1 (some .int) K X) (p0 : Int32) (σ : Mem) (h : sp_X4_bestReturn p0 σ K X) : Ws x 0 0 [(0, .ref 0), (1, .int p0)] [] σ := by
  obtain ⟨w, g, hw, hN, hS, h0, hK⟩ := h
  refine sg_X4_bestReturn_0 C r _ σ (i_needSt hw hN (fun n hn e hh => i_settle hw hN hS (fun τ c R D T B S z hC hSt h11 => ?_)) h0)
  subst e
  have hNτ : NR τ 1 w g := hN.fr (fun o k ho => hC.1 _ k (by omega) (by omega))
  have rgt : ∀ m, m ≤ 8 → rg (nI (200 + 50 * m)) 200 600 := fun m hm => ⟨200 + 50 * m, by omega, by omega, rfl⟩
  have st : ∀ (m : Nat) (υ : Mem) (NX : Int64 → Mem → Prop), m ≤ 8 → ChT τ υ → (∀ v υ', ChT τ υ' → PyOk w g n m v → ¬ (9223372036854775807 : Int64) ≤ v → NX v υ') → sp_X4_tryReturn (nI n) (nI (200 + 50 * m)) υ (fun σ34 => sp_X2_stationHeat 66 29 (nI n) σ34 (fun r51 σ51 => sp_X0_countedHeat 29 (nI n) r51 σ51 (fun r54 σ54 => sp_X0_paymentFor 29 (nI n) r54 σ54 (fun r66 σ66 => NX r66 σ66) X) X) X) X := by
    intro m υ NX hm hT hNX
    have hw' := hw.wr (n := n) (rgt m hm)
    refine i_tryReturn hw (hNτ.fr (fun o k ho => (hT.1 _ k (by omega)).1)) (hSt.1.cg (fun b k p q => (hT.1 b k (by omega)).1)) hn (rgt m hm) (fun υ' R' D' T' B' S' z' hT' hN' hH' hF' => ?_)
    have hh' : hasW (wr w n (nI (200 + 50 * m))) n := wr_has.mpr hh
    have d1 := hF'.2.1 n hn
    have d2 := hF'.2.2.1 n hn
    refine i_X2_stationHeat staA_66 netA_29 hw' hN' hn hh' ⟨d1.1, d1.2.1⟩ ⟨d2.1, d2.2.1.2⟩ ?_
    refine i_X0_countedHeat netA_29 hN' hn hh' (i_X0_paymentFor netA_29 hN' hn hh' ?_)
    exact hNX _ υ' (hT.trans hT') ⟨c, R', D', T', B', S', z', _, ⟨hSt.1.1, hH', hF'.lk⟩, rfl⟩ (pyW_big _ _ _)
  have H : ∀ (q m : Nat) (υ : Mem) (py : Nat → Int64), q + m = 8 → ChT τ υ → (∀ j, j ≤ m → PyOk w g n j (py j)) → Ws x 1 22 [(0, .ref 0), (1, .int (nI n)), (2, .int (nI (200 + 50 * (bsF py m).1))), (3, .long (bsF py m).2), (5, .int (nI (200 + 50 * (m + 1))))] [] υ := by
    intro q
    induction q with
    | zero =>
      intro m υ py hm hT hp
      have e : m = 8 := by omega
      subst e
      refine sg_X4_bestReturn_22 C r _ _ _ _ _ ⟨fun _ => ?_, fun c => absurd (by decide) c⟩
      refine hK n τ υ py hn rfl hh hC hT ?_ ⟨c, R, D, T, B, S, z, hSt.fs ⟨(hT.1 0 11 (by omega)).1, fun a k p q => (hT.1 a k (by omega)).1, fun a k p q => (hT.1 a k (by omega)).2⟩⟩ hp
      rw [(hT.1 0 11 (by omega)).1]; exact h11
    | succ q ih =>
      intro m υ py hm hT hp
      refine sg_X4_bestReturn_22 C r _ _ _ _ _ ⟨fun c => absurd c ?_, fun _ => st (m + 1) υ _ (by omega) hT (fun v υ' hT' hv _ => ?_)⟩
      · rw [show (600 : Int32) = nI 600 from rfl, nI_ltI (by omega) (by omega)]; omega
      · have hpy : ∀ j, j ≤ m + 1 → PyOk w g n j ((fun j => if j = m + 1 then v else py j) j) := fun j hj => by
          show PyOk w g n j (if j = m + 1 then v else py j)
          by_cases c : j = m + 1
          · rw [if_pos c, c]; exact hv
          · rw [if_neg c]; exact hp j (by omega)
        have eb : bsF (fun j => if j = m + 1 then v else py j) m = bsF py m := bsF_cg m (fun j hj => if_neg (by omega))
        have es : bsF (fun j => if j = m + 1 then v else py j) (m + 1) = if v < (bsF py m).2 then (m + 1, v) else bsF py m := by
          rw [bsF, eb, if_pos rfl]
        have := ih (m + 1) υ' (fun j => if j = m + 1 then v else py j) (by omega) hT' hpy
        rw [es] at this
        have e50 : nI (200 + 50 * (m + 1)) + 50 = nI (200 + 50 * (m + 1 + 1)) := by rw [show (50 : Int32) = nI 50 from rfl, nI_add]; congr 1
        refine ⟨fun q v84 e84 => ?_, fun q v84 e84 => ?_⟩
        · rw [if_neg (Int64.not_lt.mpr q)] at this
          rw [e84, e50]; exact this
        · rw [if_pos (Int64.not_le.mp q)] at this
          rw [e84, e50]; exact this
  refine sg_X4_bestReturn_22 C r _ _ _ _ _ ⟨fun c => absurd c (by decide), fun _ => st 0 τ _ (by omega) ⟨fun _ _ _ => ⟨rfl, rfl⟩, rfl⟩ (fun v υ' hT' hv hb => ⟨fun q => absurd q hb, fun _ v84 e84 => ?_⟩)⟩
  rw [e84]
  exact H 8 0 υ' (fun _ => v) rfl hT' (fun j hj => by
    have : j = 0 := by omega
    subst this; exact hv)
theorem ct_X4_bestReturn (p0 : Int32) (σ : Mem) (K : Int32 → Mem → Prop) (X : String → Mem → Prop) (h : sp_X4_bestReturn p0 σ K X) : CtI yX4_bestReturn cX4_bestReturn 10 (some .int) 9 1 [.ref 0, .int p0] σ K X :=
  ctI_of (by decide +kernel) (Nat.le_of_ble_eq_true rfl) (fun x C r => vc_X4_bestReturn C r p0 σ h)
