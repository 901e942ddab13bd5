/-! HeatNetworkModel.out(I)J: level 3, exceptions 0 -/
def sp_X5_out (p0 : Int32) (σ : Mem) (K : Int64 → Mem → Prop) (X : String → Mem → Prop) : Prop := ∃ (g : Gr) (c : Lp) (dr B : Nat → Nat) (n : Nat), p0 = nI n ∧ WG g ∧ GM σ g ∧ LP0 g (bfs g 0) c ∧ FarM (bfs g 0) σ ∧ LoM c σ ∧ n ∈ nds (bfs g 0) ∧ (σ.1 225 n = nI (dr n) ∧ dr n ≤ 999) ∧ (∀ e, e ∈ nds (bfs g 0) → di (bfs g 0) n < di (bfs g 0) e → σ.2.1 227 e = lN (B e)) ∧ K (lN (outF g (bfs g 0) c dr B n)) σ
set_option maxRecDepth 4000 in
theorem sg_X5_out_0 {x : Ctx} {K : Int64 → Mem → Prop} {X : String → Mem → Prop} (C : Cx x RX5 cX5_out 6) (r : RtL x 3 0 (some .long) K X) (p0 : Int32)  (σ : Mem) (h : (vp_in p0 10) ∧ (∀ v7 : Int64, v7 = ((σ.1 225 p0.toNatClampNeg)).toInt64 → Ws x 0 11 [(0, .ref 209), (1, .int p0), (2, .long v7), (4, .int 0)] [] σ)) : Ws x 0 0 [(0, .ref 209), (1, .int p0)] [] σ := by
  refine r_aload_n (j := 0) C 1 dX5_out_0 rfl rfl ?_
  refine r_get (k := 23) C cl7 4 dX5_out_1 rfl kd_209 (by decide) wd_1235 (.ref 225) (fun _ => rfl) ?_
  refine r_iload_n (j := 1) C 5 dX5_out_4 rfl rfl ?_
  obtain ⟨o5, h⟩ := h
  refine r_iald C 6 dX5_out_5 rfl kd_225 o5 ?_
  refine r_i2l C 7 dX5_out_6 rfl ?_
  refine r_nmL (fun v7 e7 => ?_)
  have h := h v7 e7
  refine r_lstore_n C 8 [(2, .long v7), (0, .ref 209), (1, .int p0)] dX5_out_7 rfl (by decide) rfl ?_
  refine r_iconst C 9 (v := 0) dX5_out_8 rfl (by decide) ?_
  refine r_istore C 11 [(4, .int 0), (2, .long v7), (0, .ref 209), (1, .int p0)] dX5_out_9 rfl (by decide) rfl ?_
  exact Ws_pick [2, 3, 1, 0] rfl h
set_option maxRecDepth 4000 in
theorem sg_X5_out_11 {x : Ctx} {K : Int64 → Mem → Prop} {X : String → Mem → Prop} (C : Cx x RX5 cX5_out 6) (r : RtL x 3 0 (some .long) K X) (i1 : Int32) (l2 : Int64) (i4 : Int32)  (σ : Mem) (h : sp_X5_pipes  σ (fun r14 σ14 => (r14 ≤ i4 → K l2 σ14) ∧ (¬ r14 ≤ i4 → sp_X5_across i4 i1 σ14 (fun r24 σ24 => (r24 < 0 → ∀ v69 : Int32, v69 = i4 + 1 → Ws x 0 11 [(0, .ref 209), (1, .int i1), (2, .long l2), (4, .int v69)] [] σ24) ∧ (¬ r24 < 0 → sp_X5_isLoopPipe i4 σ24 (fun r37 σ37 => (¬ r37 = 0 → ∀ v69 : Int32, v69 = i4 + 1 → Ws x 0 11 [(0, .ref 209), (1, .int i1), (2, .long l2), (4, .int v69)] [] σ37) ∧ (r37 = 0 → (vp_in r24 10) ∧ ((vp_in i1 10) ∧ (((σ37.1 219 r24.toNatClampNeg) ≤ (σ37.1 219 i1.toNatClampNeg) → ∀ v69 : Int32, v69 = i4 + 1 → Ws x 0 11 [(0, .ref 209), (1, .int i1), (2, .long l2), (4, .int v69)] [] σ37) ∧ (¬ (σ37.1 219 r24.toNatClampNeg) ≤ (σ37.1 219 i1.toNatClampNeg) → (vp_in r24 10) ∧ (∀ v68 : Int64, v68 = (l2 + (σ37.2.1 227 r24.toNatClampNeg)) → ∀ v69 : Int32, v69 = i4 + 1 → Ws x 0 11 [(0, .ref 209), (1, .int i1), (2, .long v68), (4, .int v69)] [] σ37)))))) X)) X)) X) : Ws x 0 11 [(0, .ref 209), (1, .int i1), (2, .long l2), (4, .int i4)] [] σ := by
  refine r_iload (j := 3) C 13 dX5_out_11 rfl rfl ?_
  refine r_aload_n (j := 0) C 14 dX5_out_13 rfl rfl ?_
  refine r_cVI (as := []) (S := [.int i4]) C r.px 17 (ct_X5_pipes  _ _ _ h) dX5_out_14 rfl cl7 kd_209 wd_45 wd_1360 rfl wd_1358 wd_1361 wd_95 yd_X5_pipes ⟨Nat.le_of_ble_eq_true rfl, Nat.le_of_ble_eq_true rfl⟩ (Nat.le_of_ble_eq_true rfl) (by decide) (fun r14 σ14 h => ?_)
  refine r_icmp_ge C 75 20 dX5_out_17 (by decide) rfl (fun c17 => ?_) (fun c17 => ?_)
  · have h := h.1 c17
    refine r_lload_n (j := 2) C 76 dX5_out_75 rfl rfl ?_
    exact r_lret (S := []) C r dX5_out_76 (by decide) h
  · have h := h.2 c17
    refine r_aload_n (j := 0) C 21 dX5_out_20 rfl rfl ?_
    refine r_iload (j := 3) C 23 dX5_out_21 rfl rfl ?_
    refine r_iload_n (j := 1) C 24 dX5_out_23 rfl rfl ?_
    refine r_cVI (as := [.int i4, .int i1]) (S := []) C r.px 27 (ct_X5_across _ _ _ _ _ h) dX5_out_24 rfl cl7 kd_209 wd_46 wd_1364 rfl wd_1362 wd_1365 wd_95 yd_X5_across ⟨Nat.le_of_ble_eq_true rfl, Nat.le_of_ble_eq_true rfl⟩ (Nat.le_of_ble_eq_true rfl) (by decide) (fun r24 σ24 h => ?_)
    refine r_istore C 29 [(5, .int r24), (0, .ref 209), (1, .int i1), (2, .long l2), (4, .int i4)] dX5_out_27 rfl (by decide) rfl ?_
    refine r_iload (j := 0) C 31 dX5_out_29 rfl rfl ?_
    refine r_if_lt C 69 34 dX5_out_31 (by decide) rfl (fun c31 => ?_) (fun c31 => ?_)
    · have h := h.1 c31
      obtain ⟨v69, e69⟩ : ∃ y : Int32, y = i4 + 1 := ⟨_, rfl⟩
      have h := h v69 e69
      refine r_iinc (j := 4) C 72 [(4, .int v69), (5, .int r24), (0, .ref 209), (1, .int i1), (2, .long l2)] dX5_out_69 rfl rfl (by rw [e69]; rfl) (by decide) rfl ?_
      refine r_goto C 11 dX5_out_72 (by decide) ?_
      exact Ws_pick [2, 3, 4, 0] rfl h
    · have h := h.2 c31
      refine r_aload_n (j := 1) C 35 dX5_out_34 rfl rfl ?_
      refine r_iload (j := 4) C 37 dX5_out_35 rfl rfl ?_
      refine r_cVI (as := [.int i4]) (S := []) C r.px 40 (ct_X5_isLoopPipe _ _ _ _ h) dX5_out_37 rfl cl7 kd_209 wd_62 wd_1454 rfl wd_1452 wd_1455 wd_95 yd_X5_isLoopPipe ⟨Nat.le_of_ble_eq_true rfl, Nat.le_of_ble_eq_true rfl⟩ (Nat.le_of_ble_eq_true rfl) (by decide) (fun r37 σ37 h => ?_)
      refine r_if_ne C 69 43 dX5_out_40 (by decide) rfl (fun c40 => ?_) (fun c40 => ?_)
      · have h := h.1 c40
        obtain ⟨v69, e69⟩ : ∃ y : Int32, y = i4 + 1 := ⟨_, rfl⟩
        have h := h v69 e69
        refine r_iinc (j := 4) C 72 [(4, .int v69), (5, .int r24), (0, .ref 209), (1, .int i1), (2, .long l2)] dX5_out_69 rfl rfl (by rw [e69]; rfl) (by decide) rfl ?_
        refine r_goto C 11 dX5_out_72 (by decide) ?_
        exact Ws_pick [2, 3, 4, 0] rfl h
      · have h := h.2 c40
        refine r_aload_n (j := 1) C 44 dX5_out_43 rfl rfl ?_
        refine r_get (k := 16) C cl7 47 dX5_out_44 rfl kd_209 (by decide) wd_1228 (.ref 219) (fun _ => rfl) ?_
        refine r_iload (j := 0) C 49 dX5_out_47 rfl rfl ?_
        obtain ⟨o49, h⟩ := h
        refine r_iald C 50 dX5_out_49 rfl kd_219 o49 ?_
        refine r_aload_n (j := 1) C 51 dX5_out_50 rfl rfl ?_
        refine r_get (k := 16) C cl7 54 dX5_out_51 rfl kd_209 (by decide) wd_1228 (.ref 219) (fun _ => rfl) ?_
        refine r_iload_n (j := 2) C 55 dX5_out_54 rfl rfl ?_
        obtain ⟨o55, h⟩ := h
        refine r_iald C 56 dX5_out_55 rfl kd_219 o55 ?_
        refine r_icmp_le C 69 59 dX5_out_56 (by decide) rfl (fun c56 => ?_) (fun c56 => ?_)
        · have h := h.1 c56
          obtain ⟨v69, e69⟩ : ∃ y : Int32, y = i4 + 1 := ⟨_, rfl⟩
          have h := h v69 e69
          refine r_iinc (j := 4) C 72 [(4, .int v69), (5, .int r24), (0, .ref 209), (1, .int i1), (2, .long l2)] dX5_out_69 rfl rfl (by rw [e69]; rfl) (by decide) rfl ?_
          refine r_goto C 11 dX5_out_72 (by decide) ?_
          exact Ws_pick [2, 3, 4, 0] rfl h
        · have h := h.2 c56
          refine r_lload_n (j := 3) C 60 dX5_out_59 rfl rfl ?_
          refine r_aload_n (j := 1) C 61 dX5_out_60 rfl rfl ?_
          refine r_get (k := 25) C cl7 64 dX5_out_61 rfl kd_209 (by decide) wd_1237 (.ref 227) (fun _ => rfl) ?_
          refine r_iload (j := 0) C 66 dX5_out_64 rfl rfl ?_
          obtain ⟨o66, h⟩ := h
          refine r_lald C 67 dX5_out_66 rfl kd_227 o66 ?_
          refine r_ladd C 68 dX5_out_67 rfl ?_
          refine r_nmL (fun v68 e68 => ?_)
          have h := h v68 e68
          refine r_lstore_n C 69 [(2, .long v68), (5, .int r24), (0, .ref 209), (1, .int i1), (4, .int i4)] dX5_out_68 rfl (by decide) rfl ?_
          obtain ⟨v69, e69⟩ : ∃ y : Int32, y = i4 + 1 := ⟨_, rfl⟩
          have h := h v69 e69
          refine r_iinc (j := 4) C 72 [(4, .int v69), (2, .long v68), (5, .int r24), (0, .ref 209), (1, .int i1)] dX5_out_69 rfl rfl (by rw [e69]; rfl) (by decide) rfl ?_
          refine r_goto C 11 dX5_out_72 (by decide) ?_
          exact Ws_pick [3, 4, 1, 0] rfl h
theorem vc_X5_out {x : Ctx} {K : Int64 → Mem → Prop} {X : String → Mem → Prop} (C : Cx x RX5 cX5_out 6) (r : RtL x 3 0 (some .long) K X) (p0 : Int32) (σ : Mem) (h : sp_X5_out p0 σ K X) : Ws x 0 0 [(0, .ref 209), (1, .int p0)] [] σ := by
  obtain ⟨g, c, dr, B, n, e1, hg, hG, hL, hF, hl, hn, hd, hB, hK⟩ := h
  have hP := hg.1
  have hT := bfs_tre hg (by decide : 0 < 10)
  generalize bfs g 0 = L at hT hL hF hn hB hK
  have n10 := hT.lt hn
  rw [e1]
  refine sg_X5_out_0 C r _ σ ⟨n_inR n10 (by decide), fun v7 e7 => ?_⟩
  rw [n_cl (by omega), hd.1, nI_l (by omega)] at e7
  rw [e7]
  refine cnt g.1 (fun _ (_ : Unit) => True) (fun p _ => Ws x 0 11 [(0, .ref 209), (1, .int (nI n)), (2, .long (lN (dr n + smN (tm g L c B n) p))), (4, .int (nI p))] [] σ) ?_ ?_ 0 () (Nat.zero_le _) trivial
  · intro _ _
    refine sg_X5_out_11 C r _ _ _ σ ?_
    show (σ.1 210 7 ≤ nI g.1 → _) ∧ (¬ σ.1 210 7 ≤ nI g.1 → _)
    rw [hG.1]
    exact ⟨fun _ => hK, fun q => absurd (nI_le (Nat.le_refl g.1) (by omega)) q⟩
  · intro p _ hp _ ih
    have ih := ih () trivial
    have es : smN (tm g L c B n) (p + 1) = smN (tm g L c B n) p + tm g L c B n p := rfl
    rw [es] at ih
    refine sg_X5_out_11 C r _ _ _ σ ?_
    show (σ.1 210 7 ≤ nI p → _) ∧ (¬ σ.1 210 7 ≤ nI p → _)
    rw [hG.1]
    refine ⟨fun q => absurd (n_le (by omega) (by omega) q) (by omega), fun _ => i_X5_across (by omega) ?_⟩
    rw [acr_ac hg hG hp n10]
    unfold tm at ih
    cases ea : ac g p n with
    | none =>
      rw [ea] at ih
      refine ⟨fun _ v e => ?_, fun q => absurd (by decide) q⟩
      rw [e, nI_1]; exact ih
    | some y =>
      rw [ea] at ih
      have ih : Ws x 0 11 [(0, .ref 209), (1, .int (nI n)), (2, .long (lN (dr n + (smN (tm g L c B n) p + if qB c p = true ∨ di L y ≤ di L n then 0 else B y)))), (4, .int (nI (p + 1)))] [] σ := ih
      have y10 := (ac_lt hg hp ea).1
      have yn := hT.2.2 n p y hn hp ea
      have dy := hT.d10 yn
      have dn := hT.d10 hn
      refine ⟨fun q => absurd q (nI_pos (n := y) (by omega)), fun _ => i_X5_isLoopPipe hg hT hL hl (by omega) ⟨fun q v e => ?_, fun q => ⟨n_inR y10 (by decide), n_inR n10 (by decide), ?_⟩⟩⟩
      · have hq : qB c p = true := Classical.byContradiction fun w => q (by rw [if_neg w])
        rw [if_pos (.inl hq)] at ih
        rw [e, nI_1]; exact ih
      · have hq : ¬ qB c p = true := fun w => by rw [if_pos w] at q; exact absurd q (by decide)
        show (σ.1 219 (nI y).toNatClampNeg ≤ σ.1 219 (nI n).toNatClampNeg → _) ∧ (¬ σ.1 219 (nI y).toNatClampNeg ≤ σ.1 219 (nI n).toNatClampNeg → _)
        rw [n_cl (n := y) (by omega), n_cl (n := n) (by omega), hF.at hT yn, hF.at hT hn]
        refine ⟨fun z v e => ?_, fun z => ⟨n_inR y10 (by decide), fun v68 e68 v e => ?_⟩⟩
        · have z := n_le (by omega) (by omega) z
          rw [if_pos (.inr z)] at ih
          rw [e, nI_1]; exact ih
        · have z := n_nle (by omega) (by omega) z
          rw [if_neg (by rintro (w | w); exact hq w; omega)] at ih
          have e68 : v68 = lN (dr n + smN (tm g L c B n) p) + σ.2.1 227 (nI y).toNatClampNeg := e68
          rw [n_cl (n := y) (by omega), hB y yn z, lN_add] at e68
          rw [e, nI_1, e68, Nat.add_assoc]; exact ih
theorem ct_X5_out (p0 : Int32) (σ : Mem) (K : Int64 → Mem → Prop) (X : String → Mem → Prop) (h : sp_X5_out p0 σ K X) : CtL yX5_out cX5_out 6 (some .long) 3 0 [.ref 209, .int p0] σ K X :=
  ctL_of (by decide +kernel) (Nat.le_of_ble_eq_true rfl) (fun x C r => vc_X5_out C r p0 σ h)
/-! HeatNetworkModel.around(J)J: level 4, exceptions 0 -/
/-- what a look's flows stand on -/
def FBase (w : Nat → Int32) (g : Gr) (c : Lp) (dr B : Nat → Nat) (σ : Mem) : Prop := WFw w g ∧ (∀ k, k < 108 → σ.1 210 k = w k) ∧ LP0 g (bfs g 0) c ∧ FarM (bfs g 0) σ ∧ LoM c σ ∧ (∀ n, n < 10 → σ.1 225 n = nI (dr n) ∧ dr n ≤ 999) ∧ EqB g (bfs g 0) c dr B ∧ (∀ n, n ∈ nds (bfs g 0) → B n ≤ 9990)
def sp_X5_around (p0 : Int64) (σ : Mem) (K : Int64 → Mem → Prop) (X : String → Mem → Prop) : Prop := ∃ (w : Nat → Int32) (g : Gr) (c : Lp) (dr B : Nat → Nat) (z : Int), FBase w g c dr B σ ∧ (∀ e, e ∈ nds (bfs g 0) → σ.2.1 227 e = lN (B e)) ∧ p0 = zL z ∧ 0 ≤ z ∧ z ≤ 10000 ∧ K (zL (sumD g (bfs g 0) c dr B (rsW w) z)) σ
set_option maxRecDepth 4000 in
theorem sg_X5_around_0 {x : Ctx} {K : Int64 → Mem → Prop} {X : String → Mem → Prop} (C : Cx x RX5 cX5_around 8) (r : RtL x 4 0 (some .long) K X) (p0 : Int64)  (σ : Mem) (h : Ws x 0 8 [(0, .ref 209), (3, .long 0), (5, .long p0), (7, .int 0)] [] σ) : Ws x 0 0 [(0, .ref 209), (1, .long p0)] [] σ := by
  refine r_lconst C 1 (v := 0) dX5_around_0 rfl rfl ?_
  refine r_lstore_n C 2 [(3, .long 0), (0, .ref 209), (1, .long p0)] dX5_around_1 rfl (by decide) rfl ?_
  refine r_lload_n (j := 2) C 3 dX5_around_2 rfl rfl ?_
  refine r_lstore C 5 [(5, .long p0), (3, .long 0), (0, .ref 209), (1, .long p0)] dX5_around_3 rfl (by decide) rfl ?_
  refine r_iconst C 6 (v := 0) dX5_around_5 rfl (by decide) ?_
  refine r_istore C 8 [(7, .int 0), (5, .long p0), (3, .long 0), (0, .ref 209), (1, .long p0)] dX5_around_6 rfl (by decide) rfl ?_
  exact Ws_pick [3, 2, 1, 0] rfl h
set_option maxRecDepth 4000 in
theorem sg_X5_around_8 {x : Ctx} {K : Int64 → Mem → Prop} {X : String → Mem → Prop} (C : Cx x RX5 cX5_around 8) (r : RtL x 4 0 (some .long) K X) (l3 : Int64) (l5 : Int64) (i7 : Int32)  (σ : Mem) (h : ((σ.1 209 22) ≤ i7 → K l3 σ) ∧ (¬ (σ.1 209 22) ≤ i7 → (i7 ≤ 0 → (vp_in i7 10) ∧ (sp_X5_drop (σ.1 224 i7.toNatClampNeg) l5 σ (fun r49 σ49 => ∀ v53 : Int64, v53 = (l3 + r49) → ∀ v54 : Int32, v54 = i7 + 1 → Ws x 0 8 [(0, .ref 209), (3, .long v53), (5, .long l5), (7, .int v54)] [] σ49) X)) ∧ (¬ i7 ≤ 0 → (vp_in i7 10) ∧ (sp_X5_out (σ.1 223 i7.toNatClampNeg) σ (fun r32 σ32 => ∀ v36 : Int64, v36 = (l5 - r32) → (vp_in i7 10) ∧ (sp_X5_drop (σ32.1 224 i7.toNatClampNeg) v36 σ32 (fun r49 σ49 => ∀ v53 : Int64, v53 = (l3 + r49) → ∀ v54 : Int32, v54 = i7 + 1 → Ws x 0 8 [(0, .ref 209), (3, .long v53), (5, .long v36), (7, .int v54)] [] σ49) X)) X)))) : Ws x 0 8 [(0, .ref 209), (3, .long l3), (5, .long l5), (7, .int i7)] [] σ := by
  refine r_iload (j := 3) C 10 dX5_around_8 rfl rfl ?_
  refine r_aload_n (j := 0) C 11 dX5_around_10 rfl rfl ?_
  refine r_get (k := 22) C cl7 14 dX5_around_11 rfl kd_209 (by decide) wd_1234 (.int (σ.1 209 22)) (fun _ => rfl) ?_
  refine r_icmp_ge C 60 17 dX5_around_14 (by decide) rfl (fun c14 => ?_) (fun c14 => ?_)
  · have h := h.1 c14
    refine r_lload_n (j := 1) C 61 dX5_around_60 rfl rfl ?_
    exact r_lret (S := []) C r dX5_around_61 (by decide) h
  · have h := h.2 c14
    refine r_iload (j := 3) C 19 dX5_around_17 rfl rfl ?_
    refine r_if_le C 38 22 dX5_around_19 (by decide) rfl (fun c19 => ?_) (fun c19 => ?_)
    · have h := h.1 c19
      refine r_lload_n (j := 1) C 39 dX5_around_38 rfl rfl ?_
      refine r_aload_n (j := 0) C 40 dX5_around_39 rfl rfl ?_
      refine r_aload_n (j := 0) C 41 dX5_around_40 rfl rfl ?_
      refine r_get (k := 21) C cl7 44 dX5_around_41 rfl kd_209 (by decide) wd_1233 (.ref 224) (fun _ => rfl) ?_
      refine r_iload (j := 3) C 46 dX5_around_44 rfl rfl ?_
      obtain ⟨o46, h⟩ := h
      refine r_iald C 47 dX5_around_46 rfl kd_224 o46 ?_
      refine r_lload (j := 2) C 49 dX5_around_47 rfl rfl ?_
      refine r_cVL (as := [.int (σ.1 224 i7.toNatClampNeg), .long l5]) (S := [.long l3]) C r.px 52 (ct_X5_drop _ _ _ _ _ h) dX5_around_49 rfl cl7 kd_209 wd_65 wd_1468 rfl wd_1466 wd_1469 wd_95 yd_X5_drop ⟨Nat.le_of_ble_eq_true rfl, Nat.le_of_ble_eq_true rfl⟩ (Nat.le_of_ble_eq_true rfl) (by decide) (fun r49 σ49 h => ?_)
      refine r_ladd C 53 dX5_around_52 rfl ?_
      refine r_nmL (fun v53 e53 => ?_)
      have h := h v53 e53
      refine r_lstore_n C 54 [(3, .long v53), (0, .ref 209), (5, .long l5), (7, .int i7)] dX5_around_53 rfl (by decide) rfl ?_
      obtain ⟨v54, e54⟩ : ∃ y : Int32, y = i7 + 1 := ⟨_, rfl⟩
      have h := h v54 e54
      refine r_iinc (j := 3) C 57 [(7, .int v54), (3, .long v53), (0, .ref 209), (5, .long l5)] dX5_around_54 rfl rfl (by rw [e54]; rfl) (by decide) rfl ?_
      refine r_goto C 8 dX5_around_57 (by decide) ?_
      exact Ws_pick [2, 1, 3, 0] rfl h
    · have h := h.2 c19
      refine r_lload (j := 2) C 24 dX5_around_22 rfl rfl ?_
      refine r_aload_n (j := 0) C 25 dX5_around_24 rfl rfl ?_
      refine r_aload_n (j := 0) C 26 dX5_around_25 rfl rfl ?_
      refine r_get (k := 20) C cl7 29 dX5_around_26 rfl kd_209 (by decide) wd_1232 (.ref 223) (fun _ => rfl) ?_
      refine r_iload (j := 3) C 31 dX5_around_29 rfl rfl ?_
      obtain ⟨o31, h⟩ := h
      refine r_iald C 32 dX5_around_31 rfl kd_223 o31 ?_
      refine r_cVL (as := [.int (σ.1 223 i7.toNatClampNeg)]) (S := [.long l5]) C r.px 35 (ct_X5_out _ _ _ _ h) dX5_around_32 rfl cl7 kd_209 wd_61 wd_1450 rfl wd_1448 wd_1451 wd_95 yd_X5_out ⟨Nat.le_of_ble_eq_true rfl, Nat.le_of_ble_eq_true rfl⟩ (Nat.le_of_ble_eq_true rfl) (by decide) (fun r32 σ32 h => ?_)
      refine r_lsub C 36 dX5_around_35 rfl ?_
      refine r_nmL (fun v36 e36 => ?_)
      have h := h v36 e36
      refine r_lstore C 38 [(5, .long v36), (0, .ref 209), (3, .long l3), (7, .int i7)] dX5_around_36 rfl (by decide) rfl ?_
      refine r_lload_n (j := 2) C 39 dX5_around_38 rfl rfl ?_
      refine r_aload_n (j := 1) C 40 dX5_around_39 rfl rfl ?_
      refine r_aload_n (j := 1) C 41 dX5_around_40 rfl rfl ?_
      refine r_get (k := 21) C cl7 44 dX5_around_41 rfl kd_209 (by decide) wd_1233 (.ref 224) (fun _ => rfl) ?_
      refine r_iload (j := 3) C 46 dX5_around_44 rfl rfl ?_
      obtain ⟨o46, h⟩ := h
      refine r_iald C 47 dX5_around_46 rfl kd_224 o46 ?_
      refine r_lload (j := 0) C 49 dX5_around_47 rfl rfl ?_
      refine r_cVL (as := [.int (σ32.1 224 i7.toNatClampNeg), .long v36]) (S := [.long l3]) C r.px 52 (ct_X5_drop _ _ _ _ _ h) dX5_around_49 rfl cl7 kd_209 wd_65 wd_1468 rfl wd_1466 wd_1469 wd_95 yd_X5_drop ⟨Nat.le_of_ble_eq_true rfl, Nat.le_of_ble_eq_true rfl⟩ (Nat.le_of_ble_eq_true rfl) (by decide) (fun r49 σ49 h => ?_)
      refine r_ladd C 53 dX5_around_52 rfl ?_
      refine r_nmL (fun v53 e53 => ?_)
      have h := h v53 e53
      refine r_lstore_n C 54 [(3, .long v53), (5, .long v36), (0, .ref 209), (7, .int i7)] dX5_around_53 rfl (by decide) rfl ?_
      obtain ⟨v54, e54⟩ : ∃ y : Int32, y = i7 + 1 := ⟨_, rfl⟩
      have h := h v54 e54
      refine r_iinc (j := 3) C 57 [(7, .int v54), (3, .long v53), (5, .long v36), (0, .ref 209)] dX5_around_54 rfl rfl (by rw [e54]; rfl) (by decide) rfl ?_
      refine r_goto C 8 dX5_around_57 (by decide) ?_
      exact Ws_pick [3, 1, 2, 0] rfl h
theorem FBase.out {w : Nat → Int32} {g : Gr} {c : Lp} {dr B : Nat → Nat} {σ : Mem} (h : FBase w g c dr B σ) {n : Nat} (hn : n ∈ nds (bfs g 0)) {K : Int64 → Mem → Prop} {X : String → Mem → Prop} (hB : ∀ e, e ∈ nds (bfs g 0) → di (bfs g 0) n < di (bfs g 0) e → σ.2.1 227 e = lN (B e)) (k : K (lN (outF g (bfs g 0) c dr B n)) σ) : sp_X5_out (nI n) σ K X := by
  obtain ⟨h1, h2, h3, h4, h5, h6, h7, h8⟩ := h
  exact ⟨g, c, dr, B, n, rfl, h1.2.1, GM_of h1 h2, h3, h4, h5, hn, h6 n ((bfs_tre h1.2.1 (by decide)).lt hn), hB, k⟩
theorem vc_X5_around {x : Ctx} {K : Int64 → Mem → Prop} {X : String → Mem → Prop} (C : Cx x RX5 cX5_around 8) (r : RtL x 4 0 (some .long) K X) (p0 : Int64) (σ : Mem) (h : sp_X5_around p0 σ K X) : Ws x 0 0 [(0, .ref 209), (1, .long p0)] [] σ := by
  obtain ⟨w, g, c, dr, B, z, hb, hB, e1, z0, z1, hK⟩ := h
  obtain ⟨hw, hr, hL, hF, hl, hd, hE, hBl⟩ := hb
  have hb : FBase w g c dr B σ := ⟨hw, hr, hL, hF, hl, hd, hE, hBl⟩
  have hg := hw.2.1
  have hP := hg.1
  have hT := bfs_tre hg (by decide : 0 < 10)
  have hle := hL.le hT
  have hsk : ∀ k, k < c.1 → skF g (bfs g 0) c dr B k ≤ 9990 := fun k hk => skF_le hE hBl hL hk
  rw [e1]
  refine sg_X5_around_0 C r _ σ ?_
  have key := cnt c.1 (fun _ (_ : Unit) => True) (fun k _ => Ws x 0 8 [(0, .ref 209), (3, .long (zL (smZ (fun k => drop (rsW w (c.2.2 k)) (z - skF g (bfs g 0) c dr B k)) k))), (5, .long (zL (z - if k = 0 then 0 else skF g (bfs g 0) c dr B (k - 1)))), (7, .int (nI k))] [] σ)
    (fun _ _ => by
      refine sg_X5_around_8 C r _ _ _ σ ?_
      rw [hl.1]
      exact ⟨fun _ => hK, fun q => absurd (nI_le (Nat.le_refl c.1) (by omega)) q⟩)
    (fun k _ hk _ ih => by
      refine sg_X5_around_8 C r _ _ _ σ ?_
      rw [hl.1, n_cl (n := k) (by omega), (hl.2 k hk).2, (hl.2 k hk).1]
      refine ⟨fun q => absurd (n_le (by omega) (by omega) q) (by omega), fun _ => ?_⟩
      have ih := ih () trivial
      rw [if_neg (by omega : ¬ k + 1 = 0), Nat.add_sub_cancel] at ih
      have hs := hsk k hk
      have goOn : ∀ f : Int64, f = zL (z - skF g (bfs g 0) c dr B k) → sp_X5_drop (nI (c.2.2 k)) f σ (fun r49 σ49 => ∀ v53 : Int64, v53 = (zL (smZ (fun k => drop (rsW w (c.2.2 k)) (z - skF g (bfs g 0) c dr B k)) k) + r49) → ∀ v54 : Int32, v54 = nI k + 1 → Ws x 0 8 [(0, .ref 209), (3, .long v53), (5, .long f), (7, .int v54)] [] σ49) X := fun f ef => by
        rw [ef]
        refine i_X5_drop hw hr (hL.2.1 k hk).1 (by omega) (by omega) (fun v53 e53 v54 e54 => ?_)
        rw [e53, e54, nI_1, zL_add]
        exact ih
      refine ⟨fun q => ?_, fun q => ?_⟩
      · have k0 : k = 0 := by have := n_le (b := 0) (by omega) (by decide) q; omega
        refine ⟨n_inR (by omega) (by decide), goOn _ ?_⟩
        rw [if_pos k0, k0, skF_0]
      · have k0 : k ≠ 0 := fun e => by rw [e] at q; exact q (by decide)
        refine ⟨n_inR (by omega) (by decide), hb.out (hL.2.2.2.1 k hk) (fun e he _ => hB e he) (fun v36 e36 => ⟨n_inR (by omega) (by decide), ?_⟩)⟩
        rw [(hl.2 k hk).2]
        refine goOn v36 ?_
        rw [e36, if_neg k0, lN_z, zL_sub]
        obtain ⟨j, rfl⟩ : ∃ j, k = j + 1 := ⟨k - 1, by omega⟩
        rw [skF_s, Nat.add_sub_cancel]
        congr 1
        omega) 0 () (Nat.zero_le _) trivial
  rw [if_pos rfl] at key
  have e0 : z - ((0 : Nat) : Int) = z := by omega
  rw [e0] at key
  exact key
theorem ct_X5_around (p0 : Int64) (σ : Mem) (K : Int64 → Mem → Prop) (X : String → Mem → Prop) (h : sp_X5_around p0 σ K X) : CtL yX5_around cX5_around 8 (some .long) 4 0 [.ref 209, .long p0] σ K X :=
  ctL_of (by decide +kernel) (Nat.le_of_ble_eq_true rfl) (fun x C r => vc_X5_around C r p0 σ h)
