/-! HeatNetwork$State.findTemperatures(LHeatNetwork$Network;LHeatNetwork$Shape;)V: level 4, exceptions 0 -/
/-- what the class's temperatures stand on -/
def CBase (w : Nat → Int32) (g : Gr) (c : Lp) (dr B : Nat → Nat) (z : Int) (W : List Nat) (t a : Nat) (σ : Mem) : Prop := WFw w g ∧ NR σ a w g ∧ Shp g (bfs g 0) c σ ∧ FlB w g (bfs g 0) c dr B z (fun p => σ.1 (t + 2) p) ∧ W.Nodup ∧ (∀ n, n ∈ W ↔ n ∈ nds (bfs g 0)) ∧ OrdW (bfs g 0) c (lf g (bfs g 0) c dr B z) W ∧ RowW (t + 5) W σ ∧ W[0]? = some 0
def sp_X2_findTemperatures (t a : Nat) (σ : Mem) (K : Mem → Prop) (X : String → Mem → Prop) : Prop := StaA t ∧ NetA a ∧ ∃ (w : Nat → Int32) (g : Gr) (c : Lp) (dr B : Nat → Nat) (z : Int) (W : List Nat), CBase w g c dr B z W t a σ ∧ ∀ (τ : Mem) (T : Nat → Nat), (∀ b k, b ≠ t + 6 → τ.1 b k = σ.1 b k) → (∀ b k, b ≠ t + 10 → b ≠ t + 11 → τ.2.1 b k = σ.2.1 b k) → τ.2.2 = σ.2.2 → (∀ n, n < 10 → τ.1 (t + 6) n = nI (T n) ∧ (gd w ≤ T n ∧ T n ≤ 1200) ∧ EqH w g (flR (fun p => σ.1 (t + 2) p)) T n ∧ τ.2.1 (t + 10) n = lN (rmH w g (flR (fun p => σ.1 (t + 2) p)) T n)) → (∀ p, p < 10 → τ.2.1 (t + 11) p = lN (if p < g.1 then lsH w g (flR (fun p => σ.1 (t + 2) p)) T p else 0)) → K τ
set_option maxRecDepth 4000 in
theorem sg_X2_findTemperatures_0 {x : Ctx} {K : Mem → Prop} {X : String → Mem → Prop} (C : Cx x RX2 cX2_findTemperatures 11) (r : RtV x 4 0 none K X) (t : Nat) (a : Nat) (ht : StaA t) (ha : NetA a) (σ : Mem) (h : sp_J7_fill_53178 (t + 6) 10 (σ.1 (a + 1) 1) σ (fun σ10 => sp_J7_fill_d0a16 (t + 10) 10 0 σ10 (fun σ18 => sp_J7_fill_d0a16 (t + 11) 10 0 σ18 (fun σ26 => ∀ σ40 : Mem, σ40 = wi σ26 (t + 6) 0 (σ26.1 (a + 1) 0) → Ws x 0 43 [(0, .ref t), (1, .ref a), (2, .ref 44), (3, .int 1)] [] σ40) X) X) X) : Ws x 0 0 [(0, .ref t), (1, .ref a), (2, .ref 44)] [] σ := by
  refine r_aload_n (j := 0) C 1 dX2_findTemperatures_0 rfl rfl ?_
  refine r_get (k := 5) C cl4 4 dX2_findTemperatures_1 rfl (sta0 ht) (by decide) wd_283 (.ref (t + 6)) (fun _ => rfl) ?_
  refine r_aload_n (j := 1) C 5 dX2_findTemperatures_4 rfl rfl ?_
  refine r_get (k := 0) C cl2 8 dX2_findTemperatures_5 rfl (net0 ha) (by decide) wd_135 (.ref (a + 1)) (fun _ => rfl) ?_
  refine r_iconst C 9 (v := 1) dX2_findTemperatures_8 rfl (by decide) ?_
  refine r_iald C 10 dX2_findTemperatures_9 rfl (net1 ha) (n_inR (n := 1) (by decide) (by decide)) ?_
  refine r_cSV (b := 0) (as := [.ref (t + 6), .int (σ.1 (a + 1) 1)]) (S := []) C r.px 13 (ct_J7_fill_53178 _ _ _ _ _ _ h) dX2_findTemperatures_10 rfl wd_422 wd_461 wd_423 wd_108 yd_J7_fill_53178 ⟨Nat.le_of_ble_eq_true rfl, Nat.le_of_ble_eq_true rfl⟩ (Nat.le_of_ble_eq_true rfl) (by decide) (fun σ10 h => ?_)
  refine r_aload_n (j := 0) C 14 dX2_findTemperatures_13 rfl rfl ?_
  refine r_get (k := 9) C cl4 17 dX2_findTemperatures_14 rfl (sta0 ht) (by decide) wd_289 (.ref (t + 10)) (fun _ => rfl) ?_
  refine r_lconst C 18 (v := 0) dX2_findTemperatures_17 rfl rfl ?_
  refine r_cSV (b := 0) (as := [.ref (t + 10), .long 0]) (S := []) C r.px 21 (ct_J7_fill_d0a16 _ _ _ _ _ _ h) dX2_findTemperatures_18 rfl wd_534 wd_533 wd_535 wd_108 yd_J7_fill_d0a16 ⟨Nat.le_of_ble_eq_true rfl, Nat.le_of_ble_eq_true rfl⟩ (Nat.le_of_ble_eq_true rfl) (by decide) (fun σ18 h => ?_)
  refine r_aload_n (j := 0) C 22 dX2_findTemperatures_21 rfl rfl ?_
  refine r_get (k := 10) C cl4 25 dX2_findTemperatures_22 rfl (sta0 ht) (by decide) wd_291 (.ref (t + 11)) (fun _ => rfl) ?_
  refine r_lconst C 26 (v := 0) dX2_findTemperatures_25 rfl rfl ?_
  refine r_cSV (b := 0) (as := [.ref (t + 11), .long 0]) (S := []) C r.px 29 (ct_J7_fill_d0a16 _ _ _ _ _ _ h) dX2_findTemperatures_26 rfl wd_534 wd_533 wd_535 wd_108 yd_J7_fill_d0a16 ⟨Nat.le_of_ble_eq_true rfl, Nat.le_of_ble_eq_true rfl⟩ (Nat.le_of_ble_eq_true rfl) (by decide) (fun σ26 h => ?_)
  refine r_aload_n (j := 0) C 30 dX2_findTemperatures_29 rfl rfl ?_
  refine r_get (k := 5) C cl4 33 dX2_findTemperatures_30 rfl (sta0 ht) (by decide) wd_283 (.ref (t + 6)) (fun _ => rfl) ?_
  refine r_iconst C 34 (v := 0) dX2_findTemperatures_33 rfl (by decide) ?_
  refine r_aload_n (j := 1) C 35 dX2_findTemperatures_34 rfl rfl ?_
  refine r_get (k := 0) C cl2 38 dX2_findTemperatures_35 rfl (net0 ha) (by decide) wd_135 (.ref (a + 1)) (fun _ => rfl) ?_
  refine r_iconst C 39 (v := 0) dX2_findTemperatures_38 rfl (by decide) ?_
  refine r_iald C 40 dX2_findTemperatures_39 rfl (net1 ha) (n_inR (n := 0) (by decide) (by decide)) ?_
  refine r_iast C 41 dX2_findTemperatures_40 rfl (sta6 ht) (n_inR (n := 0) (by decide) (by decide)) ?_
  refine r_nmS (fun σ40 e40 => ?_)
  have h := h σ40 e40
  refine r_iconst C 42 (v := 1) dX2_findTemperatures_41 rfl (by decide) ?_
  refine r_istore_n C 43 [(3, .int 1), (0, .ref t), (1, .ref a), (2, .ref 44)] dX2_findTemperatures_42 rfl (by decide) rfl ?_
  exact Ws_pick [1, 2, 3, 0] rfl h
set_option maxRecDepth 4000 in
theorem sg_X2_findTemperatures_43 {x : Ctx} {K : Mem → Prop} {X : String → Mem → Prop} (C : Cx x RX2 cX2_findTemperatures 11) (r : RtV x 4 0 none K X) (t : Nat) (a : Nat) (i3 : Int32) (ht : StaA t) (ha : NetA a) (σ : Mem) (h : ((σ.1 44 2) ≤ i3 → K σ) ∧ (¬ (σ.1 44 2) ≤ i3 → (vp_in i3 10) ∧ (∀ v57 : Int32, v57 = (σ.1 (t + 5) i3.toNatClampNeg) → (vp_in v57 10) ∧ (∀ v66 : Int32, v66 = (σ.1 48 v57.toNatClampNeg) → (vp_in v57 10) ∧ (∀ v75 : Int32, v75 = (σ.1 49 v57.toNatClampNeg) → sp_X2_bring t a v66 v57 σ (fun r83 σ83 => sp_X2_bring t a v75 v57 σ83 (fun r92 σ92 => ∀ v96 : Int64, v96 = (r83 + r92) → sp_X2_flowTo t a v66 v57 σ92 (fun r104 σ104 => sp_X2_flowTo t a v75 v57 σ104 (fun r113 σ113 => ∀ v118 : Int64, v118 = ((r104 + r113)).toInt64 → (v118 ≤ 0 → ∀ v152 : Int32, v152 = i3 + 1 → Ws x 0 43 [(0, .ref t), (1, .ref a), (2, .ref 44), (3, .int v152)] [] σ113) ∧ (¬ v118 ≤ 0 → (¬ v118 = (0 : Int64)) ∧ ((vp_in v57 10) ∧ (∀ σ139 : Mem, σ139 = wi σ113 (t + 6) v57.toNatClampNeg ((v96 / v118)).toInt32 → (¬ v118 = (0 : Int64)) ∧ ((vp_in v57 10) ∧ (∀ σ151 : Mem, σ151 = wl σ139 (t + 10) v57.toNatClampNeg (v96 - v96 / v118 * v118) → ∀ v152 : Int32, v152 = i3 + 1 → Ws x 0 43 [(0, .ref t), (1, .ref a), (2, .ref 44), (3, .int v152)] [] σ151)))))) X) X) X) X))))) : Ws x 0 43 [(0, .ref t), (1, .ref a), (2, .ref 44), (3, .int i3)] [] σ := by
  refine r_iload_n (j := 3) C 44 dX2_findTemperatures_43 rfl rfl ?_
  refine r_aload_n (j := 2) C 45 dX2_findTemperatures_44 rfl rfl ?_
  refine r_get (k := 2) C cl3 48 dX2_findTemperatures_45 rfl kd_44 (by decide) wd_230 (.int (σ.1 44 2)) (fun _ => rfl) ?_
  refine r_icmp_ge C 158 51 dX2_findTemperatures_48 (by decide) rfl (fun c48 => ?_) (fun c48 => ?_)
  · have h := h.1 c48
    exact r_vret (S := []) C r dX2_findTemperatures_158 (by decide) h
  · have h := h.2 c48
    refine r_aload_n (j := 0) C 52 dX2_findTemperatures_51 rfl rfl ?_
    refine r_get (k := 4) C cl4 55 dX2_findTemperatures_52 rfl (sta0 ht) (by decide) wd_282 (.ref (t + 5)) (fun _ => rfl) ?_
    refine r_iload_n (j := 3) C 56 dX2_findTemperatures_55 rfl rfl ?_
    obtain ⟨o56, h⟩ := h
    refine r_iald C 57 dX2_findTemperatures_56 rfl (sta5 ht) o56 ?_
    refine r_nmI (fun v57 e57 => ?_)
    have h := h v57 e57
    refine r_istore C 59 [(4, .int v57), (0, .ref t), (1, .ref a), (2, .ref 44), (3, .int i3)] dX2_findTemperatures_57 rfl (by decide) rfl ?_
    refine r_aload_n (j := 3) C 60 dX2_findTemperatures_59 rfl rfl ?_
    refine r_get (k := 4) C cl3 63 dX2_findTemperatures_60 rfl kd_44 (by decide) wd_235 (.ref 48) (fun _ => rfl) ?_
    refine r_iload (j := 0) C 65 dX2_findTemperatures_63 rfl rfl ?_
    obtain ⟨o65, h⟩ := h
    refine r_iald C 66 dX2_findTemperatures_65 rfl kd_48 o65 ?_
    refine r_nmI (fun v66 e66 => ?_)
    have h := h v66 e66
    refine r_istore C 68 [(5, .int v66), (4, .int v57), (0, .ref t), (1, .ref a), (2, .ref 44), (3, .int i3)] dX2_findTemperatures_66 rfl (by decide) rfl ?_
    refine r_aload_n (j := 4) C 69 dX2_findTemperatures_68 rfl rfl ?_
    refine r_get (k := 5) C cl3 72 dX2_findTemperatures_69 rfl kd_44 (by decide) wd_237 (.ref 49) (fun _ => rfl) ?_
    refine r_iload (j := 1) C 74 dX2_findTemperatures_72 rfl rfl ?_
    obtain ⟨o74, h⟩ := h
    refine r_iald C 75 dX2_findTemperatures_74 rfl kd_49 o74 ?_
    refine r_nmI (fun v75 e75 => ?_)
    have h := h v75 e75
    refine r_istore C 77 [(6, .int v75), (5, .int v66), (4, .int v57), (0, .ref t), (1, .ref a), (2, .ref 44), (3, .int i3)] dX2_findTemperatures_75 rfl (by decide) rfl ?_
    refine r_aload_n (j := 3) C 78 dX2_findTemperatures_77 rfl rfl ?_
    refine r_aload_n (j := 4) C 79 dX2_findTemperatures_78 rfl rfl ?_
    refine r_iload (j := 1) C 81 dX2_findTemperatures_79 rfl rfl ?_
    refine r_iload (j := 2) C 83 dX2_findTemperatures_81 rfl rfl ?_
    refine r_cVL (as := [.ref a, .int v66, .int v57]) (S := []) C r.px 86 (ct_X2_bring _ _ _ _ _ _ _ h) dX2_findTemperatures_83 rfl cl4 (sta0 ht) wd_17 wd_538 rfl wd_536 wd_539 wd_93 yd_X2_bring ⟨Nat.le_of_ble_eq_true rfl, Nat.le_of_ble_eq_true rfl⟩ (Nat.le_of_ble_eq_true rfl) (by decide) (fun r83 σ83 h => ?_)
    refine r_aload_n (j := 3) C 87 dX2_findTemperatures_86 rfl rfl ?_
    refine r_aload_n (j := 4) C 88 dX2_findTemperatures_87 rfl rfl ?_
    refine r_iload (j := 0) C 90 dX2_findTemperatures_88 rfl rfl ?_
    refine r_iload (j := 2) C 92 dX2_findTemperatures_90 rfl rfl ?_
    refine r_cVL (as := [.ref a, .int v75, .int v57]) (S := [.long r83]) C r.px 95 (ct_X2_bring _ _ _ _ _ _ _ h) dX2_findTemperatures_92 rfl cl4 (sta0 ht) wd_17 wd_538 rfl wd_536 wd_539 wd_93 yd_X2_bring ⟨Nat.le_of_ble_eq_true rfl, Nat.le_of_ble_eq_true rfl⟩ (Nat.le_of_ble_eq_true rfl) (by decide) (fun r92 σ92 h => ?_)
    refine r_ladd C 96 dX2_findTemperatures_95 rfl ?_
    refine r_nmL (fun v96 e96 => ?_)
    have h := h v96 e96
    refine r_lstore C 98 [(7, .long v96), (6, .int v75), (5, .int v66), (4, .int v57), (0, .ref t), (1, .ref a), (2, .ref 44), (3, .int i3)] dX2_findTemperatures_96 rfl (by decide) rfl ?_
    refine r_aload_n (j := 4) C 99 dX2_findTemperatures_98 rfl rfl ?_
    refine r_aload_n (j := 5) C 100 dX2_findTemperatures_99 rfl rfl ?_
    refine r_iload (j := 2) C 102 dX2_findTemperatures_100 rfl rfl ?_
    refine r_iload (j := 3) C 104 dX2_findTemperatures_102 rfl rfl ?_
    refine r_cVI (as := [.ref a, .int v66, .int v57]) (S := []) C r.px 107 (ct_X2_flowTo _ _ _ _ _ _ _ h) dX2_findTemperatures_104 rfl cl4 (sta0 ht) wd_18 wd_542 rfl wd_540 wd_543 wd_93 yd_X2_flowTo ⟨Nat.le_of_ble_eq_true rfl, Nat.le_of_ble_eq_true rfl⟩ (Nat.le_of_ble_eq_true rfl) (by decide) (fun r104 σ104 h => ?_)
    refine r_aload_n (j := 4) C 108 dX2_findTemperatures_107 rfl rfl ?_
    refine r_aload_n (j := 5) C 109 dX2_findTemperatures_108 rfl rfl ?_
    refine r_iload (j := 1) C 111 dX2_findTemperatures_109 rfl rfl ?_
    refine r_iload (j := 3) C 113 dX2_findTemperatures_111 rfl rfl ?_
    refine r_cVI (as := [.ref a, .int v75, .int v57]) (S := [.int r104]) C r.px 116 (ct_X2_flowTo _ _ _ _ _ _ _ h) dX2_findTemperatures_113 rfl cl4 (sta0 ht) wd_18 wd_542 rfl wd_540 wd_543 wd_93 yd_X2_flowTo ⟨Nat.le_of_ble_eq_true rfl, Nat.le_of_ble_eq_true rfl⟩ (Nat.le_of_ble_eq_true rfl) (by decide) (fun r113 σ113 h => ?_)
    refine r_iadd C 117 dX2_findTemperatures_116 rfl ?_
    refine r_i2l C 118 dX2_findTemperatures_117 rfl ?_
    refine r_nmL (fun v118 e118 => ?_)
    have h := h v118 e118
    refine r_lstore C 120 [(9, .long v118), (7, .long v96), (6, .int v75), (5, .int v66), (4, .int v57), (0, .ref t), (1, .ref a), (2, .ref 44), (3, .int i3)] dX2_findTemperatures_118 rfl (by decide) rfl ?_
    refine r_lload (j := 0) C 122 dX2_findTemperatures_120 rfl rfl ?_
    refine r_lconst C 123 (v := 0) dX2_findTemperatures_122 rfl rfl ?_
    refine r_lcmp_le C 124 152 127 dX2_findTemperatures_123 rfl dX2_findTemperatures_124 (by decide) rfl (fun c123 => ?_) (fun c123 => ?_)
    · have h := h.1 c123
      obtain ⟨v152, e152⟩ : ∃ y : Int32, y = i3 + 1 := ⟨_, rfl⟩
      have h := h v152 e152
      refine r_iinc (j := 8) C 155 [(3, .int v152), (9, .long v118), (7, .long v96), (6, .int v75), (5, .int v66), (4, .int v57), (0, .ref t), (1, .ref a), (2, .ref 44)] dX2_findTemperatures_152 rfl rfl (by rw [e152]; rfl) (by decide) rfl ?_
      refine r_goto C 43 dX2_findTemperatures_155 (by decide) ?_
      exact Ws_pick [6, 7, 8, 0] rfl h
    · have h := h.2 c123
      refine r_aload_n (j := 5) C 128 dX2_findTemperatures_127 rfl rfl ?_
      refine r_get (k := 5) C cl4 131 dX2_findTemperatures_128 rfl (sta0 ht) (by decide) wd_283 (.ref (t + 6)) (fun _ => rfl) ?_
      refine r_iload (j := 4) C 133 dX2_findTemperatures_131 rfl rfl ?_
      refine r_lload (j := 1) C 135 dX2_findTemperatures_133 rfl rfl ?_
      refine r_lload (j := 0) C 137 dX2_findTemperatures_135 rfl rfl ?_
      obtain ⟨o137, h⟩ := h
      refine r_ldiv C 138 dX2_findTemperatures_137 rfl o137 ?_
      refine r_l2i C 139 dX2_findTemperatures_138 rfl ?_
      obtain ⟨o139, h⟩ := h
      refine r_iast C 140 dX2_findTemperatures_139 rfl (sta6 ht) o139 ?_
      refine r_nmS (fun σ139 e139 => ?_)
      have h := h σ139 e139
      refine r_aload_n (j := 5) C 141 dX2_findTemperatures_140 rfl rfl ?_
      refine r_get (k := 9) C cl4 144 dX2_findTemperatures_141 rfl (sta0 ht) (by decide) wd_289 (.ref (t + 10)) (fun _ => rfl) ?_
      refine r_iload (j := 4) C 146 dX2_findTemperatures_144 rfl rfl ?_
      refine r_lload (j := 1) C 148 dX2_findTemperatures_146 rfl rfl ?_
      refine r_lload (j := 0) C 150 dX2_findTemperatures_148 rfl rfl ?_
      obtain ⟨o150, h⟩ := h
      refine r_lrem C 151 dX2_findTemperatures_150 rfl o150 ?_
      obtain ⟨o151, h⟩ := h
      refine r_last C 152 dX2_findTemperatures_151 rfl (sta10 ht) o151 ?_
      refine r_nmS (fun σ151 e151 => ?_)
      have h := h σ151 e151
      obtain ⟨v152, e152⟩ : ∃ y : Int32, y = i3 + 1 := ⟨_, rfl⟩
      have h := h v152 e152
      refine r_iinc (j := 8) C 155 [(3, .int v152), (9, .long v118), (7, .long v96), (6, .int v75), (5, .int v66), (4, .int v57), (0, .ref t), (1, .ref a), (2, .ref 44)] dX2_findTemperatures_152 rfl rfl (by rw [e152]; rfl) (by decide) rfl ?_
      refine r_goto C 43 dX2_findTemperatures_155 (by decide) ?_
      exact Ws_pick [6, 7, 8, 0] rfl h
theorem smH_congr {w : Nat → Int32} {g : Gr} {fl : Nat → Int} {T T' : Nat → Nat} {n : Nat} (h : ∀ p e, p < g.1 → frO g fl p = some e → toO g fl p = some n → T e = T' e) : smH w g fl T n = smH w g fl T' n := by
  unfold smH
  refine smN_congr (fun p hp => ?_)
  unfold tH
  cases e : frO g fl p with
  | none => rfl
  | some y =>
    show (if toO g fl p = some n then flN fl p * thr w fl p (T y) else 0) = if toO g fl p = some n then flN fl p * thr w fl p (T' y) else 0
    by_cases q : toO g fl p = some n
    · rw [if_pos q, if_pos q, h p y hp e q]
    · rw [if_neg q, if_neg q]
/-- the losses of the pipes that come to n have been written -/
def LsU (w : Nat → Int32) (g : Gr) (fl : Nat → Int) (T : Nat → Nat) (n b : Nat) (σ τ : Mem) : Prop := τ.1 = σ.1 ∧ (∀ d k, d ≠ b → τ.2.1 d k = σ.2.1 d k) ∧ τ.2.2 = σ.2.2 ∧ ∀ p, p < 10 → ((p < g.1 ∧ toO g fl p = some n) → τ.2.1 b p = lN (lsH w g fl T p)) ∧ (¬ (p < g.1 ∧ toO g fl p = some n) → τ.2.1 b p = σ.2.1 b p)
theorem bring_pair {t a n : Nat} {w : Nat → Int32} {g : Gr} {c : Lp} {dr B T : Nat → Nat} {z : Int} {W : List Nat} {σ : Mem} {X : String → Mem → Prop} {R : Int64 → Int64 → Mem → Prop} (ht : StaA t) (ha : NetA a) (hb : CBase w g c dr B z W t a σ) (hn : n ∈ nds (bfs g 0)) (n0 : n ≠ 0) (hTr : ∀ e, e < 10 → σ.1 (t + 6) e = nI (T e) ∧ gd w ≤ T e ∧ T e ≤ 1200) (h : ∀ τ : Mem, LsU w g (flR (fun p => σ.1 (t + 2) p)) T n (t + 11) σ τ → R (lN (smH w g (flR (fun p => σ.1 (t + 2) p)) T n)) (lN (flH g (flR (fun p => σ.1 (t + 2) p)) n)) τ) : sp_X2_bring t a (σ.1 48 n) (nI n) σ (fun r83 σ83 => sp_X2_bring t a (σ.1 49 n) (nI n) σ83 (fun r92 σ92 => ∀ v96 : Int64, v96 = (r83 + r92) → sp_X2_flowTo t a (σ.1 48 n) (nI n) σ92 (fun r104 σ104 => sp_X2_flowTo t a (σ.1 49 n) (nI n) σ104 (fun r113 σ113 => ∀ v118 : Int64, v118 = ((r104 + r113)).toInt64 → R v96 v118 σ113) X) X) X) X := by
  obtain ⟨hw, hN, hS, hF, hW1, hW2, hW3, hW4, hW5⟩ := hb
  have hg := hw.2.1
  have hP := hg.1
  have hT := bfs_tre hg (by decide : 0 < 10)
  have hL := hS.1.1
  have hok := hF.ok hw hT hL hW1 hW2 hW3 hW5
  have hfl : ∀ p, σ.1 (t + 2) p = zI (flR (fun p => σ.1 (t + 2) p) p) := fun p => flR_z (fun p => σ.1 (t + 2) p) p
  have hpre := fun p e m hp he hm => hF.pre (p := p) (e := e) (n := m) hw hT hL hp he hm
  generalize flR (fun p => σ.1 (t + 2) p) = fl at hok hfl hpre h
  have ht2 := staA_is ht
  have hfar := netA_far ha
  have A0 := fH_le hok hg n
  by_cases hnt : inT c n
  · obtain ⟨i, i0, i1, i2⟩ := id hnt
    obtain ⟨-, s2, s3⟩ := hS.2.2.2.2.2.2.2.1 i i0 i1
    rw [i2] at s2 s3
    obtain ⟨p1, q1⟩ := hL.2.1 (i - 1) (by omega)
    obtain ⟨p2, q2⟩ := hL.2.1 i i1
    have enx : nxt c (i - 1) = i := by unfold nxt; rw [if_neg (by omega)]; omega
    rw [enx, i2] at q1
    rw [i2] at q2
    have hne : c.2.2 (i - 1) ≠ c.2.2 i := fun e => by
      have := hL.pinj (by omega) i1 e
      omega
    have only : ∀ p, p < g.1 → toO g fl p = some n → p = c.2.2 (i - 1) ∨ p = c.2.2 i := fun p hp hto => by
      obtain ⟨e, he, -⟩ := to_fr hto
      rcases hpre p e n hp he hto with ⟨-, -, y, -⟩ | ⟨j, j0, j1, j2, j3⟩
      · exact absurd hnt y
      · have : i = j := hL.1 i j i1 j1 (by rw [i2, j2])
        subst this
        rcases j3 with ⟨-, -, y⟩ | ⟨-, -, y⟩
        · exact .inl y
        · exact .inr y
    have e1 : smH w g fl T n = tH w g fl T n (c.2.2 (i - 1)) + tH w g fl T n (c.2.2 i) := smN_two p1 p2 hne (fun p hp h1 h2 => by
      unfold tH
      cases e : frO g fl p with
      | none => rfl
      | some y =>
        show (if toO g fl p = some n then flN fl p * thr w fl p (T y) else 0) = 0
        rw [if_neg (fun q => by rcases only p hp q with y | y; exact h1 y; exact h2 y)])
    have e2 : flH g fl n = fH g fl n (c.2.2 (i - 1)) + fH g fl n (c.2.2 i) := smN_two p1 p2 hne (fun p hp h1 h2 => by
      unfold fH
      rw [if_neg (fun q => by rcases only p hp q with y | y; exact h1 y; exact h2 y)])
    rw [s2, s3]
    have b1 := hok.1 _ p1
    have b2 := hok.1 _ p2
    have x1 := (ac_lt hg p1 q1).2.1
    have x2 := (ac_lt hg p2 q2).1
    have xn := hT.lt hn
    refine i_X2_bring (T' := 0) ht ha hw hN p1 (ac_sym q1) (hfl _) b1 (hTr _ x1) ?_
    generalize hσ1 : (if toO g fl (c.2.2 (i - 1)) = some n then wl σ (t + 11) (c.2.2 (i - 1)) (lN (lsH w g fl T (c.2.2 (i - 1)))) else σ) = σ1
    have u1 : σ1.1 = σ.1 := by rw [← hσ1]; split <;> rfl
    have hN1 : NR σ1 a w g := by
      unfold NR GC
      rw [u1]; exact hN
    refine i_X2_bring (T' := 0) ht ha hw hN1 p2 q2 (by rw [u1]; exact hfl _) b2 (by rw [u1]; exact hTr _ x2) (fun v96 e96 => ?_)
    generalize hσ2 : (if toO g fl (c.2.2 i) = some n then wl σ1 (t + 11) (c.2.2 i) (lN (lsH w g fl T (c.2.2 i))) else σ1) = σ2
    have u2 : σ2.1 = σ.1 := by rw [← hσ2]; split <;> exact u1
    have hG2 : GC σ2 a g := by
      unfold GC
      rw [u2]; exact hN.2.1
    refine i_X2_flowTo ht ha hg hG2 p1 (ac_sym q1) (by rw [u2]; exact hfl _) b1 ?_
    refine i_X2_flowTo ht ha hg hG2 p2 q2 (by rw [u2]; exact hfl _) b2 (fun v118 e118 => ?_)
    rw [nI_add, ← e2, nI_l (by omega)] at e118
    rw [lN_add, ← e1] at e96
    rw [e96, e118]
    refine h σ2 ⟨u2, fun d k hd => ?_, ?_, fun p hp => ⟨fun ⟨y1, y2⟩ => ?_, fun y => ?_⟩⟩
    · have a1 : ∀ (υ : Mem) (p : Nat) (v : Int64), (wl υ (t + 11) p v).2.1 d k = υ.2.1 d k := fun υ p v => by rw [wl_l, if_neg (fun q => hd q.1)]
      rw [← hσ2, ← hσ1]
      by_cases y1 : toO g fl (c.2.2 i) = some n
      · rw [if_pos y1, a1]
        by_cases y2 : toO g fl (c.2.2 (i - 1)) = some n
        · rw [if_pos y2, a1]
        · rw [if_neg y2]
      · rw [if_neg y1]
        by_cases y2 : toO g fl (c.2.2 (i - 1)) = some n
        · rw [if_pos y2, a1]
        · rw [if_neg y2]
    · rw [← hσ2, ← hσ1]
      split <;> split <;> rfl
    · have y3 := only p y1 y2
      rw [← hσ2, ← hσ1]
      by_cases d : p = c.2.2 i
      · rw [← d, if_pos y2, wl_l, if_pos ⟨rfl, rfl⟩]
      · have d2 : p = c.2.2 (i - 1) := by rcases y3 with y3 | y3; exact y3; exact absurd y3 d
        rw [← d2, if_pos y2]
        split
        · rw [wl_l, if_neg (fun q => d q.2), wl_l, if_pos ⟨rfl, rfl⟩]
        · rw [wl_l, if_pos ⟨rfl, rfl⟩]
    · rw [← hσ2, ← hσ1]
      have d1 : toO g fl (c.2.2 i) = some n → p ≠ c.2.2 i := fun q e => y ⟨by rw [e]; exact p2, by rw [e]; exact q⟩
      have d2 : toO g fl (c.2.2 (i - 1)) = some n → p ≠ c.2.2 (i - 1) := fun q e => y ⟨by rw [e]; exact p1, by rw [e]; exact q⟩
      by_cases y1 : toO g fl (c.2.2 i) = some n
      · rw [if_pos y1, wl_l, if_neg (fun q => d1 y1 q.2)]
        by_cases y2 : toO g fl (c.2.2 (i - 1)) = some n
        · rw [if_pos y2, wl_l, if_neg (fun q => d2 y2 q.2)]
        · rw [if_neg y2]
      · rw [if_neg y1]
        by_cases y2 : toO g fl (c.2.2 (i - 1)) = some n
        · rw [if_pos y2, wl_l, if_neg (fun q => d2 y2 q.2)]
        · rw [if_neg y2]
  · obtain ⟨-, s2, s3⟩ := hS.2.2.2.2.2.2.1 n hn n0 hnt
    obtain ⟨v1, -, p1, q1⟩ := hT.up hn n0
    have only : ∀ p, p < g.1 → toO g fl p = some n → p = fp (bfs g 0) n := fun p hp hto => by
      obtain ⟨e, he, -⟩ := to_fr hto
      rcases hpre p e n hp he hto with ⟨-, -, -, -, y⟩ | ⟨j, j0, j1, j2, -⟩
      · exact y
      · exact absurd ⟨j, j0, j1, j2.symm⟩ hnt
    have e1 : smH w g fl T n = tH w g fl T n (fp (bfs g 0) n) := smN_one p1 (fun p hp h1 => by
      unfold tH
      cases e : frO g fl p with
      | none => rfl
      | some y =>
        show (if toO g fl p = some n then flN fl p * thr w fl p (T y) else 0) = 0
        rw [if_neg (fun q => h1 (only p hp q))])
    have e2 : flH g fl n = fH g fl n (fp (bfs g 0) n) := smN_one p1 (fun p hp h1 => by
      unfold fH
      rw [if_neg (fun q => h1 (only p hp q))])
    rw [s2, s3]
    have b1 := hok.1 _ p1
    have x1 := (ac_lt hg p1 q1).2.1
    refine i_X2_bring (T' := 0) ht ha hw hN p1 (ac_sym q1) (hfl _) b1 (hTr _ x1) ?_
    generalize hσ1 : (if toO g fl (fp (bfs g 0) n) = some n then wl σ (t + 11) (fp (bfs g 0) n) (lN (lsH w g fl T (fp (bfs g 0) n))) else σ) = σ1
    have u1 : σ1.1 = σ.1 := by rw [← hσ1]; split <;> rfl
    have hG1 : GC σ1 a g := by
      unfold GC
      rw [u1]; exact hN.2.1
    refine ⟨ht, ha, i_flowTo_0 ht ha ⟨fun q => absurd rfl q, fun _ => isNode_rb (by decide) ⟨fun q => absurd q (by decide), fun _ v96 e96 => ?_⟩⟩⟩
    refine i_X2_flowTo ht ha hg hG1 p1 (ac_sym q1) (by rw [u1]; exact hfl _) b1 (i_flowTo_0 ht ha (fun v118 e118 => ?_))
    have z1 : nI (fH g fl n (fp (bfs g 0) n)) + 0 = nI (fH g fl n (fp (bfs g 0) n)) := Int32.add_zero _
    have z2 : lN (tH w g fl T n (fp (bfs g 0) n)) + 0 = lN (tH w g fl T n (fp (bfs g 0) n)) := Int64.add_zero _
    rw [z1, ← e2, nI_l (by omega)] at e118
    rw [z2, ← e1] at e96
    rw [e96, e118]
    refine h σ1 ⟨u1, fun d k hd => ?_, ?_, fun p hp => ⟨fun ⟨y1, y2⟩ => ?_, fun y => ?_⟩⟩
    · rw [← hσ1]
      split
      · rw [wl_l, if_neg (fun q => hd q.1)]
      · rfl
    · rw [← hσ1]
      split <;> rfl
    · have y3 := only p y1 y2
      rw [← hσ1, ← y3, if_pos y2, wl_l, if_pos ⟨rfl, rfl⟩]
    · rw [← hσ1]
      by_cases y1 : toO g fl (fp (bfs g 0) n) = some n
      · rw [if_pos y1, wl_l, if_neg (fun q => y ⟨by rw [q.2]; exact p1, by rw [q.2]; exact y1⟩)]
      · rw [if_neg y1]
theorem CBase.ch {w : Nat → Int32} {g : Gr} {c : Lp} {dr B : Nat → Nat} {z : Int} {W : List Nat} {t a : Nat} {σ τ : Mem} (h : CBase w g c dr B z W t a σ) (ht : StaA t) (ha : NetA a) (h1 : ∀ b k, b ≠ t + 6 → b ≠ t + 7 → τ.1 b k = σ.1 b k) : CBase w g c dr B z W t a τ := by
  obtain ⟨a1, a2, a3, a4, a5, a6, a7, a8, a9⟩ := h
  have ht2 := staA_is ht
  have hfar := netA_far ha
  have e : ∀ b k, b ≠ t + 6 → b ≠ t + 7 → τ.1 b k = σ.1 b k := h1
  refine ⟨a1, ?_, ?_, ?_, a5, a6, a7, fun i v hi => by rw [e _ _ (by omega) (by omega)]; exact a8 i v hi, a9⟩
  · obtain ⟨b1, b2, b3, b4⟩ := a2
    refine ⟨fun k hk => by rw [e _ _ (by omega) (by omega)]; exact b1 k hk, ⟨by rw [e _ _ (by omega) (by omega)]; exact b2.1, fun p hp => by rw [e _ _ (by omega) (by omega), e _ _ (by omega) (by omega)]; exact b2.2 p hp⟩, fun p hp => by rw [e _ _ (by omega) (by omega), e _ _ (by omega) (by omega)]; exact b3 p hp, fun n hn => ?_⟩
    rw [e _ _ (by omega) (by omega), e _ _ (by omega) (by omega), e _ _ (by omega) (by omega), e _ _ (by omega) (by omega), e _ _ (by omega) (by omega)]
    exact b4 n hn
  · obtain ⟨h1, h2, h3, h4, h5, h6, h7, h8, h9, h10⟩ := a3
    have e' : ∀ b k, b < 53 → τ.1 b k = σ.1 b k := fun b k hb => e b k (by omega) (by omega)
    refine ⟨h1, ⟨by rw [e' _ _ (by decide)]; exact h2.1, fun i hi => by rw [e' _ _ (by decide), e' _ _ (by decide)]; exact h2.2 i hi⟩, fun p hp => by rw [e' _ _ (by decide)]; exact h3 p hp, by rw [e' _ _ (by decide)]; exact h4, fun j hj => by rw [e' _ _ (by decide)]; exact h5 j hj, fun i r hr => by rw [e' _ _ (by decide)]; exact h6 i r hr, fun n a b d => by rw [e' _ _ (by decide), e' _ _ (by decide), e' _ _ (by decide)]; exact h7 n a b d, fun i a b => by rw [e' _ _ (by decide), e' _ _ (by decide), e' _ _ (by decide)]; exact h8 i a b, by rw [e' _ _ (by decide)]; exact h9, by rw [e' _ _ (by decide)]; exact h10.1, by rw [e' _ _ (by decide)]; exact h10.2⟩
  · have : (fun p => τ.1 (t + 2) p) = (fun p => σ.1 (t + 2) p) := by funext p; exact e _ _ (by omega) (by omega)
    rw [this]; exact a4
theorem vc_X2_findTemperatures {x : Ctx} {K : Mem → Prop} {X : String → Mem → Prop} (C : Cx x RX2 cX2_findTemperatures 11) (r : RtV x 4 0 none K X) (t a : Nat) (σ : Mem) (h : sp_X2_findTemperatures t a σ K X) : Ws x 0 0 [(0, .ref t), (1, .ref a), (2, .ref 44)] [] σ := by
  obtain ⟨ht, ha, w, g, c, dr, B, z, W, hb, hK⟩ := h
  have hb0 := hb
  obtain ⟨hw, hN, hS, hF, hW1, hW2, hW3, hW4, hW5⟩ := hb0
  have hg := hw.2.1
  have hP := hg.1
  have hT := bfs_tre hg (by decide : 0 < 10)
  have hL := hS.1.1
  have hok := hF.ok hw hT hL hW1 hW2 hW3 hW5
  have ht2 := staA_is ht
  have hfar := netA_far ha
  obtain ⟨g1, g2⟩ := gd_bd hw
  obtain ⟨sp1, sp2, sp3⟩ := sup_bd hw
  have hlen : W.length = (bfs g 0).length := by
    have h1 := nodup_sub W (nds (bfs g 0)) hW1 (fun n hn => (hW2 n).mp hn)
    have h2 := nodup_sub (nds (bfs g 0)) W hT.1.1 (fun n hn => (hW2 n).mpr hn)
    rw [nds_len] at h1 h2
    omega
  have hl10 := hT.1.len
  have hfrom : ∀ p e n i, p < g.1 → frO g (flR (fun p => σ.1 (t + 2) p)) p = some e → toO g (flR (fun p => σ.1 (t + 2) p)) p = some n → W[i]? = some n → ∃ j : Nat, j < i ∧ W[j]? = some e := fun p e n i hp he hn hi => by
    refine hW3 i n hi e ?_
    rcases hF.pre hw hT hL hp he hn with ⟨a1, a2, a3, a4, -⟩ | ⟨k, k0, k1, k2, k3⟩
    · exact .inl ⟨a1, a2, a3, a4⟩
    · refine .inr ⟨k, k0, k1, k2, ?_⟩
      rcases k3 with ⟨b1, b2, -⟩ | ⟨b1, b2, -⟩
      · exact .inl ⟨b1, b2⟩
      · exact .inr ⟨b1, b2⟩
  have conn : ∀ p n, p < g.1 → toO g (flR (fun p => σ.1 (t + 2) p)) p = some n → n ∈ nds (bfs g 0) := fun p n hp hn => by
    obtain ⟨e, he, -⟩ := to_fr hn
    rcases hF.pre hw hT hL hp he hn with ⟨a1, -⟩ | ⟨k, k0, k1, k2, -⟩
    · exact a1
    · rw [k2]; exact hL.2.2.2.1 k k1
  have hWinj : ∀ i j n, W[i]? = some n → W[j]? = some n → i = j := fun i j n hi hj => by
    rw [← ixn_at hW1 hi, ixn_at hW1 hj]
  generalize hfl : flR (fun p => σ.1 (t + 2) p) = fw at hok hfrom conn hK
  refine sg_X2_findTemperatures_0 C r t a ht ha σ ⟨by rcases ht2 with q | q <;> (rw [q]; decide +kernel), by decide, by rcases ht2 with q | q <;> (rw [q]; decide +kernel), by decide, by rcases ht2 with q | q <;> (rw [q]; decide +kernel), by decide, fun σ40 e40 => ?_⟩
  have main := cnt W.length (fun i (τ : Mem) => 1 ≤ i ∧ (∀ b k, b ≠ t + 6 → τ.1 b k = σ.1 b k) ∧ (∀ b k, b ≠ t + 10 → b ≠ t + 11 → τ.2.1 b k = σ.2.1 b k) ∧ τ.2.2 = σ.2.2 ∧ ∃ T : Nat → Nat, (∀ n, n < 10 → τ.1 (t + 6) n = nI (T n) ∧ gd w ≤ T n ∧ T n ≤ 1200) ∧ (∀ j n, j < i → W[j]? = some n → EqH w g fw T n ∧ τ.2.1 (t + 10) n = lN (rmH w g fw T n)) ∧ (∀ n, n < 10 → (∀ j, j < i → W[j]? ≠ some n) → T n = gd w ∧ τ.2.1 (t + 10) n = 0) ∧ (∀ p, p < 10 → (∀ n j, p < g.1 → toO g fw p = some n → j < i → W[j]? = some n → τ.2.1 (t + 11) p = lN (lsH w g fw T p)) ∧ ((¬ ∃ n j, p < g.1 ∧ toO g fw p = some n ∧ j < i ∧ W[j]? = some n) → τ.2.1 (t + 11) p = 0))) (fun i τ => Ws x 0 43 [(0, .ref t), (1, .ref a), (2, .ref 44), (3, .int (nI i))] [] τ)
    (fun τ ⟨_, i1, i2, i3, T, t1, t2, t3, t4⟩ => by
      refine sg_X2_findTemperatures_43 C r t a _ ht ha τ ?_
      rw [i1 44 2 (by omega), hS.2.2.2.1, ← hlen]
      refine ⟨fun _ => hK τ T i1 i2 i3 (fun n hn => ?_) (fun p hp => ?_), fun q => absurd (nI_le (Nat.le_refl W.length) (by omega)) q⟩
      · by_cases q : n ∈ W
        · obtain ⟨j, hj⟩ := List.getElem?_of_mem q
          obtain ⟨b1, b2⟩ := t2 j n (List.getElem?_eq_some_iff.mp hj).1 hj
          exact ⟨(t1 n hn).1, (t1 n hn).2, b1, b2⟩
        · have hno : ∀ j, j < W.length → W[j]? ≠ some n := fun j _ e => q (List.mem_of_getElem? e)
          obtain ⟨b1, b2⟩ := t3 n hn hno
          have n0 : n ≠ 0 := fun e => q (by rw [e]; exact List.mem_of_getElem? hW5)
          have f0 : flH g fw n = 0 := smN_0 (fun p hp => by
            unfold fH
            rw [if_neg (fun z => q ((hW2 n).mpr (conn p n hp z)))])
          refine ⟨(t1 n hn).1, (t1 n hn).2, ?_, ?_⟩
          · unfold EqH
            rw [if_neg n0, if_pos f0]; exact b1
          · unfold rmH
            rw [if_pos (.inr f0)]; exact b2
      · by_cases q : p < g.1
        · rw [if_pos q]
          cases e : toO g fw p with
          | none =>
            rw [(t4 p hp).2 (by rintro ⟨n, j, -, z, -⟩; rw [e] at z; cases z)]
            have : frO g fw p = none := by
              cases e2 : frO g fw p with
              | none => rfl
              | some y =>
                obtain ⟨m, hm, -⟩ := fr_to e2
                rw [e] at hm; cases hm
            unfold lsH
            rw [this]; rfl
          | some m =>
            obtain ⟨j, hj⟩ := List.getElem?_of_mem ((hW2 m).mpr (conn p m q e))
            exact (t4 p hp).1 m j q e (List.getElem?_eq_some_iff.mp hj).1 hj
        · rw [if_neg q, (t4 p hp).2 (by rintro ⟨n, j, z, -⟩; exact q z)]; rfl)
    (fun i τ hi ⟨ge1, i1, i2, i3, T, t1, t2, t3, t4⟩ ih => by
      obtain ⟨n, hn⟩ : ∃ n, W[i]? = some n := ⟨_, List.getElem?_eq_getElem hi⟩
      have hnL := (hW2 n).mp (List.mem_of_getElem? hn)
      have n10 := hT.lt hnL
      have n0 : n ≠ 0 := fun e => by
        have := hWinj i 0 0 (by rw [← e]; exact hn) hW5
        omega
      have hbτ : CBase w g c dr B z W t a τ := hb.ch ht ha (fun b k h1 _ => i1 b k h1)
      have hflτ : flR (fun p => τ.1 (t + 2) p) = fw := by
        rw [← hfl]
        congr 1
        funext p
        exact i1 _ _ (by omega)
      refine sg_X2_findTemperatures_43 C r t a _ ht ha τ ?_
      rw [i1 44 2 (by omega), hS.2.2.2.1, ← hlen, n_cl (n := i) (by omega), i1 (t + 5) i (by omega), hW4 i n hn]
      refine ⟨fun q => absurd (n_le (by omega) (by omega) q) (by omega), fun _ => ⟨n_inR (by omega) (by decide), fun v57 e57 => ?_⟩⟩
      rw [e57, n_cl (n := n) (by omega)]
      refine ⟨n_inR n10 (by decide), fun v66 e66 => ⟨n_inR n10 (by decide), fun v75 e75 => ?_⟩⟩
      rw [e66, e75]
      have hnew : ∀ j, j < i → W[j]? ≠ some n := fun j hj e => by
        have := hWinj i j n hn e
        omega
      obtain ⟨t3a, t3b⟩ := t3 n n10 hnew
      have hA := fH_le hok hg n
      have hle := tH_le (fl := fw) (fun e he => (t1 e he).2) hg (P := g.1) (n := n) (Nat.le_refl _)
      have p62 : (2 : Nat) ^ 62 = 4611686018427387904 := rfl
      -- other nodes see no change
      have same : ∀ v m, (∃ j, j < i ∧ W[j]? = some m) ∨ m = n → smH w g fw (fun y => if y = n then v else T y) m = smH w g fw T m := fun v m hm => smH_congr (fun p e hp he hto => by
        have : ∃ j, j < i ∧ W[j]? = some e := by
          rcases hm with ⟨j, j1, j2⟩ | hm
          · obtain ⟨k, k1, k2⟩ := hfrom p e m j hp he hto j2
            exact ⟨k, by omega, k2⟩
          · exact hfrom p e m i hp he hto (by rw [hm]; exact hn)
        obtain ⟨k, k1, k2⟩ := this
        show (if e = n then v else T e) = T e
        rw [if_neg (fun q => hnew k k1 (by rw [← q]; exact k2))])
      have sameL : ∀ v p m, p < g.1 → toO g fw p = some m → ((∃ j, j < i ∧ W[j]? = some m) ∨ m = n) → lsH w g fw (fun y => if y = n then v else T y) p = lsH w g fw T p := fun v p m hp hto hm => by
        obtain ⟨e, he, -⟩ := to_fr hto
        have : ∃ j, j < i ∧ W[j]? = some e := by
          rcases hm with ⟨j, j1, j2⟩ | hm
          · obtain ⟨k, k1, k2⟩ := hfrom p e m j hp he hto j2
            exact ⟨k, by omega, k2⟩
          · exact hfrom p e m i hp he hto (by rw [hm]; exact hn)
        obtain ⟨k, k1, k2⟩ := this
        unfold lsH
        rw [he]
        show flN fw p * ((if e = n then v else T e) - thr w fw p (if e = n then v else T e)) = flN fw p * (T e - thr w fw p (T e))
        rw [if_neg (fun q => hnew k k1 (by rw [← q]; exact k2))]
      -- the next place
      have next : ∀ (v rm : Nat) (υ : Mem), (∀ b k, b ≠ t + 6 → υ.1 b k = σ.1 b k) → (∀ b k, b ≠ t + 10 → b ≠ t + 11 → υ.2.1 b k = σ.2.1 b k) → υ.2.2 = σ.2.2 → (∀ m, m < 10 → υ.1 (t + 6) m = nI (if m = n then v else T m)) → gd w ≤ v → v ≤ 1200 → v = (if flH g fw n = 0 then gd w else smH w g fw T n / flH g fw n) → rm = (if flH g fw n = 0 then 0 else smH w g fw T n % flH g fw n) → (∀ m, υ.2.1 (t + 10) m = if m = n then lN rm else τ.2.1 (t + 10) m) → (∀ p, p < 10 → ((p < g.1 ∧ toO g fw p = some n) → υ.2.1 (t + 11) p = lN (lsH w g fw T p)) ∧ (¬ (p < g.1 ∧ toO g fw p = some n) → υ.2.1 (t + 11) p = τ.2.1 (t + 11) p)) → ∀ v152 : Int32, v152 = nI i + 1 → Ws x 0 43 [(0, .ref t), (1, .ref a), (2, .ref 44), (3, .int v152)] [] υ := by
        intro v rm υ u1 u2 u3 u4 v1 v2 ev er u5 u6 v152 e152
        rw [e152, nI_1]
        refine ih υ ⟨by omega, u1, u2, u3, fun y => if y = n then v else T y, fun m hm => ⟨u4 m hm, ?_⟩, fun j m hj hjm => ?_, fun m hm hno => ?_, fun p hp => ⟨fun m j hpg hto hj hjm => ?_, fun hno => ?_⟩⟩
        · show gd w ≤ (if m = n then v else T m) ∧ (if m = n then v else T m) ≤ 1200
          split
          · exact ⟨v1, v2⟩
          · exact (t1 m hm).2
        · by_cases d : m = n
          · subst d
            unfold EqH rmH
            rw [same v m (.inr rfl)]
            refine ⟨?_, ?_⟩
            · show (if m = m then v else T m) = _
              rw [if_pos rfl, if_neg n0]; exact ev
            · rw [u5, if_pos rfl, er]
              congr 1
              by_cases f0 : flH g fw m = 0
              · rw [if_pos f0, if_pos (.inr f0)]
              · rw [if_neg f0, if_neg (by rintro (q | q); exact n0 q; exact f0 q)]
          · have hj' : j < i := by
              have : j ≠ i := fun e => by
                rw [e, hn] at hjm
                injection hjm with hjm
                exact d hjm.symm
              omega
            obtain ⟨b1, b2⟩ := t2 j m hj' hjm
            unfold EqH rmH at *
            rw [same v m (.inl ⟨j, hj', hjm⟩)]
            refine ⟨?_, by rw [u5, if_neg d]; exact b2⟩
            show (if m = n then v else T m) = _
            rw [if_neg d]; exact b1
        · have d : m ≠ n := fun e => hno i (by omega) (by rw [e]; exact hn)
          obtain ⟨b1, b2⟩ := t3 m hm (fun j hj => hno j (by omega))
          refine ⟨?_, by rw [u5, if_neg d]; exact b2⟩
          show (if m = n then v else T m) = gd w
          rw [if_neg d]; exact b1
        · by_cases d : m = n
          · rw [sameL v p m hpg hto (.inr d)]
            exact (u6 p hp).1 ⟨hpg, by rw [← d]; exact hto⟩
          · have hj' : j < i := by
              have : j ≠ i := fun e => by
                rw [e, hn] at hjm
                injection hjm with hjm
                exact d hjm.symm
              omega
            rw [sameL v p m hpg hto (.inl ⟨j, hj', hjm⟩), (u6 p hp).2 (fun q => d (by
              have := q.2
              rw [hto] at this
              injection this))]
            exact (t4 p hp).1 m j hpg hto hj' hjm
        · rw [(u6 p hp).2 (fun q => hno ⟨n, i, q.1, q.2, by omega, hn⟩)]
          exact (t4 p hp).2 (fun ⟨m, j, y1, y2, y3, y4⟩ => hno ⟨m, j, y1, y2, by omega, y4⟩)
      refine bring_pair (X := X) (R := fun v96 v118 σ113 => (v118 ≤ 0 → ∀ v152 : Int32, v152 = nI i + 1 → Ws x 0 43 [(0, .ref t), (1, .ref a), (2, .ref 44), (3, .int v152)] [] σ113) ∧ (¬ v118 ≤ 0 → (¬ v118 = (0 : Int64)) ∧ ((vp_in (nI n) 10) ∧ (∀ σ139 : Mem, σ139 = wi σ113 (t + 6) n ((v96 / v118)).toInt32 → (¬ v118 = (0 : Int64)) ∧ ((vp_in (nI n) 10) ∧ (∀ σ151 : Mem, σ151 = wl σ139 (t + 10) n (v96 - v96 / v118 * v118) → ∀ v152 : Int32, v152 = nI i + 1 → Ws x 0 43 [(0, .ref t), (1, .ref a), (2, .ref 44), (3, .int v152)] [] σ151)))))) ht ha hbτ hnL n0 t1 (fun υ hu => ?_)
      rw [hflτ] at hu ⊢
      obtain ⟨l1, l2, l3, l4⟩ := hu
      have z0 : (0 : Int64) = lN 0 := rfl
      have hle1 : gd w * flH g fw n ≤ smH w g fw T n := hle.1
      have hle2 : smH w g fw T n ≤ 1200 * flH g fw n := hle.2
      rw [z0, pk_lLE (by omega) (by decide), pk_lEQ (by omega) (by decide)]
      refine ⟨fun q v152 e152 => ?_, fun q => ⟨by omega, n_inR n10 (by decide), fun σ139 e139 => ⟨by omega, n_inR n10 (by decide), fun σ151 e151 v152 e152 => ?_⟩⟩⟩
      · have f0 : flH g fw n = 0 := by omega
        refine next (gd w) 0 υ (fun b k hb => by rw [l1]; exact i1 b k hb) (fun b k h1 h2 => by rw [l2 b k h2]; exact i2 b k h1 h2) (by rw [l3, i3]) (fun m hm => ?_) (Nat.le_refl _) (by omega) (by rw [if_pos f0]) (by rw [if_pos f0]) (fun m => ?_) l4 v152 e152
        · rw [l1, (t1 m hm).1]
          by_cases d : m = n
          · rw [if_pos d, d, t3a]
          · rw [if_neg d]
        · rw [l2 _ _ (by omega)]
          by_cases d : m = n
          · rw [if_pos d, d, t3b]; rfl
          · rw [if_neg d]
      · have f0 : ¬ flH g fw n = 0 := by omega
        rw [pk_lDiv (by omega) (by omega) (by omega), lN_i] at e139
        rw [pk_lRem (by omega) (by omega) (by omega)] at e151
        have w1 : gd w ≤ smH w g fw T n / flH g fw n := (Nat.le_div_iff_mul_le (by omega)).mpr hle1
        have w2 : smH w g fw T n / flH g fw n ≤ 1200 := Nat.div_le_of_le_mul (by rw [Nat.mul_comm]; exact hle2)
        refine next (smH w g fw T n / flH g fw n) (smH w g fw T n % flH g fw n) σ151 (fun b k hb => ?_) (fun b k h1 h2 => ?_) ?_ (fun m hm => ?_) w1 w2 (by rw [if_neg f0]) (by rw [if_neg f0]) (fun m => ?_) (fun p hp => ?_) v152 e152
        · rw [e151, wl_i, e139, wi_i, if_neg (fun q => hb q.1), l1]; exact i1 b k hb
        · rw [e151, wl_l, if_neg (fun q => h1 q.1), e139, wi_l, l2 b k h2]; exact i2 b k h1 h2
        · rw [e151, e139]; show υ.2.2 = _; rw [l3, i3]
        · rw [e151, wl_i, e139, wi_i]
          by_cases d : m = n
          · rw [if_pos ⟨rfl, d⟩, if_pos d]
          · rw [if_neg (fun q => d q.2), if_neg d, l1]; exact (t1 m hm).1
        · rw [e151, wl_l]
          by_cases d : m = n
          · rw [if_pos ⟨rfl, d⟩, if_pos d]
          · rw [if_neg (fun q => d q.2), if_neg d, e139, wi_l, l2 _ _ (by omega)]
        · have : σ151.2.1 (t + 11) p = υ.2.1 (t + 11) p := by rw [e151, wl_l, if_neg (fun q => by omega), e139, wi_l]
          rw [this]; exact l4 p hp) 1 σ40 (by have := (List.getElem?_eq_some_iff.mp hW5).1; omega) ?_
  · exact main
  · have eg : σ.1 (a + 1) 1 = nI (gd w) := by rw [hN.1 1 (by decide), g1]
    have es : ∀ υ : Mem, (∀ b k, b ≠ t + 6 → υ.1 b k = σ.1 b k) → υ.1 (a + 1) 0 = nI (nV (w 0)) := fun υ h => by rw [h _ _ (by omega), hN.1 0 (by decide)]; exact sp1
    rw [eg] at e40
    have e0 := es (fl (fl (fi σ (t + 6) 10 (nI (gd w))) (t + 10) 10 0) (t + 11) 10 0) (fun b k hb => by rw [fl_i, fl_i, fi_i, if_neg (fun q => hb q.1)])
    rw [e0] at e40
    refine ⟨Nat.le_refl 1, fun b k hb => ?_, fun b k h1 h2 => ?_, by rw [e40]; rfl, fun y => if y = 0 then nV (w 0) else gd w, fun m hm => ⟨?_, ?_⟩, fun j m hj hjm => ?_, fun m hm hno => ?_, fun p hp => ⟨fun m j hpg hto hj hjm => ?_, fun _ => ?_⟩⟩
    · rw [e40, wi_i, if_neg (fun q => hb q.1), fl_i, fl_i, fi_i, if_neg (fun q => hb q.1)]
    · rw [e40, wi_l, fl_l, if_neg (fun q => h2 q.1), fl_l, if_neg (fun q => h1 q.1), fi_l]
    · rw [e40, wi_i]
      show _ = nI (if m = 0 then nV (w 0) else gd w)
      by_cases d : m = 0
      · rw [if_pos ⟨rfl, d⟩, if_pos d]
      · rw [if_neg (fun q => d q.2), if_neg d, fl_i, fl_i, fi_i, if_pos ⟨rfl, hm⟩]
    · show gd w ≤ (if m = 0 then nV (w 0) else gd w) ∧ (if m = 0 then nV (w 0) else gd w) ≤ 1200
      split <;> omega
    · have j0 : j = 0 := by omega
      rw [j0, hW5] at hjm
      injection hjm with hjm
      subst hjm
      unfold EqH rmH
      refine ⟨?_, ?_⟩
      · show (if (0 : Nat) = 0 then nV (w 0) else gd w) = if (0 : Nat) = 0 then nV (w 0) else _
        rw [if_pos rfl, if_pos rfl]
      · rw [if_pos (.inl rfl), e40, wi_l, fl_l, if_neg (fun q => by omega), fl_l, if_pos ⟨rfl, by decide⟩]; rfl
    · have d : m ≠ 0 := fun e => hno 0 (by omega) (by rw [e]; exact hW5)
      refine ⟨?_, ?_⟩
      · show (if m = 0 then nV (w 0) else gd w) = gd w
        rw [if_neg d]
      · rw [e40, wi_l, fl_l, if_neg (fun q => by omega), fl_l, if_pos ⟨rfl, hm⟩]
    · have j0 : j = 0 := by omega
      rw [j0, hW5] at hjm
      injection hjm with hjm
      exact absurd (by rw [hjm]; exact hto) (hok.2.1 p hpg)
    · rw [e40, wi_l, fl_l, if_pos ⟨rfl, hp⟩]
theorem ct_X2_findTemperatures (t : Nat) (a : Nat) (σ : Mem) (K : Mem → Prop) (X : String → Mem → Prop) (h : sp_X2_findTemperatures t a σ K X) : CtV yX2_findTemperatures cX2_findTemperatures 11 none 4 0 [.ref t, .ref a, .ref 44] σ K X :=
  ctV_of (by decide +kernel) (Nat.le_of_ble_eq_true rfl) (fun x C r => vc_X2_findTemperatures C r t a σ h)
