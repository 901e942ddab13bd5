/-! HeatNetwork$State.findReturns(LHeatNetwork$Network;LHeatNetwork$Shape;)V: level 4, exceptions 0 -/
def sp_X2_findReturns (t a : Nat) (σ : Mem) (K : Mem → Prop) (X : String → Mem → Prop) : Prop := StaA t ∧ NetA a ∧ ∃ (w : Nat → Int32) (g : Gr) (c : Lp) (dr B T : Nat → Nat) (z : Int) (W : List Nat), CBase w g c dr B z W t a σ ∧ (∀ n, n < 10 → σ.1 (t + 1) n = nI (dr n) ∧ dr n ≤ 999 ∧ (¬ hasW w n → dr n = 0) ∧ (n ∉ nds (bfs g 0) → dr n = 0)) ∧ (∀ n, n < 10 → σ.2.1 (t + 10) n = lN (rmH w g (flR (fun p => σ.1 (t + 2) p)) T n)) ∧ (∀ p, p < 10 → σ.2.1 (t + 11) p = lN (if p < g.1 then lsH w g (flR (fun p => σ.1 (t + 2) p)) T p else 0)) ∧ ∀ (τ : Mem) (S : Nat → Nat), (∀ b k, b ≠ t + 7 → τ.1 b k = σ.1 b k) → (∀ b k, b ≠ t + 8 → b ≠ t + 9 → b ≠ t + 10 → b ≠ t + 11 → τ.2.1 b k = σ.2.1 b k) → τ.2.2 = σ.2.2 → (∀ n, n < 10 → τ.1 (t + 7) n = nI (S n) ∧ (gd w ≤ S n ∧ S n ≤ 1200) ∧ EqC w g (flR (fun p => σ.1 (t + 2) p)) dr S n ∧ τ.2.1 (t + 10) n = lN (rmH w g (flR (fun p => σ.1 (t + 2) p)) T n + rmC w g (flR (fun p => σ.1 (t + 2) p)) dr S n)) → (∀ p, p < 10 → τ.2.1 (t + 11) p = lN (if p < g.1 then lsH w g (flR (fun p => σ.1 (t + 2) p)) T p + lsC w g (flR (fun p => σ.1 (t + 2) p)) S p else 0)) → τ.2.1 (t + 8) 0 = lN (flC g (flR (fun p => σ.1 (t + 2) p)) dr 0) → K τ
set_option maxRecDepth 4000 in
theorem sg_X2_findReturns_0 {x : Ctx} {K : Mem → Prop} {X : String → Mem → Prop} (C : Cx x RX2 cX2_findReturns 5) (r : RtV x 4 0 none K X) (t : Nat) (a : Nat) (ht : StaA t) (ha : NetA a) (σ : Mem) (h : sp_J7_fill_53178 (t + 7) 10 (σ.1 (a + 1) 1) σ (fun σ10 => Ws x 0 15 [(0, .ref t), (1, .ref a), (2, .ref 44), (3, .int 0)] [] σ10) X) : Ws x 0 0 [(0, .ref t), (1, .ref a), (2, .ref 44)] [] σ := by
  refine r_aload_n (j := 0) C 1 dX2_findReturns_0 rfl rfl ?_
  refine r_get (k := 6) C cl4 4 dX2_findReturns_1 rfl (sta0 ht) (by decide) wd_285 (.ref (t + 7)) (fun _ => rfl) ?_
  refine r_aload_n (j := 1) C 5 dX2_findReturns_4 rfl rfl ?_
  refine r_get (k := 0) C cl2 8 dX2_findReturns_5 rfl (net0 ha) (by decide) wd_135 (.ref (a + 1)) (fun _ => rfl) ?_
  refine r_iconst C 9 (v := 1) dX2_findReturns_8 rfl (by decide) ?_
  refine r_iald C 10 dX2_findReturns_9 rfl (net1 ha) (n_inR (n := 1) (by decide) (by decide)) ?_
  refine r_cSV (b := 0) (as := [.ref (t + 7), .int (σ.1 (a + 1) 1)]) (S := []) C r.px 13 (ct_J7_fill_53178 _ _ _ _ _ _ h) dX2_findReturns_10 rfl wd_422 wd_461 wd_423 wd_108 yd_J7_fill_53178 ⟨Nat.le_of_ble_eq_true rfl, Nat.le_of_ble_eq_true rfl⟩ (Nat.le_of_ble_eq_true rfl) (by decide) (fun σ10 h => ?_)
  refine r_iconst C 14 (v := 0) dX2_findReturns_13 rfl (by decide) ?_
  refine r_istore_n C 15 [(3, .int 0), (0, .ref t), (1, .ref a), (2, .ref 44)] dX2_findReturns_14 rfl (by decide) rfl ?_
  exact Ws_pick [1, 2, 3, 0] rfl h
set_option maxRecDepth 4000 in
theorem sg_X2_findReturns_15 {x : Ctx} {K : Mem → Prop} {X : String → Mem → Prop} (C : Cx x RX2 cX2_findReturns 5) (r : RtV x 4 0 none K X) (t : Nat) (a : Nat) (i3 : Int32) (ht : StaA t) (ha : NetA a) (σ : Mem) (h : (10 ≤ i3 → ∀ v67 : Int32, v67 = ((σ.1 44 2) - 1) → Ws x 0 68 [(0, .ref t), (1, .ref a), (2, .ref 44), (3, .int v67)] [] σ) ∧ (¬ 10 ≤ i3 → (vp_in i3 10) ∧ ((vp_in i3 10) ∧ (∀ σ33 : Mem, σ33 = wl σ (t + 8) i3.toNatClampNeg ((σ.1 (t + 1) i3.toNatClampNeg)).toInt64 → (vp_in i3 10) ∧ ((vp_in i3 10) ∧ ((vp_in i3 10) ∧ (∀ σ54 : Mem, σ54 = wl σ33 (t + 9) i3.toNatClampNeg (((σ33.1 (t + 1) i3.toNatClampNeg)).toInt64 * ((σ33.1 (a + 7) i3.toNatClampNeg)).toInt64) → ∀ v55 : Int32, v55 = i3 + 1 → Ws x 0 15 [(0, .ref t), (1, .ref a), (2, .ref 44), (3, .int v55)] [] σ54))))))) : Ws x 0 15 [(0, .ref t), (1, .ref a), (2, .ref 44), (3, .int i3)] [] σ := by
  refine r_iload_n (j := 3) C 16 dX2_findReturns_15 rfl rfl ?_
  refine r_bipush C 18 (v := 10) dX2_findReturns_16 rfl (by decide) ?_
  refine r_icmp_ge C 61 21 dX2_findReturns_18 (by decide) rfl (fun c18 => ?_) (fun c18 => ?_)
  · have h := h.1 c18
    refine r_aload_n (j := 2) C 62 dX2_findReturns_61 rfl rfl ?_
    refine r_get (k := 2) C cl3 65 dX2_findReturns_62 rfl kd_44 (by decide) wd_230 (.int (σ.1 44 2)) (fun _ => rfl) ?_
    refine r_iconst C 66 (v := 1) dX2_findReturns_65 rfl (by decide) ?_
    refine r_isub C 67 dX2_findReturns_66 rfl ?_
    refine r_nmI (fun v67 e67 => ?_)
    have h := h v67 e67
    refine r_istore_n C 68 [(3, .int v67), (0, .ref t), (1, .ref a), (2, .ref 44)] dX2_findReturns_67 rfl (by decide) rfl ?_
    exact Ws_pick [1, 2, 3, 0] rfl h
  · have h := h.2 c18
    refine r_aload_n (j := 0) C 22 dX2_findReturns_21 rfl rfl ?_
    refine r_get (k := 7) C cl4 25 dX2_findReturns_22 rfl (sta0 ht) (by decide) wd_287 (.ref (t + 8)) (fun _ => rfl) ?_
    refine r_iload_n (j := 3) C 26 dX2_findReturns_25 rfl rfl ?_
    refine r_aload_n (j := 0) C 27 dX2_findReturns_26 rfl rfl ?_
    refine r_get (k := 0) C cl4 30 dX2_findReturns_27 rfl (sta0 ht) (by decide) wd_276 (.ref (t + 1)) (fun _ => rfl) ?_
    refine r_iload_n (j := 3) C 31 dX2_findReturns_30 rfl rfl ?_
    obtain ⟨o31, h⟩ := h
    refine r_iald C 32 dX2_findReturns_31 rfl (sta1 ht) o31 ?_
    refine r_i2l C 33 dX2_findReturns_32 rfl ?_
    obtain ⟨o33, h⟩ := h
    refine r_last C 34 dX2_findReturns_33 rfl (sta8 ht) o33 ?_
    refine r_nmS (fun σ33 e33 => ?_)
    have h := h σ33 e33
    refine r_aload_n (j := 0) C 35 dX2_findReturns_34 rfl rfl ?_
    refine r_get (k := 8) C cl4 38 dX2_findReturns_35 rfl (sta0 ht) (by decide) wd_288 (.ref (t + 9)) (fun _ => rfl) ?_
    refine r_iload_n (j := 3) C 39 dX2_findReturns_38 rfl rfl ?_
    refine r_aload_n (j := 0) C 40 dX2_findReturns_39 rfl rfl ?_
    refine r_get (k := 0) C cl4 43 dX2_findReturns_40 rfl (sta0 ht) (by decide) wd_276 (.ref (t + 1)) (fun _ => rfl) ?_
    refine r_iload_n (j := 3) C 44 dX2_findReturns_43 rfl rfl ?_
    obtain ⟨o44, h⟩ := h
    refine r_iald C 45 dX2_findReturns_44 rfl (sta1 ht) o44 ?_
    refine r_i2l C 46 dX2_findReturns_45 rfl ?_
    refine r_aload_n (j := 1) C 47 dX2_findReturns_46 rfl rfl ?_
    refine r_get (k := 7) C cl2 50 dX2_findReturns_47 rfl (net0 ha) (by decide) wd_155 (.ref (a + 7)) (fun _ => rfl) ?_
    refine r_iload_n (j := 3) C 51 dX2_findReturns_50 rfl rfl ?_
    obtain ⟨o51, h⟩ := h
    refine r_iald C 52 dX2_findReturns_51 rfl (net7 ha) o51 ?_
    refine r_i2l C 53 dX2_findReturns_52 rfl ?_
    refine r_lmul C 54 dX2_findReturns_53 rfl ?_
    obtain ⟨o54, h⟩ := h
    refine r_last C 55 dX2_findReturns_54 rfl (sta9 ht) o54 ?_
    refine r_nmS (fun σ54 e54 => ?_)
    have h := h σ54 e54
    obtain ⟨v55, e55⟩ : ∃ y : Int32, y = i3 + 1 := ⟨_, rfl⟩
    have h := h v55 e55
    refine r_iinc (j := 3) C 58 [(3, .int v55), (0, .ref t), (1, .ref a), (2, .ref 44)] dX2_findReturns_55 rfl rfl (by rw [e55]; rfl) (by decide) rfl ?_
    refine r_goto C 15 dX2_findReturns_58 (by decide) ?_
    exact Ws_pick [1, 2, 3, 0] rfl h
set_option maxRecDepth 4000 in
theorem sg_X2_findReturns_68 {x : Ctx} {K : Mem → Prop} {X : String → Mem → Prop} (C : Cx x RX2 cX2_findReturns 5) (r : RtV x 4 0 none K X) (t : Nat) (a : Nat) (i3 : Int32) (ht : StaA t) (ha : NetA a) (σ : Mem) (h : (i3 < 0 → K σ) ∧ (¬ i3 < 0 → (vp_in i3 10) ∧ (∀ v78 : Int32, v78 = (σ.1 (t + 5) i3.toNatClampNeg) → (vp_in v78 10) ∧ (((σ.2.1 (t + 8) v78.toNatClampNeg) ≤ 0 → (vp_in v78 10) ∧ (sp_X2_sendBack t a (σ.1 48 v78.toNatClampNeg) v78 σ (fun σ151 => (vp_in v78 10) ∧ (sp_X2_sendBack t a (σ151.1 49 v78.toNatClampNeg) v78 σ151 (fun σ165 => ∀ v168 : Int32, v168 = i3 + (-1) → Ws x 0 68 [(0, .ref t), (1, .ref a), (2, .ref 44), (3, .int v168)] [] σ165) X)) X)) ∧ (¬ (σ.2.1 (t + 8) v78.toNatClampNeg) ≤ 0 → (vp_in v78 10) ∧ ((vp_in v78 10) ∧ ((¬ (σ.2.1 (t + 8) v78.toNatClampNeg) = (0 : Int64)) ∧ ((vp_in v78 10) ∧ (∀ σ114 : Mem, σ114 = wi σ (t + 7) v78.toNatClampNeg (((σ.2.1 (t + 9) v78.toNatClampNeg) / (σ.2.1 (t + 8) v78.toNatClampNeg))).toInt32 → (vp_in v78 10) ∧ ((vp_in v78 10) ∧ ((vp_in v78 10) ∧ ((¬ (σ114.2.1 (t + 8) v78.toNatClampNeg) = (0 : Int64)) ∧ ((vp_in v78 10) ∧ (∀ σ139 : Mem, σ139 = wl σ114 (t + 10) v78.toNatClampNeg ((σ114.2.1 (t + 10) v78.toNatClampNeg) + ((σ114.2.1 (t + 9) v78.toNatClampNeg) - (σ114.2.1 (t + 9) v78.toNatClampNeg) / (σ114.2.1 (t + 8) v78.toNatClampNeg) * (σ114.2.1 (t + 8) v78.toNatClampNeg))) → (vp_in v78 10) ∧ (sp_X2_sendBack t a (σ139.1 48 v78.toNatClampNeg) v78 σ139 (fun σ151 => (vp_in v78 10) ∧ (sp_X2_sendBack t a (σ151.1 49 v78.toNatClampNeg) v78 σ151 (fun σ165 => ∀ v168 : Int32, v168 = i3 + (-1) → Ws x 0 68 [(0, .ref t), (1, .ref a), (2, .ref 44), (3, .int v168)] [] σ165) X)) X))))))))))))))) : Ws x 0 68 [(0, .ref t), (1, .ref a), (2, .ref 44), (3, .int i3)] [] σ := by
  refine r_iload_n (j := 3) C 69 dX2_findReturns_68 rfl rfl ?_
  refine r_if_lt C 174 72 dX2_findReturns_69 (by decide) rfl (fun c69 => ?_) (fun c69 => ?_)
  · have h := h.1 c69
    exact r_vret (S := []) C r dX2_findReturns_174 (by decide) h
  · have h := h.2 c69
    refine r_aload_n (j := 0) C 73 dX2_findReturns_72 rfl rfl ?_
    refine r_get (k := 4) C cl4 76 dX2_findReturns_73 rfl (sta0 ht) (by decide) wd_282 (.ref (t + 5)) (fun _ => rfl) ?_
    refine r_iload_n (j := 3) C 77 dX2_findReturns_76 rfl rfl ?_
    obtain ⟨o77, h⟩ := h
    refine r_iald C 78 dX2_findReturns_77 rfl (sta5 ht) o77 ?_
    refine r_nmI (fun v78 e78 => ?_)
    have h := h v78 e78
    refine r_istore C 80 [(4, .int v78), (0, .ref t), (1, .ref a), (2, .ref 44), (3, .int i3)] dX2_findReturns_78 rfl (by decide) rfl ?_
    refine r_aload_n (j := 1) C 81 dX2_findReturns_80 rfl rfl ?_
    refine r_get (k := 7) C cl4 84 dX2_findReturns_81 rfl (sta0 ht) (by decide) wd_287 (.ref (t + 8)) (fun _ => rfl) ?_
    refine r_iload (j := 0) C 86 dX2_findReturns_84 rfl rfl ?_
    obtain ⟨o86, h⟩ := h
    refine r_lald C 87 dX2_findReturns_86 rfl (sta8 ht) o86 ?_
    refine r_lconst C 88 (v := 0) dX2_findReturns_87 rfl rfl ?_
    refine r_lcmp_le C 89 140 92 dX2_findReturns_88 rfl dX2_findReturns_89 (by decide) rfl (fun c88 => ?_) (fun c88 => ?_)
    · have h := h.1 c88
      refine r_aload_n (j := 1) C 141 dX2_findReturns_140 rfl rfl ?_
      refine r_aload_n (j := 2) C 142 dX2_findReturns_141 rfl rfl ?_
      refine r_aload_n (j := 3) C 143 dX2_findReturns_142 rfl rfl ?_
      refine r_get (k := 4) C cl3 146 dX2_findReturns_143 rfl kd_44 (by decide) wd_235 (.ref 48) (fun _ => rfl) ?_
      refine r_iload (j := 0) C 148 dX2_findReturns_146 rfl rfl ?_
      obtain ⟨o148, h⟩ := h
      refine r_iald C 149 dX2_findReturns_148 rfl kd_48 o148 ?_
      refine r_iload (j := 0) C 151 dX2_findReturns_149 rfl rfl ?_
      refine r_cVV (as := [.ref a, .int (σ.1 48 v78.toNatClampNeg), .int v78]) (S := []) C r.px 154 (ct_X2_sendBack _ _ _ _ _ _ _ h) dX2_findReturns_151 rfl cl4 (sta0 ht) wd_20 wd_557 rfl wd_555 wd_558 wd_93 yd_X2_sendBack ⟨Nat.le_of_ble_eq_true rfl, Nat.le_of_ble_eq_true rfl⟩ (Nat.le_of_ble_eq_true rfl) (by decide) (fun σ151 h => ?_)
      refine r_aload_n (j := 1) C 155 dX2_findReturns_154 rfl rfl ?_
      refine r_aload_n (j := 2) C 156 dX2_findReturns_155 rfl rfl ?_
      refine r_aload_n (j := 3) C 157 dX2_findReturns_156 rfl rfl ?_
      refine r_get (k := 5) C cl3 160 dX2_findReturns_157 rfl kd_44 (by decide) wd_237 (.ref 49) (fun _ => rfl) ?_
      refine r_iload (j := 0) C 162 dX2_findReturns_160 rfl rfl ?_
      obtain ⟨o162, h⟩ := h
      refine r_iald C 163 dX2_findReturns_162 rfl kd_49 o162 ?_
      refine r_iload (j := 0) C 165 dX2_findReturns_163 rfl rfl ?_
      refine r_cVV (as := [.ref a, .int (σ151.1 49 v78.toNatClampNeg), .int v78]) (S := []) C r.px 168 (ct_X2_sendBack _ _ _ _ _ _ _ h) dX2_findReturns_165 rfl cl4 (sta0 ht) wd_20 wd_557 rfl wd_555 wd_558 wd_93 yd_X2_sendBack ⟨Nat.le_of_ble_eq_true rfl, Nat.le_of_ble_eq_true rfl⟩ (Nat.le_of_ble_eq_true rfl) (by decide) (fun σ165 h => ?_)
      obtain ⟨v168, e168⟩ : ∃ y : Int32, y = i3 + (-1) := ⟨_, rfl⟩
      have h := h v168 e168
      refine r_iinc (j := 4) C 171 [(3, .int v168), (4, .int v78), (0, .ref t), (1, .ref a), (2, .ref 44)] dX2_findReturns_168 rfl rfl (by rw [e168]; rfl) (by decide) rfl ?_
      refine r_goto C 68 dX2_findReturns_171 (by decide) ?_
      exact Ws_pick [2, 3, 4, 0] rfl h
    · have h := h.2 c88
      refine r_aload_n (j := 1) C 93 dX2_findReturns_92 rfl rfl ?_
      refine r_get (k := 6) C cl4 96 dX2_findReturns_93 rfl (sta0 ht) (by decide) wd_285 (.ref (t + 7)) (fun _ => rfl) ?_
      refine r_iload (j := 0) C 98 dX2_findReturns_96 rfl rfl ?_
      refine r_aload_n (j := 1) C 99 dX2_findReturns_98 rfl rfl ?_
      refine r_get (k := 8) C cl4 102 dX2_findReturns_99 rfl (sta0 ht) (by decide) wd_288 (.ref (t + 9)) (fun _ => rfl) ?_
      refine r_iload (j := 0) C 104 dX2_findReturns_102 rfl rfl ?_
      obtain ⟨o104, h⟩ := h
      refine r_lald C 105 dX2_findReturns_104 rfl (sta9 ht) o104 ?_
      refine r_aload_n (j := 1) C 106 dX2_findReturns_105 rfl rfl ?_
      refine r_get (k := 7) C cl4 109 dX2_findReturns_106 rfl (sta0 ht) (by decide) wd_287 (.ref (t + 8)) (fun _ => rfl) ?_
      refine r_iload (j := 0) C 111 dX2_findReturns_109 rfl rfl ?_
      obtain ⟨o111, h⟩ := h
      refine r_lald C 112 dX2_findReturns_111 rfl (sta8 ht) o111 ?_
      obtain ⟨o112, h⟩ := h
      refine r_ldiv C 113 dX2_findReturns_112 rfl o112 ?_
      refine r_l2i C 114 dX2_findReturns_113 rfl ?_
      obtain ⟨o114, h⟩ := h
      refine r_iast C 115 dX2_findReturns_114 rfl (sta7 ht) o114 ?_
      refine r_nmS (fun σ114 e114 => ?_)
      have h := h σ114 e114
      refine r_aload_n (j := 1) C 116 dX2_findReturns_115 rfl rfl ?_
      refine r_get (k := 9) C cl4 119 dX2_findReturns_116 rfl (sta0 ht) (by decide) wd_289 (.ref (t + 10)) (fun _ => rfl) ?_
      refine r_iload (j := 0) C 121 dX2_findReturns_119 rfl rfl ?_
      refine r_dup2 C 122 dX2_findReturns_121 rfl rfl rfl ?_
      obtain ⟨o122, h⟩ := h
      refine r_lald C 123 dX2_findReturns_122 rfl (sta10 ht) o122 ?_
      refine r_aload_n (j := 1) C 124 dX2_findReturns_123 rfl rfl ?_
      refine r_get (k := 8) C cl4 127 dX2_findReturns_124 rfl (sta0 ht) (by decide) wd_288 (.ref (t + 9)) (fun _ => rfl) ?_
      refine r_iload (j := 0) C 129 dX2_findReturns_127 rfl rfl ?_
      obtain ⟨o129, h⟩ := h
      refine r_lald C 130 dX2_findReturns_129 rfl (sta9 ht) o129 ?_
      refine r_aload_n (j := 1) C 131 dX2_findReturns_130 rfl rfl ?_
      refine r_get (k := 7) C cl4 134 dX2_findReturns_131 rfl (sta0 ht) (by decide) wd_287 (.ref (t + 8)) (fun _ => rfl) ?_
      refine r_iload (j := 0) C 136 dX2_findReturns_134 rfl rfl ?_
      obtain ⟨o136, h⟩ := h
      refine r_lald C 137 dX2_findReturns_136 rfl (sta8 ht) o136 ?_
      obtain ⟨o137, h⟩ := h
      refine r_lrem C 138 dX2_findReturns_137 rfl o137 ?_
      refine r_ladd C 139 dX2_findReturns_138 rfl ?_
      obtain ⟨o139, h⟩ := h
      refine r_last C 140 dX2_findReturns_139 rfl (sta10 ht) o139 ?_
      refine r_nmS (fun σ139 e139 => ?_)
      have h := h σ139 e139
      refine r_aload_n (j := 1) C 141 dX2_findReturns_140 rfl rfl ?_
      refine r_aload_n (j := 2) C 142 dX2_findReturns_141 rfl rfl ?_
      refine r_aload_n (j := 3) C 143 dX2_findReturns_142 rfl rfl ?_
      refine r_get (k := 4) C cl3 146 dX2_findReturns_143 rfl kd_44 (by decide) wd_235 (.ref 48) (fun _ => rfl) ?_
      refine r_iload (j := 0) C 148 dX2_findReturns_146 rfl rfl ?_
      obtain ⟨o148, h⟩ := h
      refine r_iald C 149 dX2_findReturns_148 rfl kd_48 o148 ?_
      refine r_iload (j := 0) C 151 dX2_findReturns_149 rfl rfl ?_
      refine r_cVV (as := [.ref a, .int (σ139.1 48 v78.toNatClampNeg), .int v78]) (S := []) C r.px 154 (ct_X2_sendBack _ _ _ _ _ _ _ h) dX2_findReturns_151 rfl cl4 (sta0 ht) wd_20 wd_557 rfl wd_555 wd_558 wd_93 yd_X2_sendBack ⟨Nat.le_of_ble_eq_true rfl, Nat.le_of_ble_eq_true rfl⟩ (Nat.le_of_ble_eq_true rfl) (by decide) (fun σ151 h => ?_)
      refine r_aload_n (j := 1) C 155 dX2_findReturns_154 rfl rfl ?_
      refine r_aload_n (j := 2) C 156 dX2_findReturns_155 rfl rfl ?_
      refine r_aload_n (j := 3) C 157 dX2_findReturns_156 rfl rfl ?_
      refine r_get (k := 5) C cl3 160 dX2_findReturns_157 rfl kd_44 (by decide) wd_237 (.ref 49) (fun _ => rfl) ?_
      refine r_iload (j := 0) C 162 dX2_findReturns_160 rfl rfl ?_
      obtain ⟨o162, h⟩ := h
      refine r_iald C 163 dX2_findReturns_162 rfl kd_49 o162 ?_
      refine r_iload (j := 0) C 165 dX2_findReturns_163 rfl rfl ?_
      refine r_cVV (as := [.ref a, .int (σ151.1 49 v78.toNatClampNeg), .int v78]) (S := []) C r.px 168 (ct_X2_sendBack _ _ _ _ _ _ _ h) dX2_findReturns_165 rfl cl4 (sta0 ht) wd_20 wd_557 rfl wd_555 wd_558 wd_93 yd_X2_sendBack ⟨Nat.le_of_ble_eq_true rfl, Nat.le_of_ble_eq_true rfl⟩ (Nat.le_of_ble_eq_true rfl) (by decide) (fun σ165 h => ?_)
      obtain ⟨v168, e168⟩ : ∃ y : Int32, y = i3 + (-1) := ⟨_, rfl⟩
      have h := h v168 e168
      refine r_iinc (j := 4) C 171 [(3, .int v168), (4, .int v78), (0, .ref t), (1, .ref a), (2, .ref 44)] dX2_findReturns_168 rfl rfl (by rw [e168]; rfl) (by decide) rfl ?_
      refine r_goto C 68 dX2_findReturns_171 (by decide) ?_
      exact Ws_pick [2, 3, 4, 0] rfl h
theorem smC_congr {w : Nat → Int32} {g : Gr} {fl : Nat → Int} {dr T T' : Nat → Nat} {n : Nat} (h : ∀ p e, p < g.1 → toO g fl p = some e → frO g fl p = some n → T e = T' e) : smC w g fl dr T n = smC w g fl dr T' n := by
  unfold smC
  congr 1
  refine smN_congr (fun p hp => ?_)
  unfold tC
  cases e : toO g fl p with
  | none => rfl
  | some y =>
    show (if frO g fl p = some n then flN fl p * thr w fl p (T y) else 0) = if frO g fl p = some n then flN fl p * thr w fl p (T' y) else 0
    by_cases q : frO g fl p = some n
    · rw [if_pos q, if_pos q, h p y hp e q]
    · rw [if_neg q, if_neg q]
theorem send_pair {t a n : Nat} {w : Nat → Int32} {g : Gr} {c : Lp} {dr B T S : Nat → Nat} {z : Int} {W : List Nat} {Q : Nat → Bool} {σ : Mem} {X : String → Mem → Prop} {R : Mem → Prop} (ht : StaA t) (ha : NetA a) (hb : CBase w g c dr B z W t a σ) (hn : n ∈ nds (bfs g 0)) (hS' : σ.1 (t + 7) n = nI (S n) ∧ gd w ≤ S n ∧ S n ≤ 1200) (hB : BkS w g (flR (fun p => σ.1 (t + 2) p)) dr T S Q t σ) (hq : ∀ p, p < g.1 → toO g (flR (fun p => σ.1 (t + 2) p)) p = some n → Q p = false) (h : ∀ τ : Mem, SbU t σ τ → BkS w g (flR (fun p => σ.1 (t + 2) p)) dr T S (fun q => Q q || decide (toO g (flR (fun p => σ.1 (t + 2) p)) q = some n)) t τ → R τ) : sp_X2_sendBack t a (σ.1 48 n) (nI n) σ (fun σ151 => (vp_in (nI n) 10) ∧ (sp_X2_sendBack t a (σ151.1 49 n) (nI n) σ151 (fun σ165 => R σ165) X)) X := by
  obtain ⟨hw, hN, hS, hF, hW1, hW2, hW3, hW4, hW5⟩ := hb
  have hg := hw.2.1
  have hP := hg.1
  have hT := bfs_tre hg (by decide : 0 < 10)
  have hL := hS.1.1
  have hok := hF.ok hw hT hL hW1 hW2 hW3 hW5
  have hfl : ∀ p, σ.1 (t + 2) p = zI (flR (fun p => σ.1 (t + 2) p) p) := fun p => flR_z (fun p => σ.1 (t + 2) p) p
  have hpre := fun p e m hp he hm => hF.pre (p := p) (e := e) (n := m) hw hT hL hp he hm
  generalize flR (fun p => σ.1 (t + 2) p) = fw at hok hfl hpre h hB hq
  have ht2 := staA_is ht
  have hfar := netA_far ha
  have n10 := hT.lt hn
  have trans : ∀ {σ1 σ2 : Mem}, SbU t σ σ1 → SbU t σ1 σ2 → SbU t σ σ2 := fun u v => ⟨v.1.trans u.1, fun d k h1 h2 h3 => (v.2.1 d k h1 h2 h3).trans (u.2.1 d k h1 h2 h3), v.2.2.trans u.2.2⟩
  by_cases n0 : n = 0
  · rw [n0, hS.2.2.2.2.2.2.2.2.1]
    refine i_sendBack_0 ht ha ⟨n_inR (by decide) (by decide), ?_⟩
    rw [hS.2.2.2.2.2.2.2.2.2.1]
    refine i_sendBack_0 ht ha (h σ ⟨rfl, fun _ _ _ _ _ => rfl, rfl⟩ (hB.congr (fun p hp => ?_) (fun _ _ _ _ _ => rfl) (fun _ => rfl) (fun _ => rfl) (fun _ => rfl)))
    rw [n0]
    rw [decide_eq_false (hok.2.1 p hp), Bool.or_false]
  by_cases hnt : inT c n
  · obtain ⟨i, i0, i1, i2⟩ := id hnt
    obtain ⟨-, s2, s3⟩ := hS.2.2.2.2.2.2.2.1 i i0 i1
    rw [i2] at s2 s3
    obtain ⟨p1, q1⟩ := hL.2.1 (i - 1) (by omega)
    obtain ⟨p2, q2⟩ := hL.2.1 i i1
    have enx : nxt c (i - 1) = i := by unfold nxt; rw [if_neg (by omega)]; omega
    rw [enx, i2] at q1
    rw [i2] at q2
    have hne : c.2.2 i ≠ c.2.2 (i - 1) := fun e => by
      have := hL.pinj i1 (by omega) e
      omega
    have only : ∀ p, p < g.1 → toO g fw p = some n → p = c.2.2 (i - 1) ∨ p = c.2.2 i := fun p hp hto => by
      obtain ⟨e, he, -⟩ := to_fr hto
      rcases hpre p e n hp he hto with ⟨-, -, y, -⟩ | ⟨j, j0, j1, j2, j3⟩
      · exact absurd hnt y
      · have : i = j := hL.1 i j i1 j1 (by rw [i2, j2])
        subst this
        rcases j3 with ⟨-, -, y⟩ | ⟨-, -, y⟩
        · exact .inl y
        · exact .inr y
    rw [s2]
    refine i_X2_sendBack ht ha hw hN p1 (ac_sym q1) (hfl _) (hok.1 _ p1) hS' hB (fun y => hq _ p1 y) (fun σ1 u1 b1 => ⟨n_inR n10 (by decide), ?_⟩)
    rw [u1.1, s3]
    have hN1 : NR σ1 a w g := by
      unfold NR GC
      rw [u1.1]; exact hN
    refine i_X2_sendBack ht ha hw hN1 p2 q2 (by rw [u1.1]; exact hfl _) (hok.1 _ p2) (by rw [u1.1]; exact hS') b1 (fun y => ?_) (fun σ2 u2 b2 => h σ2 (trans u1 u2) (b2.congr (fun p hp => ?_) (fun _ _ _ _ _ => rfl) (fun _ => rfl) (fun _ => rfl) (fun _ => rfl)))
    · show ((decide (c.2.2 i = c.2.2 (i - 1)) && _) || Q (c.2.2 i)) = false
      rw [decide_eq_false hne, hq _ p2 y]; rfl
    · show (Q p || decide (toO g fw p = some n)) = ((decide (p = c.2.2 i) && decide (toO g fw (c.2.2 i) = some n)) || ((decide (p = c.2.2 (i - 1)) && decide (toO g fw (c.2.2 (i - 1)) = some n)) || Q p))
      by_cases y : toO g fw p = some n
      · rcases only p hp y with d | d
        · rw [← d]; simp [y]
        · rw [← d]; simp [y]
      · have y1 : ¬ (p = c.2.2 i ∧ toO g fw (c.2.2 i) = some n) := fun ⟨z1, z2⟩ => y (by rw [z1]; exact z2)
        have y2 : ¬ (p = c.2.2 (i - 1) ∧ toO g fw (c.2.2 (i - 1)) = some n) := fun ⟨z1, z2⟩ => y (by rw [z1]; exact z2)
        rw [← Bool.decide_and, ← Bool.decide_and, decide_eq_false y1, decide_eq_false y2, decide_eq_false y]; simp
  · obtain ⟨-, s2, s3⟩ := hS.2.2.2.2.2.2.1 n hn n0 hnt
    obtain ⟨v1, -, p1, q1⟩ := hT.up hn n0
    have only : ∀ p, p < g.1 → toO g fw p = some n → p = fp (bfs g 0) n := fun p hp hto => by
      obtain ⟨e, he, -⟩ := to_fr hto
      rcases hpre p e n hp he hto with ⟨-, -, -, -, y⟩ | ⟨j, j0, j1, j2, -⟩
      · exact y
      · exact absurd ⟨j, j0, j1, j2.symm⟩ hnt
    rw [s2]
    refine i_X2_sendBack ht ha hw hN p1 (ac_sym q1) (hfl _) (hok.1 _ p1) hS' hB (fun y => hq _ p1 y) (fun σ1 u1 b1 => ⟨n_inR n10 (by decide), ?_⟩)
    rw [u1.1, s3]
    refine i_sendBack_0 ht ha (h σ1 u1 (b1.congr (fun p hp => ?_) (fun _ _ _ _ _ => rfl) (fun _ => rfl) (fun _ => rfl) (fun _ => rfl)))
    show (Q p || decide (toO g fw p = some n)) = ((decide (p = fp (bfs g 0) n) && decide (toO g fw (fp (bfs g 0) n) = some n)) || Q p)
    by_cases y : toO g fw p = some n
    · have d := only p hp y
      rw [← d]; simp [y]
    · have y1 : ¬ (p = fp (bfs g 0) n ∧ toO g fw (fp (bfs g 0) n) = some n) := fun ⟨z1, z2⟩ => y (by rw [z1]; exact z2)
      rw [← Bool.decide_and, decide_eq_false y1, decide_eq_false y]; simp
theorem vc_X2_findReturns {x : Ctx} {K : Mem → Prop} {X : String → Mem → Prop} (C : Cx x RX2 cX2_findReturns 5) (r : RtV x 4 0 none K X) (t a : Nat) (σ : Mem) (h : sp_X2_findReturns t a σ K X) : Ws x 0 0 [(0, .ref t), (1, .ref a), (2, .ref 44)] [] σ := by
  obtain ⟨ht, ha, w, g, c, dr, B, T, z, W, hb, hd, hrm, hls, hK⟩ := h
  have hb0 := hb
  obtain ⟨hw, hN, hS, hF, hW1, hW2, hW3, hW4, hW5⟩ := hb0
  have hg := hw.2.1
  have hP := hg.1
  have hT := bfs_tre hg (by decide : 0 < 10)
  have hL := hS.1.1
  have hok := hF.ok hw hT hL hW1 hW2 hW3 hW5
  have ht2 := staA_is ht
  have hfar := netA_far ha
  obtain ⟨g1, g2⟩ := gd_bd hw
  have hlen : W.length = (bfs g 0).length := by
    have h1 := nodup_sub W (nds (bfs g 0)) hW1 (fun n hn => (hW2 n).mp hn)
    have h2 := nodup_sub (nds (bfs g 0)) W hT.1.1 (fun n hn => (hW2 n).mpr hn)
    rw [nds_len] at h1 h2
    omega
  have hl10 := hT.1.len
  have hl1 : 0 < W.length := (List.getElem?_eq_some_iff.mp hW5).1
  have hPre : ∀ p e n, p < g.1 → frO g (flR (fun p => σ.1 (t + 2) p)) p = some e → toO g (flR (fun p => σ.1 (t + 2) p)) p = some n → n ∈ nds (bfs g 0) ∧ PreW (bfs g 0) c (lf g (bfs g 0) c dr B z) e n := fun p e n hp he hn => by
    rcases hF.pre hw hT hL hp he hn with ⟨a1, a2, a3, a4, -⟩ | ⟨k, k0, k1, k2, k3⟩
    · exact ⟨a1, .inl ⟨a1, a2, a3, a4⟩⟩
    · refine ⟨by rw [k2]; exact hL.2.2.2.1 k k1, .inr ⟨k, k0, k1, k2, ?_⟩⟩
      rcases k3 with ⟨b1, b2, -⟩ | ⟨b1, b2, -⟩
      · exact .inl ⟨b1, b2⟩
      · exact .inr ⟨b1, b2⟩
  -- from the node at place i water goes to a later place
  have hto : ∀ p e i, p < g.1 → W[i]? = some e → frO g (flR (fun p => σ.1 (t + 2) p)) p = some e → ∃ (j n : Nat), i < j ∧ W[j]? = some n ∧ toO g (flR (fun p => σ.1 (t + 2) p)) p = some n := fun p e i hp hi he => by
    obtain ⟨n, hn, -⟩ := fr_to he
    obtain ⟨a1, a2⟩ := hPre p e n hp he hn
    obtain ⟨j, hj⟩ := List.getElem?_of_mem ((hW2 n).mpr a1)
    obtain ⟨k, k1, k2⟩ := hW3 j n hj e a2
    have : k = i := by rw [← ixn_at hW1 hi, ixn_at hW1 k2]
    exact ⟨j, n, by omega, hj, hn⟩
  have hfrW : ∀ p e, p < g.1 → frO g (flR (fun p => σ.1 (t + 2) p)) p = some e → e ∈ W := fun p e hp he => by
    obtain ⟨n, hn, -⟩ := fr_to he
    obtain ⟨a1, a2⟩ := hPre p e n hp he hn
    obtain ⟨j, hj⟩ := List.getElem?_of_mem ((hW2 n).mpr a1)
    obtain ⟨k, -, k2⟩ := hW3 j n hj e a2
    exact List.mem_of_getElem? k2
  have hWinj : ∀ i j n, W[i]? = some n → W[j]? = some n → i = j := fun i j n hi hj => by
    rw [← ixn_at hW1 hi, ixn_at hW1 hj]
  have hconn : ∀ p n, p < g.1 → toO g (flR (fun p => σ.1 (t + 2) p)) p = some n → n ∈ W := fun p n hp hn => by
    obtain ⟨e, he, -⟩ := to_fr hn
    exact (hW2 n).mpr (hPre p e n hp he hn).1
  have hflE : ∀ τ : Mem, (∀ b k, b ≠ t + 7 → τ.1 b k = σ.1 b k) → flR (fun p => τ.1 (t + 2) p) = flR (fun p => σ.1 (t + 2) p) := fun τ hτ => by
    congr 1
    funext p
    exact hτ _ _ (by omega)
  generalize hfw : flR (fun p => σ.1 (t + 2) p) = fw at hok hto hfrW hconn hflE hrm hls hK
  have p62 : (2 : Nat) ^ 62 = 4611686018427387904 := rfl
  have main : ∀ (d : Nat) (τ : Mem), d ≤ W.length → (∀ b k, b ≠ t + 7 → τ.1 b k = σ.1 b k) → (∀ b k, b ≠ t + 8 → b ≠ t + 9 → b ≠ t + 10 → b ≠ t + 11 → τ.2.1 b k = σ.2.1 b k) → τ.2.2 = σ.2.2 → ∀ (S : Nat → Nat) (Q : Nat → Bool), (∀ n, n < 10 → τ.1 (t + 7) n = nI (S n) ∧ gd w ≤ S n ∧ S n ≤ 1200) → BkS w g fw dr T S Q t τ → (∀ p, p < g.1 → (Q p = true ↔ ∃ j n, d ≤ j ∧ W[j]? = some n ∧ toO g fw p = some n)) → (∀ j n, d ≤ j → W[j]? = some n → EqC w g fw dr S n ∧ τ.2.1 (t + 10) n = lN (rmH w g fw T n + rmC w g fw dr S n)) → (∀ n, n < 10 → (∀ j, d ≤ j → W[j]? ≠ some n) → S n = gd w ∧ τ.2.1 (t + 10) n = lN (rmH w g fw T n)) → Ws x 0 68 [(0, .ref t), (1, .ref a), (2, .ref 44), (3, .int (nI d + (-1)))] [] τ := by
    intro d
    induction d with
    | zero =>
      intro τ _ i1 i2 i3 S Q s1 s2 s3 s4 s5
      refine sg_X2_findReturns_68 C r t a _ ht ha τ ⟨fun _ => hK τ S i1 i2 i3 (fun n hn => ?_) (fun p hp => ?_) ?_, fun q => absurd (by decide) q⟩
      · by_cases q : n ∈ W
        · obtain ⟨j, hj⟩ := List.getElem?_of_mem q
          obtain ⟨b1, b2⟩ := s4 j n (Nat.zero_le _) hj
          exact ⟨(s1 n hn).1, (s1 n hn).2, b1, b2⟩
        · obtain ⟨b1, b2⟩ := s5 n hn (fun j _ e => q (List.mem_of_getElem? e))
          have d0 := (hd n hn).2.2.2 (fun z => q ((hW2 n).mpr z))
          have f0 : flC g fw dr n = 0 := by
            unfold flC
            rw [d0, smN_0 (fun p hp => by
              unfold fC
              rw [if_neg (fun z => q (hfrW p n hp z))])]
          refine ⟨(s1 n hn).1, (s1 n hn).2, ?_, ?_⟩
          · unfold EqC
            rw [if_pos f0]; exact b1
          · unfold rmC
            rw [if_pos f0, Nat.add_zero]; exact b2
      · rw [s2.2 p hp]
        by_cases q : p < g.1
        · rw [if_pos q, if_pos q]
          by_cases y : Q p = true
          · rw [if_pos y]
          · rw [if_neg y]
            have : toO g fw p = none := by
              cases e : toO g fw p with
              | none => rfl
              | some n =>
                obtain ⟨j, hj⟩ := List.getElem?_of_mem (hconn p n q e)
                exact absurd ((s3 p q).mpr ⟨j, n, Nat.zero_le _, hj, e⟩) y
            have l0 : lsC w g fw S p = 0 := by unfold lsC; rw [this]
            rw [l0]
        · rw [if_neg q, if_neg q]
      · rw [(s2.1 0 (by decide)).1]
        unfold flC
        congr 2
        refine smN_congr (fun p hp => ?_)
        unfold fQ fC
        by_cases y : frO g fw p = some 0
        · obtain ⟨j, n, -, hj, hn⟩ := hto p 0 0 hp hW5 y
          rw [if_pos ⟨y, (s3 p hp).mpr ⟨j, n, Nat.zero_le _, hj, hn⟩⟩, if_pos y]
        · rw [if_neg (fun z => y z.1), if_neg y]
    | succ d ih =>
      intro τ hdl i1 i2 i3 S Q s1 s2 s3 s4 s5
      rw [pk_m1]
      obtain ⟨n, hn⟩ : ∃ n, W[d]? = some n := ⟨_, List.getElem?_eq_getElem (by omega)⟩
      have hnL := (hW2 n).mp (List.mem_of_getElem? hn)
      have n10 := hT.lt hnL
      have hbτ : CBase w g c dr B z W t a τ := hb.ch ht ha (fun b k _ h2 => i1 b k h2)
      have hflτ := hflE τ i1
      obtain ⟨t5a, t5b⟩ := s5 n n10 (fun j hj e => by have := hWinj d j n hn e; omega)
      -- all that goes out of n has been sent back
      have eF : smN (fQ g fw Q n) g.1 = smN (fC g fw n) g.1 := smN_congr (fun p hp => by
        unfold fQ fC
        by_cases y : frO g fw p = some n
        · obtain ⟨j, m, hj1, hj, hm⟩ := hto p n d hp hn y
          rw [if_pos ⟨y, (s3 p hp).mpr ⟨j, m, by omega, hj, hm⟩⟩, if_pos y]
        · rw [if_neg (fun z => y z.1), if_neg y])
      have eT : smN (tQ w g fw S Q n) g.1 = smN (tC w g fw S n) g.1 := smN_congr (fun p hp => by
        unfold tQ tC
        cases e : toO g fw p with
        | none => rfl
        | some y =>
          show (if frO g fw p = some n ∧ Q p = true then flN fw p * thr w fw p (S y) else 0) = if frO g fw p = some n then flN fw p * thr w fw p (S y) else 0
          by_cases y : frO g fw p = some n
          · obtain ⟨j, m, hj1, hj, hm⟩ := hto p n d hp hn y
            rw [if_pos ⟨y, (s3 p hp).mpr ⟨j, m, by omega, hj, hm⟩⟩, if_pos y]
          · rw [if_neg (fun z => y z.1), if_neg y])
      have f8 : τ.2.1 (t + 8) n = lN (flC g fw dr n) := by rw [(s2.1 n n10).1, eF]; rfl
      have f9 : τ.2.1 (t + 9) n = lN (smC w g fw dr S n) := by rw [(s2.1 n n10).2, eT]; rfl
      obtain ⟨d1, d2, d3, -⟩ := hd n n10
      have hle := tC_le (fl := fw) (fun e he => (s1 e he).2) hg (P := g.1) (n := n) (Nat.le_refl _)
      have hfl := fC_le hok hg n
      have hret : dr n * nV (w (48 + 6 * n + 2)) ≤ 1200 * dr n ∧ gd w * dr n ≤ dr n * nV (w (48 + 6 * n + 2)) := by
        by_cases q : hasW w n
        · obtain ⟨-, q2, -⟩ := hw.2.2.2.2.2.2.2.2.2.2.2.2 n n10 q
          obtain ⟨-, a1, a2⟩ := q2.val (by decide)
          rw [Nat.mul_comm 1200, Nat.mul_comm (gd w)]
          exact ⟨Nat.mul_le_mul_left _ (by omega), Nat.mul_le_mul_left _ (by omega)⟩
        · rw [d3 q]; simp
      have hA : flC g fw dr n ≤ 400000 := by unfold flC; omega
      have hS1 : smC w g fw dr S n ≤ 1200 * flC g fw dr n := by unfold smC flC; rw [Nat.mul_add]; omega
      have hS2 : gd w * flC g fw dr n ≤ smC w g fw dr S n := by unfold smC flC; rw [Nat.mul_add]; omega
      have samS : ∀ v m j, d ≤ j → W[j]? = some m → smC w g fw dr (fun y => if y = n then v else S y) m = smC w g fw dr S m := fun v m j hj hm => smC_congr (fun p e hp he hfr => by
        obtain ⟨k, q, k1, k2, k3⟩ := hto p m j hp hm hfr
        rw [he] at k3
        injection k3 with k3
        show (if e = n then v else S e) = S e
        rw [if_neg]
        intro y
        have := hWinj d k n hn (by rw [← y, k3]; exact k2)
        omega)
      have hQn : ∀ p, p < g.1 → toO g fw p = some n → Q p = false := fun p hp hton => by
        cases e : Q p
        · rfl
        · obtain ⟨j, m, hj1, hj, hm⟩ := (s3 p hp).mp e
          rw [hton] at hm
          injection hm with hm
          have := hWinj d j n hn (by rw [hm]; exact hj)
          omega
      -- behind the sending
      have fin : ∀ (v rm : Nat) (υ : Mem), (∀ b k, b ≠ t + 7 → υ.1 b k = σ.1 b k) → (∀ b k, b ≠ t + 8 → b ≠ t + 9 → b ≠ t + 10 → b ≠ t + 11 → υ.2.1 b k = σ.2.1 b k) → υ.2.2 = σ.2.2 → (∀ k, υ.2.1 (t + 8) k = τ.2.1 (t + 8) k) → (∀ k, υ.2.1 (t + 9) k = τ.2.1 (t + 9) k) → (∀ k, υ.2.1 (t + 11) k = τ.2.1 (t + 11) k) → (∀ m, m < 10 → υ.1 (t + 7) m = nI (if m = n then v else S m)) → gd w ≤ v → v ≤ 1200 → v = (if flC g fw dr n = 0 then gd w else smC w g fw dr S n / flC g fw dr n) → rm = (if flC g fw dr n = 0 then 0 else smC w g fw dr S n % flC g fw dr n) → (∀ m, υ.2.1 (t + 10) m = if m = n then lN (rmH w g fw T n + rm) else τ.2.1 (t + 10) m) → sp_X2_sendBack t a (υ.1 48 n) (nI n) υ (fun σ151 => (vp_in (nI n) 10) ∧ (sp_X2_sendBack t a (σ151.1 49 n) (nI n) σ151 (fun σ165 => ∀ v168 : Int32, v168 = nI d + (-1) → Ws x 0 68 [(0, .ref t), (1, .ref a), (2, .ref 44), (3, .int v168)] [] σ165) X)) X := by
        intro v rm υ u1 u2 u3 u8 u9 u11 u7 v1 v2 ev er u10
        have hbυ : CBase w g c dr B z W t a υ := hb.ch ht ha (fun b k _ h2 => u1 b k h2)
        have hflυ := hflE υ u1
        refine send_pair (S := fun y => if y = n then v else S y) (T := T) (Q := Q) ht ha hbυ hnL ⟨u7 n n10, ?_⟩ ?_ (by rw [hflυ]; exact hQn) (fun υ2 w1 w2 v168 e168 => ?_)
        · show gd w ≤ (if n = n then v else S n) ∧ (if n = n then v else S n) ≤ 1200
          rw [if_pos rfl]; exact ⟨v1, v2⟩
        · rw [hflυ]
          refine s2.congr (fun _ _ => rfl) (fun p e hp hq he => ?_) u8 u9 u11
          show (if e = n then v else S e) = S e
          rw [if_neg]
          intro y
          rw [y] at he
          rw [hQn p hp he] at hq
          cases hq
        · rw [hflυ] at w2
          rw [e168]
          refine ih υ2 (by omega) (fun b k hb => by rw [w1.1]; exact u1 b k hb) (fun b k h1 h2 h3 h4 => by rw [w1.2.1 b k h1 h2 h4]; exact u2 b k h1 h2 h3 h4) (by rw [w1.2.2]; exact u3) (fun y => if y = n then v else S y) _ (fun m hm => ⟨by rw [w1.1]; exact u7 m hm, ?_⟩) w2 (fun p hp => ?_) (fun j m hj hjm => ?_) (fun m hm hno => ?_)
          · show gd w ≤ (if m = n then v else S m) ∧ (if m = n then v else S m) ≤ 1200
            split
            · exact ⟨v1, v2⟩
            · exact (s1 m hm).2
          · show (Q p || decide (toO g fw p = some n)) = true ↔ _
            rw [Bool.or_eq_true, s3 p hp, decide_eq_true_iff]
            constructor
            · rintro (⟨j, m, y1, y2, y3⟩ | y)
              · exact ⟨j, m, by omega, y2, y3⟩
              · exact ⟨d, n, Nat.le_refl d, hn, y⟩
            · rintro ⟨j, m, y1, y2, y3⟩
              by_cases e : j = d
              · rw [e, hn] at y2
                injection y2 with y2
                rw [← y2] at y3
                exact .inr y3
              · exact .inl ⟨j, m, by omega, y2, y3⟩
          · have e10 : υ2.2.1 (t + 10) m = υ.2.1 (t + 10) m := w1.2.1 _ _ (by omega) (by omega) (by omega)
            have sm := samS v m j hj hjm
            by_cases e : m = n
            · subst e
              unfold EqC rmC
              rw [sm, e10, u10, if_pos rfl]
              refine ⟨?_, by rw [er]⟩
              show (if m = m then v else S m) = _
              rw [if_pos rfl]; exact ev
            · have hj' : d + 1 ≤ j := by
                have : j ≠ d := fun y => by
                  rw [y, hn] at hjm
                  injection hjm with hjm
                  exact e hjm.symm
                omega
              obtain ⟨b1, b2⟩ := s4 j m hj' hjm
              unfold EqC rmC at *
              rw [sm, e10, u10, if_neg e]
              refine ⟨?_, b2⟩
              show (if m = n then v else S m) = _
              rw [if_neg e]; exact b1
          · have e : m ≠ n := fun y => hno d (Nat.le_refl d) (by rw [y]; exact hn)
            obtain ⟨b1, b2⟩ := s5 m hm (fun j hj => hno j (by omega))
            have e10 : υ2.2.1 (t + 10) m = υ.2.1 (t + 10) m := w1.2.1 _ _ (by omega) (by omega) (by omega)
            refine ⟨?_, by rw [e10, u10, if_neg e]; exact b2⟩
            show (if m = n then v else S m) = gd w
            rw [if_neg e]; exact b1
      have z0 : (0 : Int64) = lN 0 := rfl
      refine sg_X2_findReturns_68 C r t a _ ht ha τ ⟨fun q => absurd q (nI_pos (by omega)), fun _ => ⟨n_inR (by omega) (by decide), fun v78 e78 => ?_⟩⟩
      rw [n_cl (by omega), i1 (t + 5) d (by omega), hW4 d n hn] at e78
      subst e78
      rw [n_cl (n := n) (by omega), f8, f9, z0, pk_lLE (by omega) (by decide), pk_lEQ (by omega) (by decide)]
      refine ⟨n_inR n10 (by decide), fun q => ⟨n_inR n10 (by decide), ?_⟩, fun q => ⟨n_inR n10 (by decide), n_inR n10 (by decide), by omega, n_inR n10 (by decide), fun σ114 e114 => ?_⟩⟩
      · have f0 : flC g fw dr n = 0 := by omega
        refine fin (gd w) 0 τ i1 i2 i3 (fun _ => rfl) (fun _ => rfl) (fun _ => rfl) (fun m hm => ?_) (Nat.le_refl _) (by omega) (by rw [if_pos f0]) (by rw [if_pos f0]) (fun m => ?_)
        · rw [(s1 m hm).1]
          by_cases e : m = n
          · rw [if_pos e, e, t5a]
          · rw [if_neg e]
        · by_cases e : m = n
          · rw [if_pos e, e, t5b, Nat.add_zero]
          · rw [if_neg e]
      · have f0 : ¬ flC g fw dr n = 0 := by omega
        rw [pk_lDiv (by omega) (by omega) (by omega), lN_i] at e114
        have c8 : σ114.2.1 (t + 8) n = lN (flC g fw dr n) := by rw [e114]; exact f8
        have c9 : σ114.2.1 (t + 9) n = lN (smC w g fw dr S n) := by rw [e114]; exact f9
        have c10 : σ114.2.1 (t + 10) n = lN (rmH w g fw T n) := by rw [e114]; exact t5b
        rw [c8, c9, c10, pk_lRem (by omega) (by omega) (by omega), lN_add, pk_lEQ (by omega) (by decide)]
        refine ⟨n_inR n10 (by decide), n_inR n10 (by decide), n_inR n10 (by decide), by omega, n_inR n10 (by decide), fun σ139 e139 => ⟨n_inR n10 (by decide), ?_⟩⟩
        have w1 : gd w ≤ smC w g fw dr S n / flC g fw dr n := (Nat.le_div_iff_mul_le (by omega)).mpr hS2
        have w2 : smC w g fw dr S n / flC g fw dr n ≤ 1200 := Nat.div_le_of_le_mul (by rw [Nat.mul_comm]; exact hS1)
        refine fin (smC w g fw dr S n / flC g fw dr n) (smC w g fw dr S n % flC g fw dr n) σ139 (fun b k hb => ?_) (fun b k h1 h2 h3 h4 => ?_) ?_ (fun k => ?_) (fun k => ?_) (fun k => ?_) (fun m hm => ?_) w1 w2 (by rw [if_neg f0]) (by rw [if_neg f0]) (fun m => ?_)
        · rw [e139, wl_i, e114, wi_i, if_neg (fun q => hb q.1)]; exact i1 b k hb
        · rw [e139, wl_l, if_neg (fun q => h3 q.1), e114, wi_l]; exact i2 b k h1 h2 h3 h4
        · rw [e139, e114]; exact i3
        · rw [e139, wl_l, if_neg (fun q => by omega), e114, wi_l]
        · rw [e139, wl_l, if_neg (fun q => by omega), e114, wi_l]
        · rw [e139, wl_l, if_neg (fun q => by omega), e114, wi_l]
        · rw [e139, wl_i, e114, wi_i]
          by_cases e : m = n
          · rw [if_pos ⟨rfl, e⟩, if_pos e]
          · rw [if_neg (fun q => e q.2), if_neg e]; exact (s1 m hm).1
        · rw [e139, wl_l]
          by_cases e : m = n
          · rw [if_pos ⟨rfl, e⟩, if_pos e]
          · rw [if_neg (fun q => e q.2), if_neg e, e114, wi_l]
  have eg : σ.1 (a + 1) 1 = nI (gd w) := by rw [hN.1 1 (by decide), g1]
  refine sg_X2_findReturns_0 C r t a ht ha σ ⟨by rcases ht2 with q | q <;> (rw [q]; decide +kernel), by decide, ?_⟩
  rw [eg]
  have key := cnt 10 (fun k τ => (∀ b j, b ≠ t + 7 → τ.1 b j = σ.1 b j) ∧ (∀ n, n < 10 → τ.1 (t + 7) n = nI (gd w)) ∧ (∀ b j, b ≠ t + 8 → b ≠ t + 9 → τ.2.1 b j = σ.2.1 b j) ∧ τ.2.2 = σ.2.2 ∧ ∀ n, n < k → τ.2.1 (t + 8) n = lN (dr n) ∧ τ.2.1 (t + 9) n = lN (dr n * nV (w (48 + 6 * n + 2)))) (fun k τ => Ws x 0 15 [(0, .ref t), (1, .ref a), (2, .ref 44), (3, .int (nI k))] [] τ)
    (fun τ ⟨j1, j2, j3, j4, j5⟩ => by
      refine sg_X2_findReturns_15 C r t a _ ht ha τ ⟨fun _ v67 e67 => ?_, fun q => (lit_lt (by decide) (Nat.le_refl 10) (by decide) q).elim⟩
      have e67 : v67 = nI W.length + (-1) := by
        rw [e67, j1 44 2 (by omega), hS.2.2.2.1, hlen]
        obtain ⟨m, hm⟩ : ∃ m, (bfs g 0).length = m + 1 := ⟨(bfs g 0).length - 1, by omega⟩
        rw [hm, nI_pred, pk_m1]
      rw [e67]
      refine main W.length τ (Nat.le_refl _) j1 (fun b k h1 h2 _ _ => j3 b k h1 h2) j4 (fun _ => gd w) (fun _ => false) (fun n hn => ⟨j2 n hn, Nat.le_refl _, by omega⟩) ⟨fun n hn => ?_, fun p hp => ?_⟩ (fun p hp => ⟨fun q => absurd q (by decide), fun ⟨j, n, y1, y2, _⟩ => ?_⟩) (fun j n y1 y2 => ?_) (fun n hn _ => ⟨rfl, by rw [j3 _ _ (by omega) (by omega)]; exact hrm n hn⟩)
      · rw [smN_0 (f := fQ g fw (fun _ => false) n) (fun p hp => by unfold fQ; rw [if_neg (fun q => Bool.false_ne_true q.2)]), smN_0 (f := tQ w g fw (fun _ => gd w) (fun _ => false) n) (fun p hp => by
          unfold tQ
          cases toO g fw p with
          | none => rfl
          | some y =>
            show (if frO g fw p = some n ∧ false = true then flN fw p * thr w fw p (gd w) else 0) = 0
            rw [if_neg (fun q => Bool.false_ne_true q.2)]), Nat.add_zero, Nat.add_zero]
        exact j5 n hn
      · rw [j3 _ _ (by omega) (by omega), hls p hp]
        by_cases q : p < g.1
        · rw [if_pos q, if_pos q, if_neg (fun q => Bool.false_ne_true q), Nat.add_zero]
        · rw [if_neg q, if_neg q]
      · have := (List.getElem?_eq_some_iff.mp y2).1
        omega
      · have := (List.getElem?_eq_some_iff.mp y2).1
        omega)
    (fun k τ hk ⟨j1, j2, j3, j4, j5⟩ ih => by
      obtain ⟨d1, d2, d3, -⟩ := hd k hk
      refine sg_X2_findReturns_15 C r t a _ ht ha τ ⟨fun q => (lit_ge (by decide) hk q).elim, fun _ => ⟨n_inR hk (by decide), n_inR hk (by decide), fun σ33 e33 => ⟨n_inR hk (by decide), n_inR hk (by decide), n_inR hk (by decide), fun σ54 e54 v55 e55 => ?_⟩⟩⟩
      rw [n_cl (by omega), j1 _ _ (by omega), d1, nI_l (by omega)] at e33
      have h33 : ∀ b j, σ33.1 b j = τ.1 b j := fun b j => by rw [e33]; rfl
      have hh : (σ33.1 (t + 1) k).toInt64 * (σ33.1 (a + 7) k).toInt64 = lN (dr k * nV (w (48 + 6 * k + 2))) := by
        rw [h33, h33, j1 _ _ (by omega), j1 _ _ (by omega), d1, nI_l (by omega)]
        by_cases q : hasW w k
        · obtain ⟨-, q2, -⟩ := hw.2.2.2.2.2.2.2.2.2.2.2.2 k hk q
          obtain ⟨a0, a1, a2⟩ := q2.val (by decide)
          rw [((hN.2.2.2 k hk).1 q).2.1, a0, nI_l (by omega), lN_mul, ← a0]
        · rw [d3 q, Nat.zero_mul]
          exact Int64.zero_mul
      rw [n_cl (by omega), hh] at e54
      rw [e55, nI_1]
      refine ih σ54 ⟨fun b j hb => by rw [e54, wl_i, h33]; exact j1 b j hb, fun n hn => by rw [e54, wl_i, h33]; exact j2 n hn, fun b j h1 h2 => by rw [e54, wl_l, if_neg (fun q => h2 q.1), e33, wl_l, if_neg (fun q => h1 q.1)]; exact j3 b j h1 h2, by rw [e54, e33]; exact j4, fun n hn => ?_⟩
      rw [e54, wl_l, if_neg (fun q => by omega), wl_l, e33, wl_l, wl_l]
      by_cases e : n = k
      · rw [if_pos ⟨rfl, e⟩, if_pos ⟨rfl, e⟩, e]; exact ⟨rfl, rfl⟩
      · rw [if_neg (fun q => e q.2), if_neg (fun q => e q.2), if_neg (fun q => by omega)]; exact j5 n (by omega)) 0 (fi σ (t + 7) 10 (nI (gd w))) (Nat.zero_le _) ⟨fun b j hb => by rw [fi_i, if_neg (fun q => hb q.1)], fun n hn => by rw [fi_i, if_pos ⟨rfl, hn⟩], fun _ _ _ _ => rfl, rfl, fun n hn => absurd hn (Nat.not_lt_zero n)⟩
  exact key
theorem ct_X2_findReturns (t : Nat) (a : Nat) (σ : Mem) (K : Mem → Prop) (X : String → Mem → Prop) (h : sp_X2_findReturns t a σ K X) : CtV yX2_findReturns cX2_findReturns 5 none 4 0 [.ref t, .ref a, .ref 44] σ K X :=
  ctV_of (by decide +kernel) (Nat.le_of_ble_eq_true rfl) (fun x C r => vc_X2_findReturns C r t a σ h)
