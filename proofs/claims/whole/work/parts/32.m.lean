/-! HeatNetwork$State.findLoopFlows(LHeatNetwork$Network;LHeatNetwork$Shape;)V: level 4, exceptions 0 -/
def sp_X2_findLoopFlows (t a : Nat) (σ : Mem) (K : Mem → Prop) (X : String → Mem → Prop) : Prop := StaA t ∧ NetA a ∧ ∃ (w : Nat → Int32) (g : Gr) (c : Lp) (dr B : Nat → Nat), WFw w g ∧ NR σ a w g ∧ Shp g (bfs g 0) c σ ∧ EqB g (bfs g 0) c dr B ∧ (∀ n, n ∈ nds (bfs g 0) → B n ≤ 9990 ∧ σ.1 (t + 4) n = nI (B n)) ∧ ∀ (τ : Mem) (z : Int), Ch t (t + 3) σ τ → (∀ k, τ.1 t k = σ.1 t k) → (∀ k, τ.1 (t + 1) k = σ.1 (t + 1) k) → (0 < c.1 → XS g (bfs g 0) c dr B (rsW w) z) → τ.2.1 t 12 = zL (if c.1 = 0 then 0 else sumD g (bfs g 0) c dr B (rsW w) z) → (∀ k, k < c.1 → τ.1 (t + 3) k = zI (z - skF g (bfs g 0) c dr B k) ∧ τ.1 (t + 2) (c.2.2 k) = zI (sgn g (c.2.2 k) (c.2.1 k) (z - skF g (bfs g 0) c dr B k))) → (∀ p, ¬ inQ c p → τ.1 (t + 2) p = σ.1 (t + 2) p) → K τ
set_option maxRecDepth 4000 in
theorem sg_X2_findLoopFlows_0 {x : Ctx} {K : Mem → Prop} {X : String → Mem → Prop} (C : Cx x RX2 cX2_findLoopFlows 7) (r : RtV x 4 0 none K X) (t : Nat) (a : Nat) (ht : StaA t) (ha : NetA a) (σ : Mem) (h : ∀ σ2 : Mem, σ2 = wl σ t 12 0 → (¬ (σ2.1 44 8) = 0 → Ws x 0 21 [(0, .ref t), (1, .ref a), (2, .ref 44), (3, .int 0), (4, .int 0), (5, .int 1)] [] σ2) ∧ ((σ2.1 44 8) = 0 → K σ2)) : Ws x 0 0 [(0, .ref t), (1, .ref a), (2, .ref 44)] [] σ := by
  refine r_aload_n (j := 0) C 1 dX2_findLoopFlows_0 rfl rfl ?_
  refine r_lconst C 2 (v := 0) dX2_findLoopFlows_1 rfl rfl ?_
  refine r_putL (k := 12) C cl4 5 dX2_findLoopFlows_2 rfl (sta0 ht) (by decide) wd_295 rfl rfl ?_
  refine r_nmS (fun σ2 e2 => ?_)
  have h := h σ2 e2
  refine r_aload_n (j := 2) C 6 dX2_findLoopFlows_5 rfl rfl ?_
  refine r_get (k := 8) C cl3 9 dX2_findLoopFlows_6 rfl kd_44 (by decide) wd_244 (.int (σ2.1 44 8)) (fun _ => rfl) ?_
  refine r_if_ne C 13 12 dX2_findLoopFlows_9 (by decide) rfl (fun c9 => ?_) (fun c9 => ?_)
  · have h := h.1 c9
    refine r_iconst C 14 (v := 0) dX2_findLoopFlows_13 rfl (by decide) ?_
    refine r_istore_n C 15 [(3, .int 0), (0, .ref t), (1, .ref a), (2, .ref 44)] dX2_findLoopFlows_14 rfl (by decide) rfl ?_
    refine r_iconst C 16 (v := 0) dX2_findLoopFlows_15 rfl (by decide) ?_
    refine r_istore C 18 [(4, .int 0), (3, .int 0), (0, .ref t), (1, .ref a), (2, .ref 44)] dX2_findLoopFlows_16 rfl (by decide) rfl ?_
    refine r_iconst C 19 (v := 1) dX2_findLoopFlows_18 rfl (by decide) ?_
    refine r_istore C 21 [(5, .int 1), (4, .int 0), (3, .int 0), (0, .ref t), (1, .ref a), (2, .ref 44)] dX2_findLoopFlows_19 rfl (by decide) rfl ?_
    exact Ws_pick [3, 4, 5, 2, 1, 0] rfl h
  · have h := h.2 c9
    exact r_vret (S := []) C r dX2_findLoopFlows_12 (by decide) h
set_option maxRecDepth 4000 in
theorem sg_X2_findLoopFlows_21 {x : Ctx} {K : Mem → Prop} {X : String → Mem → Prop} (C : Cx x RX2 cX2_findLoopFlows 7) (r : RtV x 4 0 none K X) (t : Nat) (a : Nat) (i3 : Int32) (i4 : Int32) (i5 : Int32) (ht : StaA t) (ha : NetA a) (σ : Mem) (h : ((σ.1 44 8) ≤ i5 → Ws x 0 56 [(0, .ref t), (1, .ref a), (2, .ref 44), (3, .int i3), (4, .int i4), (5, .int 0)] [] σ) ∧ (¬ (σ.1 44 8) ≤ i5 → (vp_in i5 10) ∧ ((vp_in (σ.1 50 i5.toNatClampNeg) 10) ∧ (∀ v45 : Int32, v45 = (i4 + (σ.1 (t + 4) ((σ.1 50 i5.toNatClampNeg)).toNatClampNeg)) → ∀ v47 : Int32, v47 = i5 + 1 → Ws x 0 21 [(0, .ref t), (1, .ref a), (2, .ref 44), (3, .int i3), (4, .int v45), (5, .int v47)] [] σ)))) : Ws x 0 21 [(0, .ref t), (1, .ref a), (2, .ref 44), (3, .int i3), (4, .int i4), (5, .int i5)] [] σ := by
  refine r_iload (j := 5) C 23 dX2_findLoopFlows_21 rfl rfl ?_
  refine r_aload_n (j := 2) C 24 dX2_findLoopFlows_23 rfl rfl ?_
  refine r_get (k := 8) C cl3 27 dX2_findLoopFlows_24 rfl kd_44 (by decide) wd_244 (.int (σ.1 44 8)) (fun _ => rfl) ?_
  refine r_icmp_ge C 53 30 dX2_findLoopFlows_27 (by decide) rfl (fun c27 => ?_) (fun c27 => ?_)
  · have h := h.1 c27
    refine r_iconst C 54 (v := 0) dX2_findLoopFlows_53 rfl (by decide) ?_
    refine r_istore C 56 [(5, .int 0), (0, .ref t), (1, .ref a), (2, .ref 44), (3, .int i3), (4, .int i4)] dX2_findLoopFlows_54 rfl (by decide) rfl ?_
    exact Ws_pick [1, 2, 3, 4, 5, 0] rfl h
  · have h := h.2 c27
    refine r_iload (j := 4) C 32 dX2_findLoopFlows_30 rfl rfl ?_
    refine r_aload_n (j := 0) C 33 dX2_findLoopFlows_32 rfl rfl ?_
    refine r_get (k := 3) C cl4 36 dX2_findLoopFlows_33 rfl (sta0 ht) (by decide) wd_281 (.ref (t + 4)) (fun _ => rfl) ?_
    refine r_aload_n (j := 2) C 37 dX2_findLoopFlows_36 rfl rfl ?_
    refine r_get (k := 6) C cl3 40 dX2_findLoopFlows_37 rfl kd_44 (by decide) wd_239 (.ref 50) (fun _ => rfl) ?_
    refine r_iload (j := 5) C 42 dX2_findLoopFlows_40 rfl rfl ?_
    obtain ⟨o42, h⟩ := h
    refine r_iald C 43 dX2_findLoopFlows_42 rfl kd_50 o42 ?_
    obtain ⟨o43, h⟩ := h
    refine r_iald C 44 dX2_findLoopFlows_43 rfl (sta4 ht) o43 ?_
    refine r_iadd C 45 dX2_findLoopFlows_44 rfl ?_
    refine r_nmI (fun v45 e45 => ?_)
    have h := h v45 e45
    refine r_istore C 47 [(4, .int v45), (0, .ref t), (1, .ref a), (2, .ref 44), (3, .int i3), (5, .int i5)] dX2_findLoopFlows_45 rfl (by decide) rfl ?_
    obtain ⟨v47, e47⟩ : ∃ y : Int32, y = i5 + 1 := ⟨_, rfl⟩
    have h := h v47 e47
    refine r_iinc (j := 5) C 50 [(5, .int v47), (4, .int v45), (0, .ref t), (1, .ref a), (2, .ref 44), (3, .int i3)] dX2_findLoopFlows_47 rfl rfl (by rw [e47]; rfl) (by decide) rfl ?_
    refine r_goto C 21 dX2_findLoopFlows_50 (by decide) ?_
    exact Ws_pick [2, 3, 4, 5, 1, 0] rfl h
set_option maxRecDepth 4000 in
theorem sg_X2_findLoopFlows_56 {x : Ctx} {K : Mem → Prop} {X : String → Mem → Prop} (C : Cx x RX2 cX2_findLoopFlows 7) (r : RtV x 4 0 none K X) (t : Nat) (a : Nat) (i3 : Int32) (i4 : Int32) (i5 : Int32) (ht : StaA t) (ha : NetA a) (σ : Mem) (h : (32 ≤ i5 → sp_X2_sendRound t a i3 σ (fun r113 σ113 => ∀ σ116 : Mem, σ116 = wl σ113 t 12 r113 → Ws x 0 122 [(0, .ref t), (1, .ref a), (2, .ref 44), (5, .int 0)] [] σ116) X) ∧ (¬ 32 ≤ i5 → (i4 ≤ i3 → sp_X2_sendRound t a i3 σ (fun r113 σ113 => ∀ σ116 : Mem, σ116 = wl σ113 t 12 r113 → Ws x 0 122 [(0, .ref t), (1, .ref a), (2, .ref 44), (5, .int 0)] [] σ116) X) ∧ (¬ i4 ≤ i3 → (¬ 2 = (0 : Int32)) ∧ (∀ v75 : Int32, v75 = ((i3 + i4) / 2) → sp_X2_sendRound t a v75 σ (fun r82 σ82 => (r82 < 0 → ∀ v101 : Int32, v101 = (v75 + 1) → ∀ v102 : Int32, v102 = i5 + 1 → Ws x 0 56 [(0, .ref t), (1, .ref a), (2, .ref 44), (3, .int v101), (4, .int i4), (5, .int v102)] [] σ82) ∧ (¬ r82 < 0 → ∀ v102 : Int32, v102 = i5 + 1 → Ws x 0 56 [(0, .ref t), (1, .ref a), (2, .ref 44), (3, .int i3), (4, .int v75), (5, .int v102)] [] σ82)) X)))) : Ws x 0 56 [(0, .ref t), (1, .ref a), (2, .ref 44), (3, .int i3), (4, .int i4), (5, .int i5)] [] σ := by
  refine r_iload (j := 5) C 58 dX2_findLoopFlows_56 rfl rfl ?_
  refine r_bipush C 60 (v := 32) dX2_findLoopFlows_58 rfl (by decide) ?_
  refine r_icmp_ge C 108 63 dX2_findLoopFlows_60 (by decide) rfl (fun c60 => ?_) (fun c60 => ?_)
  · have h := h.1 c60
    refine r_aload_n (j := 0) C 109 dX2_findLoopFlows_108 rfl rfl ?_
    refine r_aload_n (j := 0) C 110 dX2_findLoopFlows_109 rfl rfl ?_
    refine r_aload_n (j := 1) C 111 dX2_findLoopFlows_110 rfl rfl ?_
    refine r_aload_n (j := 2) C 112 dX2_findLoopFlows_111 rfl rfl ?_
    refine r_iload_n (j := 3) C 113 dX2_findLoopFlows_112 rfl rfl ?_
    refine r_cVL (as := [.ref a, .ref 44, .int i3]) (S := [.ref t]) C r.px 116 (ct_X2_sendRound _ _ _ _ _ _ h) dX2_findLoopFlows_113 rfl cl4 (sta0 ht) wd_12 wd_504 rfl wd_502 wd_505 wd_93 yd_X2_sendRound ⟨Nat.le_of_ble_eq_true rfl, Nat.le_of_ble_eq_true rfl⟩ (Nat.le_of_ble_eq_true rfl) (by decide) (fun r113 σ113 h => ?_)
    refine r_putL (k := 12) C cl4 119 dX2_findLoopFlows_116 rfl (sta0 ht) (by decide) wd_295 rfl rfl ?_
    refine r_nmS (fun σ116 e116 => ?_)
    have h := h σ116 e116
    refine r_iconst C 120 (v := 0) dX2_findLoopFlows_119 rfl (by decide) ?_
    refine r_istore C 122 [(5, .int 0), (0, .ref t), (1, .ref a), (2, .ref 44), (3, .int i3), (4, .int i4)] dX2_findLoopFlows_120 rfl (by decide) rfl ?_
    exact Ws_pick [1, 2, 3, 0] rfl h
  · have h := h.2 c60
    refine r_iload_n (j := 3) C 64 dX2_findLoopFlows_63 rfl rfl ?_
    refine r_iload (j := 4) C 66 dX2_findLoopFlows_64 rfl rfl ?_
    refine r_icmp_ge C 108 69 dX2_findLoopFlows_66 (by decide) rfl (fun c66 => ?_) (fun c66 => ?_)
    · have h := h.1 c66
      refine r_aload_n (j := 0) C 109 dX2_findLoopFlows_108 rfl rfl ?_
      refine r_aload_n (j := 0) C 110 dX2_findLoopFlows_109 rfl rfl ?_
      refine r_aload_n (j := 1) C 111 dX2_findLoopFlows_110 rfl rfl ?_
      refine r_aload_n (j := 2) C 112 dX2_findLoopFlows_111 rfl rfl ?_
      refine r_iload_n (j := 3) C 113 dX2_findLoopFlows_112 rfl rfl ?_
      refine r_cVL (as := [.ref a, .ref 44, .int i3]) (S := [.ref t]) C r.px 116 (ct_X2_sendRound _ _ _ _ _ _ h) dX2_findLoopFlows_113 rfl cl4 (sta0 ht) wd_12 wd_504 rfl wd_502 wd_505 wd_93 yd_X2_sendRound ⟨Nat.le_of_ble_eq_true rfl, Nat.le_of_ble_eq_true rfl⟩ (Nat.le_of_ble_eq_true rfl) (by decide) (fun r113 σ113 h => ?_)
      refine r_putL (k := 12) C cl4 119 dX2_findLoopFlows_116 rfl (sta0 ht) (by decide) wd_295 rfl rfl ?_
      refine r_nmS (fun σ116 e116 => ?_)
      have h := h σ116 e116
      refine r_iconst C 120 (v := 0) dX2_findLoopFlows_119 rfl (by decide) ?_
      refine r_istore C 122 [(5, .int 0), (0, .ref t), (1, .ref a), (2, .ref 44), (3, .int i3), (4, .int i4)] dX2_findLoopFlows_120 rfl (by decide) rfl ?_
      exact Ws_pick [1, 2, 3, 0] rfl h
    · have h := h.2 c66
      refine r_iload_n (j := 3) C 70 dX2_findLoopFlows_69 rfl rfl ?_
      refine r_iload (j := 4) C 72 dX2_findLoopFlows_70 rfl rfl ?_
      refine r_iadd C 73 dX2_findLoopFlows_72 rfl ?_
      refine r_iconst C 74 (v := 2) dX2_findLoopFlows_73 rfl (by decide) ?_
      obtain ⟨o74, h⟩ := h
      refine r_idiv C 75 dX2_findLoopFlows_74 rfl o74 ?_
      refine r_nmI (fun v75 e75 => ?_)
      have h := h v75 e75
      refine r_istore C 77 [(6, .int v75), (0, .ref t), (1, .ref a), (2, .ref 44), (3, .int i3), (4, .int i4), (5, .int i5)] dX2_findLoopFlows_75 rfl (by decide) rfl ?_
      refine r_aload_n (j := 1) C 78 dX2_findLoopFlows_77 rfl rfl ?_
      refine r_aload_n (j := 2) C 79 dX2_findLoopFlows_78 rfl rfl ?_
      refine r_aload_n (j := 3) C 80 dX2_findLoopFlows_79 rfl rfl ?_
      refine r_iload (j := 0) C 82 dX2_findLoopFlows_80 rfl rfl ?_
      refine r_cVL (as := [.ref a, .ref 44, .int v75]) (S := []) C r.px 85 (ct_X2_sendRound _ _ _ _ _ _ h) dX2_findLoopFlows_82 rfl cl4 (sta0 ht) wd_12 wd_504 rfl wd_502 wd_505 wd_93 yd_X2_sendRound ⟨Nat.le_of_ble_eq_true rfl, Nat.le_of_ble_eq_true rfl⟩ (Nat.le_of_ble_eq_true rfl) (by decide) (fun r82 σ82 h => ?_)
      refine r_lconst C 86 (v := 0) dX2_findLoopFlows_85 rfl rfl ?_
      refine r_lcmp_lt C 87 97 90 dX2_findLoopFlows_86 rfl dX2_findLoopFlows_87 (by decide) rfl (fun c86 => ?_) (fun c86 => ?_)
      · have h := h.1 c86
        refine r_iload (j := 0) C 99 dX2_findLoopFlows_97 rfl rfl ?_
        refine r_iconst C 100 (v := 1) dX2_findLoopFlows_99 rfl (by decide) ?_
        refine r_iadd C 101 dX2_findLoopFlows_100 rfl ?_
        refine r_nmI (fun v101 e101 => ?_)
        have h := h v101 e101
        refine r_istore_n C 102 [(3, .int v101), (6, .int v75), (0, .ref t), (1, .ref a), (2, .ref 44), (4, .int i4), (5, .int i5)] dX2_findLoopFlows_101 rfl (by decide) rfl ?_
        obtain ⟨v102, e102⟩ : ∃ y : Int32, y = i5 + 1 := ⟨_, rfl⟩
        have h := h v102 e102
        refine r_iinc (j := 6) C 105 [(5, .int v102), (3, .int v101), (6, .int v75), (0, .ref t), (1, .ref a), (2, .ref 44), (4, .int i4)] dX2_findLoopFlows_102 rfl rfl (by rw [e102]; rfl) (by decide) rfl ?_
        refine r_goto C 56 dX2_findLoopFlows_105 (by decide) ?_
        exact Ws_pick [3, 4, 5, 1, 6, 0] rfl h
      · have h := h.2 c86
        refine r_iload (j := 0) C 92 dX2_findLoopFlows_90 rfl rfl ?_
        refine r_istore C 94 [(4, .int v75), (6, .int v75), (0, .ref t), (1, .ref a), (2, .ref 44), (3, .int i3), (5, .int i5)] dX2_findLoopFlows_92 rfl (by decide) rfl ?_
        refine r_goto C 102 dX2_findLoopFlows_94 (by decide) ?_
        obtain ⟨v102, e102⟩ : ∃ y : Int32, y = i5 + 1 := ⟨_, rfl⟩
        have h := h v102 e102
        refine r_iinc (j := 6) C 105 [(5, .int v102), (4, .int v75), (6, .int v75), (0, .ref t), (1, .ref a), (2, .ref 44), (3, .int i3)] dX2_findLoopFlows_102 rfl rfl (by rw [e102]; rfl) (by decide) rfl ?_
        refine r_goto C 56 dX2_findLoopFlows_105 (by decide) ?_
        exact Ws_pick [3, 4, 5, 6, 1, 0] rfl h
set_option maxRecDepth 4000 in
theorem sg_X2_findLoopFlows_122 {x : Ctx} {K : Mem → Prop} {X : String → Mem → Prop} (C : Cx x RX2 cX2_findLoopFlows 7) (r : RtV x 4 0 none K X) (t : Nat) (a : Nat) (i5 : Int32) (ht : StaA t) (ha : NetA a) (σ : Mem) (h : ((σ.1 44 8) ≤ i5 → K σ) ∧ (¬ (σ.1 44 8) ≤ i5 → (vp_in i5 10) ∧ ((vp_in i5 10) ∧ ((vp_in i5 10) ∧ (sp_X2_carry t a (σ.1 51 i5.toNatClampNeg) (σ.1 50 i5.toNatClampNeg) (σ.1 (t + 3) i5.toNatClampNeg) σ (fun σ154 => ∀ v157 : Int32, v157 = i5 + 1 → Ws x 0 122 [(0, .ref t), (1, .ref a), (2, .ref 44), (5, .int v157)] [] σ154) X))))) : Ws x 0 122 [(0, .ref t), (1, .ref a), (2, .ref 44), (5, .int i5)] [] σ := by
  refine r_iload (j := 3) C 124 dX2_findLoopFlows_122 rfl rfl ?_
  refine r_aload_n (j := 2) C 125 dX2_findLoopFlows_124 rfl rfl ?_
  refine r_get (k := 8) C cl3 128 dX2_findLoopFlows_125 rfl kd_44 (by decide) wd_244 (.int (σ.1 44 8)) (fun _ => rfl) ?_
  refine r_icmp_ge C 163 131 dX2_findLoopFlows_128 (by decide) rfl (fun c128 => ?_) (fun c128 => ?_)
  · have h := h.1 c128
    exact r_vret (S := []) C r dX2_findLoopFlows_163 (by decide) h
  · have h := h.2 c128
    refine r_aload_n (j := 0) C 132 dX2_findLoopFlows_131 rfl rfl ?_
    refine r_aload_n (j := 1) C 133 dX2_findLoopFlows_132 rfl rfl ?_
    refine r_aload_n (j := 2) C 134 dX2_findLoopFlows_133 rfl rfl ?_
    refine r_get (k := 7) C cl3 137 dX2_findLoopFlows_134 rfl kd_44 (by decide) wd_242 (.ref 51) (fun _ => rfl) ?_
    refine r_iload (j := 3) C 139 dX2_findLoopFlows_137 rfl rfl ?_
    obtain ⟨o139, h⟩ := h
    refine r_iald C 140 dX2_findLoopFlows_139 rfl kd_51 o139 ?_
    refine r_aload_n (j := 2) C 141 dX2_findLoopFlows_140 rfl rfl ?_
    refine r_get (k := 6) C cl3 144 dX2_findLoopFlows_141 rfl kd_44 (by decide) wd_239 (.ref 50) (fun _ => rfl) ?_
    refine r_iload (j := 3) C 146 dX2_findLoopFlows_144 rfl rfl ?_
    obtain ⟨o146, h⟩ := h
    refine r_iald C 147 dX2_findLoopFlows_146 rfl kd_50 o146 ?_
    refine r_aload_n (j := 0) C 148 dX2_findLoopFlows_147 rfl rfl ?_
    refine r_get (k := 2) C cl4 151 dX2_findLoopFlows_148 rfl (sta0 ht) (by decide) wd_280 (.ref (t + 3)) (fun _ => rfl) ?_
    refine r_iload (j := 3) C 153 dX2_findLoopFlows_151 rfl rfl ?_
    obtain ⟨o153, h⟩ := h
    refine r_iald C 154 dX2_findLoopFlows_153 rfl (sta3 ht) o153 ?_
    refine r_cVV (as := [.ref a, .int (σ.1 51 i5.toNatClampNeg), .int (σ.1 50 i5.toNatClampNeg), .int (σ.1 (t + 3) i5.toNatClampNeg)]) (S := []) C r.px 157 (ct_X2_carry _ _ _ _ _ _ _ _ h) dX2_findLoopFlows_154 rfl cl4 (sta0 ht) wd_10 wd_495 rfl wd_493 wd_496 wd_93 yd_X2_carry ⟨Nat.le_of_ble_eq_true rfl, Nat.le_of_ble_eq_true rfl⟩ (Nat.le_of_ble_eq_true rfl) (by decide) (fun σ154 h => ?_)
    obtain ⟨v157, e157⟩ : ∃ y : Int32, y = i5 + 1 := ⟨_, rfl⟩
    have h := h v157 e157
    refine r_iinc (j := 3) C 160 [(5, .int v157), (0, .ref t), (1, .ref a), (2, .ref 44)] dX2_findLoopFlows_157 rfl rfl (by rw [e157]; rfl) (by decide) rfl ?_
    refine r_goto C 122 dX2_findLoopFlows_160 (by decide) ?_
    exact Ws_pick [1, 2, 3, 0] rfl h
theorem vc_X2_findLoopFlows {x : Ctx} {K : Mem → Prop} {X : String → Mem → Prop} (C : Cx x RX2 cX2_findLoopFlows 7) (r : RtV x 4 0 none K X) (t a : Nat) (σ : Mem) (h : sp_X2_findLoopFlows t a σ K X) : Ws x 0 0 [(0, .ref t), (1, .ref a), (2, .ref 44)] [] σ := by
  obtain ⟨ht, ha, w, g, c, dr, B, hw, hN, hS, hE, hB, hK⟩ := h
  have hg := hw.2.1
  have hP := hg.1
  have hT := bfs_tre hg (by decide : 0 < 10)
  have hfar := netA_far ha
  have ht2 := staA_is ht
  have hL := hS.1.1
  generalize hLL : bfs g 0 = L at hT hS hK hL hE hB
  have hle := hL.le hT
  have hsk : ∀ k, k < c.1 → skF g L c dr B k ≤ 9990 := fun k hk => skF_le hE (fun n hn => (hB n hn).1) hL hk
  have n10 : ∀ i, i < c.1 → c.2.1 i < 10 := fun i hi => hT.lt (hL.2.2.2.1 i hi)
  have hR : ∀ k, k < c.1 → 0 ≤ rsW w (c.2.2 k) ∧ rsW w (c.2.2 k) ≤ 891 := fun k hk => by
    have := rsW_bd hw (hL.2.1 k hk).1
    omega
  have hR0 : ∀ k, k < c.1 → 0 ≤ rsW w (c.2.2 k) := fun k hk => (hR k hk).1
  refine sg_X2_findLoopFlows_0 C r t a ht ha σ (fun σ2 e2 => ?_)
  have hC2 : Ch t (t + 3) σ σ2 := by rw [e2]; exact (Ch.rfl' σ).wl (Nat.le_refl _) (by omega)
  have i2 : ∀ b k, σ2.1 b k = σ.1 b k := fun b k => by rw [e2]; rfl
  rw [i2, hS.2.1.1]
  refine ⟨fun q => ?_, fun q => ?_⟩
  · have hc0 : 0 < c.1 := by
      apply Nat.pos_of_ne_zero
      intro e
      rw [e] at q
      exact q rfl
    -- behind the search
    have H122 : ∀ (z : Int) (τ : Mem), XS g L c dr B (rsW w) z → Ch t (t + 3) σ τ → (∀ k, τ.1 t k = σ.1 t k) → (∀ k, τ.1 (t + 1) k = σ.1 (t + 1) k) → (∀ k, τ.1 (t + 2) k = σ.1 (t + 2) k) → τ.2.1 t 12 = zL (sumD g L c dr B (rsW w) z) → (∀ k, k < c.1 → τ.1 (t + 3) k = zI (z - skF g L c dr B k)) → Ws x 0 122 [(0, .ref t), (1, .ref a), (2, .ref 44), (5, .int 0)] [] τ := by
      intro z τ0 hX hC0 j0 j1 j2 j3 j4
      refine cnt c.1 (fun k τ => Ch t (t + 3) σ τ ∧ (∀ k, τ.1 t k = σ.1 t k) ∧ (∀ k, τ.1 (t + 1) k = σ.1 (t + 1) k) ∧ τ.2.1 t 12 = zL (sumD g L c dr B (rsW w) z) ∧ (∀ k, k < c.1 → τ.1 (t + 3) k = zI (z - skF g L c dr B k)) ∧ (∀ j, j < k → τ.1 (t + 2) (c.2.2 j) = zI (sgn g (c.2.2 j) (c.2.1 j) (z - skF g L c dr B j))) ∧ (∀ p, ¬ inQ c p → τ.1 (t + 2) p = σ.1 (t + 2) p)) (fun k τ => Ws x 0 122 [(0, .ref t), (1, .ref a), (2, .ref 44), (5, .int (nI k))] [] τ) ?_ ?_ 0 τ0 (Nat.zero_le _) ⟨hC0, j0, j1, j3, j4, fun j hj => absurd hj (Nat.not_lt_zero j), fun p _ => j2 p⟩
      · rintro τ ⟨k1, k2, k3, k4, k5, k6, k7⟩
        refine sg_X2_findLoopFlows_122 C r t a _ ht ha τ ?_
        rw [(k1.1 44 8 (by omega)).1, hS.2.1.1]
        exact ⟨fun _ => hK τ z k1 k2 k3 (fun _ => hX) (by rw [if_neg (by omega)]; exact k4) (fun k hk => ⟨k5 k hk, k6 k hk⟩) k7, fun q => absurd (nI_le (Nat.le_refl c.1) (by omega)) q⟩
      · rintro k τ hk ⟨k1, k2, k3, k4, k5, k6, k7⟩ ih
        refine sg_X2_findLoopFlows_122 C r t a _ ht ha τ ?_
        obtain ⟨p1, p2⟩ := hL.2.1 k hk
        rw [(k1.1 44 8 (by omega)).1, hS.2.1.1, n_cl (n := k) (by omega), (k1.1 51 k (by omega)).1, (hS.2.1.2 k hk).2, (k1.1 50 k (by omega)).1, (hS.2.1.2 k hk).1, k5 k hk]
        refine ⟨fun q => absurd (n_le (by omega) (by omega) q) (by omega), fun _ => ⟨n_inR (by omega) (by decide), n_inR (by omega) (by decide), n_inR (by omega) (by decide), i_X2_carry ht ha hg (hN.2.1.ch k1 (by omega)) p1 (n10 k hk) (fun v157 e157 => ?_)⟩⟩
        rw [e157, nI_1]
        have u2 : ∀ p, (wi τ (t + 2) (c.2.2 k) (zI (sgn g (c.2.2 k) (c.2.1 k) (z - skF g L c dr B k)))).1 (t + 2) p = if p = c.2.2 k then zI (sgn g (c.2.2 k) (c.2.1 k) (z - skF g L c dr B k)) else τ.1 (t + 2) p := fun p => by
          rw [wi_i]
          by_cases d : p = c.2.2 k
          · rw [if_pos ⟨rfl, d⟩, if_pos d]
          · rw [if_neg (fun q => d q.2), if_neg d]
        refine ih _ ⟨k1.wi (by omega) (by omega), fun j => by rw [wi_i, if_neg (fun q => by omega)]; exact k2 j, fun j => by rw [wi_i, if_neg (fun q => by omega)]; exact k3 j, k4, fun j hj => by rw [wi_i, if_neg (fun q => by omega)]; exact k5 j hj, fun j hj => ?_, fun p hp => ?_⟩
        · rw [u2]
          by_cases d : j = k
          · rw [d, if_pos rfl]
          · rw [if_neg (fun e => d (hL.pinj (by omega) hk e))]; exact k6 j (by omega)
        · rw [u2, if_neg (fun e => hp ⟨k, hk, e.symm⟩)]; exact k7 p hp
    -- the search is over
    have fin : ∀ (le : Nat) (τ : Mem), Ch (t + 3) (t + 3) σ2 τ → XS g L c dr B (rsW w) le → sp_X2_sendRound t a (nI le) τ (fun r113 σ113 => ∀ σ116 : Mem, σ116 = wl σ113 t 12 r113 → Ws x 0 122 [(0, .ref t), (1, .ref a), (2, .ref 44), (5, .int 0)] [] σ116) X := by
      intro le τ hC hX
      have hC' : Ch t (t + 3) σ τ := hC2.trans (hC.wider (by omega) (by omega))
      refine ⟨ht, ha, w, g, c, dr, B, le, hw, hN.ch hC' (by omega), ?_, nI_z le, by omega, by have := hX.2.1; omega, ?_, ?_, ?_⟩
      · rw [hLL]; exact hS.ch hC' (by omega)
      · rw [hLL]; exact hE
      · rw [hLL]; exact fun n hn => ⟨(hB n hn).1, by rw [(hC'.1 (t + 4) n (by omega)).1]; exact (hB n hn).2⟩
      · rw [hLL]
        intro υ u1 u2 σ116 e116
        have i1 : ∀ b k, σ116.1 b k = υ.1 b k := fun b k => by rw [e116]; rfl
        have o1 : ∀ b k, b ≠ t + 3 → υ.1 b k = σ.1 b k := fun b k hb => by rw [(u1.1 b k (by omega)).1, (hC.1 b k (by omega)).1, i2]
        refine H122 le σ116 hX ?_ (fun k => by rw [i1, o1 _ _ (by omega)]) (fun k => by rw [i1, o1 _ _ (by omega)]) (fun k => by rw [i1, o1 _ _ (by omega)]) (by rw [e116, wl_l, if_pos ⟨rfl, rfl⟩]) (fun k hk => by rw [i1]; exact u2 k hk)
        rw [e116]
        exact (hC'.trans (u1.wider (by omega) (by omega))).wl (Nat.le_refl _) (by omega)
    have H56 : ∀ (k : Nat) (s : Mem × Nat × Nat), k ≤ 32 → (Ch (t + 3) (t + 3) σ2 s.1 ∧ s.2.1 ≤ s.2.2 ∧ s.2.2 ≤ 9990 ∧ s.2.2 < s.2.1 + 2 ^ (32 - k) ∧ 0 ≤ sumD g L c dr B (rsW w) s.2.2 ∧ ∀ y : Int, 0 ≤ y → y < s.2.1 → sumD g L c dr B (rsW w) y < 0) → Ws x 0 56 [(0, .ref t), (1, .ref a), (2, .ref 44), (3, .int (nI s.2.1)), (4, .int (nI s.2.2)), (5, .int (nI k))] [] s.1 := by
      refine cnt 32 (fun (k : Nat) (s : Mem × Nat × Nat) => Ch (t + 3) (t + 3) σ2 s.1 ∧ s.2.1 ≤ s.2.2 ∧ s.2.2 ≤ 9990 ∧ s.2.2 < s.2.1 + 2 ^ (32 - k) ∧ 0 ≤ sumD g L c dr B (rsW w) s.2.2 ∧ ∀ y : Int, 0 ≤ y → y < s.2.1 → sumD g L c dr B (rsW w) y < 0) (fun k s => Ws x 0 56 [(0, .ref t), (1, .ref a), (2, .ref 44), (3, .int (nI s.2.1)), (4, .int (nI s.2.2)), (5, .int (nI k))] [] s.1) ?_ ?_
      · rintro ⟨τ, le, gr⟩ ⟨k1, k2, k3, k4, k5, k6⟩
        have k2 : le ≤ gr := k2
        have k3 : gr ≤ 9990 := k3
        have k4 : gr < le + 1 := k4
        have e : gr = le := by omega
        subst e
        exact sg_X2_findLoopFlows_56 C r t a _ _ _ ht ha τ ⟨fun _ => fin gr τ k1 ⟨by omega, by omega, k5, k6⟩, fun q => (lit_lt (by decide) (Nat.le_refl 32) (by decide) q).elim⟩
      · rintro k ⟨τ, le, gr⟩ hk ⟨k1, k2, k3, k4, k5, k6⟩ ih
        have k1 : Ch (t + 3) (t + 3) σ2 τ := k1
        have k2 : le ≤ gr := k2
        have k3 : gr ≤ 9990 := k3
        have k4 : gr < le + 2 ^ (32 - k) := k4
        have k5 : 0 ≤ sumD g L c dr B (rsW w) gr := k5
        have k6 : ∀ y : Int, 0 ≤ y → y < le → sumD g L c dr B (rsW w) y < 0 := k6
        refine sg_X2_findLoopFlows_56 C r t a _ _ _ ht ha τ ⟨fun q => (lit_ge (by decide) hk q).elim, fun _ => ⟨fun q => ?_, fun q => ⟨by decide, fun v75 e75 => ?_⟩⟩⟩
        · have q : gr ≤ le := n_le (by omega) (by omega) q
          have e : gr = le := by omega
          subst e
          exact fin gr τ k1 ⟨by omega, by omega, k5, k6⟩
        · have q : le < gr := n_nle (by omega) (by omega) q
          have e75 : v75 = nI ((le + gr) / 2) := by
            rw [e75]
            show (nI le + nI gr) / nI 2 = _
            rw [nI_add, pk_div (by omega) (by decide) (by decide)]
          have hC' : Ch t (t + 3) σ τ := hC2.trans (k1.wider (by omega) (by omega))
          have hpow : 2 ^ (32 - k) = 2 * 2 ^ (32 - (k + 1)) := by
            rw [show 32 - k = (32 - (k + 1)) + 1 by omega, Nat.pow_succ, Nat.mul_comm]
          have hm : (le + gr) / 2 ≤ 9990 := by omega
          have hbd := sumD_bd (R := rsW w) hR hsk hle (x := (((le + gr) / 2 : Nat) : Int)) (by omega) (by omega)
          rw [e75]
          refine ⟨ht, ha, w, g, c, dr, B, _, hw, hN.ch hC' (by omega), ?_, nI_z _, by omega, by omega, ?_, ?_, ?_⟩
          · rw [hLL]; exact hS.ch hC' (by omega)
          · rw [hLL]; exact hE
          · rw [hLL]; exact fun n hn => ⟨(hB n hn).1, by rw [(hC'.1 (t + 4) n (by omega)).1]; exact (hB n hn).2⟩
          · rw [hLL]
            intro υ u1 u2
            have z0 : (0 : Int64) = zL 0 := rfl
            rw [z0, zL_lt (by omega) (by omega) (by omega) (by omega)]
            refine ⟨fun d v101 e101 v102 e102 => ?_, fun d v102 e102 => ?_⟩
            · rw [e101, e102, nI_1, nI_1]
              refine ih (υ, (le + gr) / 2 + 1, gr) ⟨k1.trans u1, by show (le + gr) / 2 + 1 ≤ gr; omega, k3, by show gr < (le + gr) / 2 + 1 + 2 ^ (32 - (k + 1)); omega, k5, fun y y0 y1 => ?_⟩
              have y1 : y < (((le + gr) / 2 + 1 : Nat) : Int) := y1
              have := sumD_mono (g := g) (L := L) (dr := dr) (B := B) hR0 (x := y) (y := (((le + gr) / 2 : Nat) : Int)) (by omega)
              omega
            · rw [e102, nI_1]
              exact ih (υ, le, (le + gr) / 2) ⟨k1.trans u1, by show le ≤ (le + gr) / 2; omega, hm, by show (le + gr) / 2 < le + 2 ^ (32 - (k + 1)); omega, by show 0 ≤ sumD g L c dr B (rsW w) (((le + gr) / 2 : Nat) : Int); omega, k6⟩
    have key := cnt c.1 (fun k (_ : Unit) => 1 ≤ k) (fun k _ => Ws x 0 21 [(0, .ref t), (1, .ref a), (2, .ref 44), (3, .int 0), (4, .int (nI (skF g L c dr B (k - 1)))), (5, .int (nI k))] [] σ2)
      (fun _ _ => by
        refine sg_X2_findLoopFlows_21 C r t a _ _ _ ht ha σ2 ?_
        rw [i2, hS.2.1.1]
        refine ⟨fun _ => ?_, fun q => absurd (nI_le (Nat.le_refl c.1) (by omega)) q⟩
        have hs := hsk (c.1 - 1) (by omega)
        refine H56 0 (σ2, 0, skF g L c dr B (c.1 - 1)) (Nat.zero_le _) ⟨Ch.rfl' σ2, Nat.zero_le _, hs, ?_, ?_, fun y y0 y1 => ?_⟩
        · show skF g L c dr B (c.1 - 1) < 0 + 2 ^ (32 - 0)
          have : (2 : Nat) ^ (32 - 0) = 4294967296 := rfl
          omega
        · show 0 ≤ sumD g L c dr B (rsW w) (skF g L c dr B (c.1 - 1) : Int)
          have z := smZ_le (f := fun _ => 0) (f' := fun k => drop (rsW w (c.2.2 k)) ((skF g L c dr B (c.1 - 1) : Int) - skF g L c dr B k)) (n := c.1) (fun k hk => by
            have := skF_m (g := g) (L := L) (c := c) (dr := dr) (B := B) (k := k) (m := c.1 - 1) (by omega)
            exact drop_pos (hR0 k hk) (by omega))
          rw [smZ_0 (fun _ _ => rfl)] at z
          exact z
        · have y1 : y < ((0 : Nat) : Int) := y1
          omega)
      (fun k _ hk h1 ih => by
        refine sg_X2_findLoopFlows_21 C r t a _ _ _ ht ha σ2 ?_
        rw [i2, hS.2.1.1, n_cl (n := k) (by omega), i2, (hS.2.1.2 k hk).1, n_cl (n := c.2.1 k) (by have := n10 k hk; omega), i2, (hB _ (hL.2.2.2.1 k hk)).2]
        refine ⟨fun q => absurd (n_le (by omega) (by omega) q) (by omega), fun _ => ⟨n_inR (by omega) (by decide), n_inR (n10 k hk) (by decide), fun v45 e45 v47 e47 => ?_⟩⟩
        rw [e45, e47, nI_1, nI_add]
        have ih := ih () (by omega)
        obtain ⟨j, rfl⟩ : ∃ j, k = j + 1 := ⟨k - 1, by omega⟩
        rw [Nat.add_sub_cancel, skF_s] at ih
        rw [Nat.add_sub_cancel, hE.lp hL hk (by omega)]
        exact ih) 1 () (by omega) (Nat.le_refl 1)
    exact key
  · have hc0 : c.1 = 0 := nI_eq (b := 0) (by omega) (by decide) |>.mp q
    refine hK σ2 0 hC2 (fun k => i2 _ _) (fun k => i2 _ _) (fun w => by omega) (by rw [if_pos hc0, e2, wl_l, if_pos ⟨rfl, rfl⟩]; rfl) (fun k hk => by omega) (fun p _ => i2 _ _)
theorem ct_X2_findLoopFlows (t : Nat) (a : Nat) (σ : Mem) (K : Mem → Prop) (X : String → Mem → Prop) (h : sp_X2_findLoopFlows t a σ K X) : CtV yX2_findLoopFlows cX2_findLoopFlows 7 none 4 0 [.ref t, .ref a, .ref 44] σ K X :=
  ctV_of (by decide +kernel) (Nat.le_of_ble_eq_true rfl) (fun x C r => vc_X2_findLoopFlows C r t a σ h)
