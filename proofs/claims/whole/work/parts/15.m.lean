/-! HeatNetworkModel.measure(I)V: level 3, exceptions 0 -/
/-- the reference's pipes are the graph g -/
def GM (σ : Mem) (g : Gr) : Prop := σ.1 210 7 = nI g.1 ∧ ∀ p, p < g.1 → σ.1 210 (8 + 4 * p) = nI (g.2.1 p) ∧ σ.1 210 (8 + 4 * p + 1) = nI (g.2.2 p)
theorem acr_ac {σ : Mem} {g : Gr} (hg : WG g) (h : GM σ g) {p n : Nat} (hp : p < g.1) (hn : n < 10) : acr σ p (nI n) = fI (ac g p n) := by
  obtain ⟨h1, h2⟩ := h.2 p hp
  obtain ⟨w1, w2, -⟩ := hg.2 p hp
  unfold acr ac
  rw [h1, h2]
  by_cases c : g.2.1 p = n
  · rw [if_pos c, if_pos ((nI_e10 w1 hn).mpr c)]; rfl
  · rw [if_neg c, if_neg (fun q => c ((nI_e10 w1 hn).mp q))]
    by_cases d : g.2.2 p = n
    · rw [if_pos d, if_pos ((nI_e10 w2 hn).mpr d)]; rfl
    · rw [if_neg d, if_neg (fun q => d ((nI_e10 w2 hn).mp q))]; rfl
def sp_X5_measure (p0 : Int32) (σ : Mem) (K : Mem → Prop) (X : String → Mem → Prop) : Prop := ∃ (g : Gr) (src : Nat), WG g ∧ src < 10 ∧ p0 = nI src ∧ GM σ g ∧ ∀ τ : Mem, (∀ a k, a ≠ 219 → a ≠ 220 → τ.1 a k = σ.1 a k) → τ.2 = σ.2 → (∀ j, j < 10 → τ.1 219 j = fI (dOf (bfs g src) j)) → K τ
/-- what the search has laid into its rows -/
def MI (σ : Mem) (L : List Rec) (τ : Mem) : Prop := (∀ a k, a ≠ 219 → a ≠ 220 → τ.1 a k = σ.1 a k) ∧ τ.2 = σ.2 ∧ (∀ j, j < 10 → τ.1 219 j = fI (dOf L j)) ∧ (∀ (j : Nat) (r : Rec), L[j]? = some r → τ.1 220 j = nI r.1)
theorem MI.new {σ τ : Mem} {L : List Rec} (h : MI σ L τ) {e n k d : Nat} (he : e ∉ nds L) : MI σ (L ++ [(e, n, k, d)]) (wi (wi τ 219 e (nI d)) 220 L.length (nI e)) := by
  obtain ⟨h1, h2, h3, h4⟩ := h
  refine ⟨fun a j ha hb => ?_, h2, fun j hj => ?_, fun j r hr => ?_⟩
  · rw [wi_i, if_neg (fun q => hb q.1), wi_i, if_neg (fun q => ha q.1)]; exact h1 a j ha hb
  · rw [wi_i, if_neg (fun q => absurd q.1 (by decide)), wi_i, dOf_app he]
    by_cases c : j = e
    · rw [if_pos ⟨rfl, c⟩, if_pos c]; rfl
    · rw [if_neg (fun q => c q.2), if_neg c]; exact h3 j hj
  · rw [wi_i]
    by_cases hl : j < L.length
    · rw [List.getElem?_append_left hl] at hr
      rw [if_neg (fun q => by omega), wi_i, if_neg (fun q => absurd q.1 (by decide))]
      exact h4 j r hr
    · rw [List.getElem?_append_right (by omega)] at hr
      have hz : j - L.length < 1 := (List.getElem?_eq_some_iff.mp hr).1
      rw [show j - L.length = 0 by omega] at hr
      cases hr
      rw [if_pos ⟨rfl, by omega⟩]
set_option maxRecDepth 4000 in
theorem sg_X5_measure_0 {x : Ctx} {K : Mem → Prop} {X : String → Mem → Prop} (C : Cx x RX5 cX5_measure 7) (r : RtV x 3 0 none K X) (p0 : Int32)  (σ : Mem) (h : Ws x 0 2 [(0, .ref 209), (1, .int p0), (2, .int 0)] [] σ) : Ws x 0 0 [(0, .ref 209), (1, .int p0)] [] σ := by
  refine r_iconst C 1 (v := 0) dX5_measure_0 rfl (by decide) ?_
  refine r_istore_n C 2 [(2, .int 0), (0, .ref 209), (1, .int p0)] dX5_measure_1 rfl (by decide) rfl ?_
  exact Ws_pick [1, 2, 0] rfl h
set_option maxRecDepth 4000 in
theorem sg_X5_measure_2 {x : Ctx} {K : Mem → Prop} {X : String → Mem → Prop} (C : Cx x RX5 cX5_measure 7) (r : RtV x 3 0 none K X) (i1 : Int32) (i2 : Int32)  (σ : Mem) (h : (10 ≤ i2 → (vp_in i1 10) ∧ (∀ σ31 : Mem, σ31 = wi σ 219 i1.toNatClampNeg 0 → ∀ v37 : Int32, v37 = 0 + 1 → ∀ σ41 : Mem, σ41 = wi σ31 220 0 i1 → Ws x 0 42 [(0, .ref 209), (2, .int 0), (3, .int v37)] [] σ41)) ∧ (¬ 10 ≤ i2 → (vp_in i2 10) ∧ (∀ σ14 : Mem, σ14 = wi σ 219 i2.toNatClampNeg (-1) → ∀ v15 : Int32, v15 = i2 + 1 → Ws x 0 2 [(0, .ref 209), (1, .int i1), (2, .int v15)] [] σ14))) : Ws x 0 2 [(0, .ref 209), (1, .int i1), (2, .int i2)] [] σ := by
  refine r_iload_n (j := 2) C 3 dX5_measure_2 rfl rfl ?_
  refine r_bipush C 5 (v := 10) dX5_measure_3 rfl (by decide) ?_
  refine r_icmp_ge C 21 8 dX5_measure_5 (by decide) rfl (fun c5 => ?_) (fun c5 => ?_)
  · have h := h.1 c5
    refine r_iconst C 22 (v := 0) dX5_measure_21 rfl (by decide) ?_
    refine r_istore_n C 23 [(2, .int 0), (0, .ref 209), (1, .int i1)] dX5_measure_22 rfl (by decide) rfl ?_
    refine r_iconst C 24 (v := 0) dX5_measure_23 rfl (by decide) ?_
    refine r_istore_n C 25 [(3, .int 0), (2, .int 0), (0, .ref 209), (1, .int i1)] dX5_measure_24 rfl (by decide) rfl ?_
    refine r_aload_n (j := 2) C 26 dX5_measure_25 rfl rfl ?_
    refine r_get (k := 16) C cl7 29 dX5_measure_26 rfl kd_209 (by decide) wd_1228 (.ref 219) (fun _ => rfl) ?_
    refine r_iload_n (j := 3) C 30 dX5_measure_29 rfl rfl ?_
    refine r_iconst C 31 (v := 0) dX5_measure_30 rfl (by decide) ?_
    obtain ⟨o31, h⟩ := h
    refine r_iast C 32 dX5_measure_31 rfl kd_219 o31 ?_
    refine r_nmS (fun σ31 e31 => ?_)
    have h := h σ31 e31
    refine r_aload_n (j := 2) C 33 dX5_measure_32 rfl rfl ?_
    refine r_get (k := 17) C cl7 36 dX5_measure_33 rfl kd_209 (by decide) wd_1229 (.ref 220) (fun _ => rfl) ?_
    refine r_iload_n (j := 0) C 37 dX5_measure_36 rfl rfl ?_
    obtain ⟨v37, e37⟩ : ∃ y : Int32, y = 0 + 1 := ⟨_, rfl⟩
    have h := h v37 e37
    refine r_iinc (j := 0) C 40 [(3, .int v37), (2, .int 0), (0, .ref 209), (1, .int i1)] dX5_measure_37 rfl rfl (by rw [e37]; rfl) (by decide) rfl ?_
    refine r_iload_n (j := 3) C 41 dX5_measure_40 rfl rfl ?_
    refine r_iast C 42 dX5_measure_41 rfl kd_220 (n_inR (n := 0) (by decide) (by decide)) ?_
    refine r_nmS (fun σ41 e41 => ?_)
    have h := h σ41 e41
    exact Ws_pick [2, 1, 0] rfl h
  · have h := h.2 c5
    refine r_aload_n (j := 0) C 9 dX5_measure_8 rfl rfl ?_
    refine r_get (k := 16) C cl7 12 dX5_measure_9 rfl kd_209 (by decide) wd_1228 (.ref 219) (fun _ => rfl) ?_
    refine r_iload_n (j := 2) C 13 dX5_measure_12 rfl rfl ?_
    refine r_iconst C 14 (v := (-1)) dX5_measure_13 rfl (by decide) ?_
    obtain ⟨o14, h⟩ := h
    refine r_iast C 15 dX5_measure_14 rfl kd_219 o14 ?_
    refine r_nmS (fun σ14 e14 => ?_)
    have h := h σ14 e14
    obtain ⟨v15, e15⟩ : ∃ y : Int32, y = i2 + 1 := ⟨_, rfl⟩
    have h := h v15 e15
    refine r_iinc (j := 2) C 18 [(2, .int v15), (0, .ref 209), (1, .int i1)] dX5_measure_15 rfl rfl (by rw [e15]; rfl) (by decide) rfl ?_
    refine r_goto C 2 dX5_measure_18 (by decide) ?_
    exact Ws_pick [1, 2, 0] rfl h
set_option maxRecDepth 4000 in
theorem sg_X5_measure_42 {x : Ctx} {K : Mem → Prop} {X : String → Mem → Prop} (C : Cx x RX5 cX5_measure 7) (r : RtV x 3 0 none K X) (i2 : Int32) (i3 : Int32)  (σ : Mem) (h : (i3 ≤ i2 → K σ) ∧ (¬ i3 ≤ i2 → ∀ v52 : Int32, v52 = i2 + 1 → (vp_in i2 10) ∧ (∀ v56 : Int32, v56 = (σ.1 220 i2.toNatClampNeg) → Ws x 0 61 [(0, .ref 209), (2, .int v52), (3, .int i3), (4, .int v56), (5, .int 0)] [] σ))) : Ws x 0 42 [(0, .ref 209), (2, .int i2), (3, .int i3)] [] σ := by
  refine r_iload_n (j := 1) C 43 dX5_measure_42 rfl rfl ?_
  refine r_iload_n (j := 2) C 44 dX5_measure_43 rfl rfl ?_
  refine r_icmp_ge C 134 47 dX5_measure_44 (by decide) rfl (fun c44 => ?_) (fun c44 => ?_)
  · have h := h.1 c44
    exact r_vret (S := []) C r dX5_measure_134 (by decide) h
  · have h := h.2 c44
    refine r_aload_n (j := 0) C 48 dX5_measure_47 rfl rfl ?_
    refine r_get (k := 17) C cl7 51 dX5_measure_48 rfl kd_209 (by decide) wd_1229 (.ref 220) (fun _ => rfl) ?_
    refine r_iload_n (j := 1) C 52 dX5_measure_51 rfl rfl ?_
    obtain ⟨v52, e52⟩ : ∃ y : Int32, y = i2 + 1 := ⟨_, rfl⟩
    have h := h v52 e52
    refine r_iinc (j := 1) C 55 [(2, .int v52), (0, .ref 209), (3, .int i3)] dX5_measure_52 rfl rfl (by rw [e52]; rfl) (by decide) rfl ?_
    obtain ⟨o55, h⟩ := h
    refine r_iald C 56 dX5_measure_55 rfl kd_220 o55 ?_
    refine r_nmI (fun v56 e56 => ?_)
    have h := h v56 e56
    refine r_istore C 58 [(4, .int v56), (2, .int v52), (0, .ref 209), (3, .int i3)] dX5_measure_56 rfl (by decide) rfl ?_
    refine r_iconst C 59 (v := 0) dX5_measure_58 rfl (by decide) ?_
    refine r_istore C 61 [(5, .int 0), (4, .int v56), (2, .int v52), (0, .ref 209), (3, .int i3)] dX5_measure_59 rfl (by decide) rfl ?_
    exact Ws_pick [3, 2, 4, 1, 0] rfl h
set_option maxRecDepth 4000 in
theorem sg_X5_measure_61 {x : Ctx} {K : Mem → Prop} {X : String → Mem → Prop} (C : Cx x RX5 cX5_measure 7) (r : RtV x 3 0 none K X) (i2 : Int32) (i3 : Int32) (i4 : Int32) (i5 : Int32)  (σ : Mem) (h : sp_X5_pipes  σ (fun r64 σ64 => (r64 ≤ i5 → Ws x 0 42 [(0, .ref 209), (2, .int i2), (3, .int i3)] [] σ64) ∧ (¬ r64 ≤ i5 → sp_X5_across i5 i4 σ64 (fun r75 σ75 => (r75 < 0 → ∀ v125 : Int32, v125 = i5 + 1 → Ws x 0 61 [(0, .ref 209), (2, .int i2), (3, .int i3), (4, .int i4), (5, .int v125)] [] σ75) ∧ (¬ r75 < 0 → (vp_in r75 10) ∧ (((σ75.1 219 r75.toNatClampNeg) < 0 → (vp_in i4 10) ∧ ((vp_in r75 10) ∧ (∀ σ113 : Mem, σ113 = wi σ75 219 r75.toNatClampNeg ((σ75.1 219 i4.toNatClampNeg) + 1) → ∀ v119 : Int32, v119 = i3 + 1 → (vp_in i3 10) ∧ (∀ σ124 : Mem, σ124 = wi σ113 220 i3.toNatClampNeg r75 → ∀ v125 : Int32, v125 = i5 + 1 → Ws x 0 61 [(0, .ref 209), (2, .int i2), (3, .int v119), (4, .int i4), (5, .int v125)] [] σ124)))) ∧ (¬ (σ75.1 219 r75.toNatClampNeg) < 0 → ∀ v125 : Int32, v125 = i5 + 1 → Ws x 0 61 [(0, .ref 209), (2, .int i2), (3, .int i3), (4, .int i4), (5, .int v125)] [] σ75)))) X)) X) : Ws x 0 61 [(0, .ref 209), (2, .int i2), (3, .int i3), (4, .int i4), (5, .int i5)] [] σ := by
  refine r_iload (j := 4) C 63 dX5_measure_61 rfl rfl ?_
  refine r_aload_n (j := 0) C 64 dX5_measure_63 rfl rfl ?_
  refine r_cVI (as := []) (S := [.int i5]) C r.px 67 (ct_X5_pipes  _ _ _ h) dX5_measure_64 rfl cl7 kd_209 wd_45 wd_1360 rfl wd_1358 wd_1361 wd_95 yd_X5_pipes ⟨Nat.le_of_ble_eq_true rfl, Nat.le_of_ble_eq_true rfl⟩ (Nat.le_of_ble_eq_true rfl) (by decide) (fun r64 σ64 h => ?_)
  refine r_icmp_ge C 131 70 dX5_measure_67 (by decide) rfl (fun c67 => ?_) (fun c67 => ?_)
  · have h := h.1 c67
    refine r_goto C 42 dX5_measure_131 (by decide) ?_
    exact Ws_pick [0, 1, 2] rfl h
  · have h := h.2 c67
    refine r_aload_n (j := 0) C 71 dX5_measure_70 rfl rfl ?_
    refine r_iload (j := 4) C 73 dX5_measure_71 rfl rfl ?_
    refine r_iload (j := 3) C 75 dX5_measure_73 rfl rfl ?_
    refine r_cVI (as := [.int i5, .int i4]) (S := []) C r.px 78 (ct_X5_across _ _ _ _ _ h) dX5_measure_75 rfl cl7 kd_209 wd_46 wd_1364 rfl wd_1362 wd_1365 wd_95 yd_X5_across ⟨Nat.le_of_ble_eq_true rfl, Nat.le_of_ble_eq_true rfl⟩ (Nat.le_of_ble_eq_true rfl) (by decide) (fun r75 σ75 h => ?_)
    refine r_istore C 80 [(6, .int r75), (0, .ref 209), (2, .int i2), (3, .int i3), (4, .int i4), (5, .int i5)] dX5_measure_78 rfl (by decide) rfl ?_
    refine r_iload (j := 0) C 82 dX5_measure_80 rfl rfl ?_
    refine r_if_lt C 125 85 dX5_measure_82 (by decide) rfl (fun c82 => ?_) (fun c82 => ?_)
    · have h := h.1 c82
      obtain ⟨v125, e125⟩ : ∃ y : Int32, y = i5 + 1 := ⟨_, rfl⟩
      have h := h v125 e125
      refine r_iinc (j := 5) C 128 [(5, .int v125), (6, .int r75), (0, .ref 209), (2, .int i2), (3, .int i3), (4, .int i4)] dX5_measure_125 rfl rfl (by rw [e125]; rfl) (by decide) rfl ?_
      refine r_goto C 61 dX5_measure_128 (by decide) ?_
      exact Ws_pick [2, 3, 4, 5, 0] rfl h
    · have h := h.2 c82
      refine r_aload_n (j := 1) C 86 dX5_measure_85 rfl rfl ?_
      refine r_get (k := 16) C cl7 89 dX5_measure_86 rfl kd_209 (by decide) wd_1228 (.ref 219) (fun _ => rfl) ?_
      refine r_iload (j := 0) C 91 dX5_measure_89 rfl rfl ?_
      obtain ⟨o91, h⟩ := h
      refine r_iald C 92 dX5_measure_91 rfl kd_219 o91 ?_
      refine r_if_lt C 98 95 dX5_measure_92 (by decide) rfl (fun c92 => ?_) (fun c92 => ?_)
      · have h := h.1 c92
        refine r_aload_n (j := 1) C 99 dX5_measure_98 rfl rfl ?_
        refine r_get (k := 16) C cl7 102 dX5_measure_99 rfl kd_209 (by decide) wd_1228 (.ref 219) (fun _ => rfl) ?_
        refine r_iload (j := 0) C 104 dX5_measure_102 rfl rfl ?_
        refine r_aload_n (j := 1) C 105 dX5_measure_104 rfl rfl ?_
        refine r_get (k := 16) C cl7 108 dX5_measure_105 rfl kd_209 (by decide) wd_1228 (.ref 219) (fun _ => rfl) ?_
        refine r_iload (j := 4) C 110 dX5_measure_108 rfl rfl ?_
        obtain ⟨o110, h⟩ := h
        refine r_iald C 111 dX5_measure_110 rfl kd_219 o110 ?_
        refine r_iconst C 112 (v := 1) dX5_measure_111 rfl (by decide) ?_
        refine r_iadd C 113 dX5_measure_112 rfl ?_
        obtain ⟨o113, h⟩ := h
        refine r_iast C 114 dX5_measure_113 rfl kd_219 o113 ?_
        refine r_nmS (fun σ113 e113 => ?_)
        have h := h σ113 e113
        refine r_aload_n (j := 1) C 115 dX5_measure_114 rfl rfl ?_
        refine r_get (k := 17) C cl7 118 dX5_measure_115 rfl kd_209 (by decide) wd_1229 (.ref 220) (fun _ => rfl) ?_
        refine r_iload_n (j := 3) C 119 dX5_measure_118 rfl rfl ?_
        obtain ⟨v119, e119⟩ : ∃ y : Int32, y = i3 + 1 := ⟨_, rfl⟩
        have h := h v119 e119
        refine r_iinc (j := 3) C 122 [(3, .int v119), (6, .int r75), (0, .ref 209), (2, .int i2), (4, .int i4), (5, .int i5)] dX5_measure_119 rfl rfl (by rw [e119]; rfl) (by decide) rfl ?_
        refine r_iload (j := 1) C 124 dX5_measure_122 rfl rfl ?_
        obtain ⟨o124, h⟩ := h
        refine r_iast C 125 dX5_measure_124 rfl kd_220 o124 ?_
        refine r_nmS (fun σ124 e124 => ?_)
        have h := h σ124 e124
        obtain ⟨v125, e125⟩ : ∃ y : Int32, y = i5 + 1 := ⟨_, rfl⟩
        have h := h v125 e125
        refine r_iinc (j := 5) C 128 [(5, .int v125), (3, .int v119), (6, .int r75), (0, .ref 209), (2, .int i2), (4, .int i4)] dX5_measure_125 rfl rfl (by rw [e125]; rfl) (by decide) rfl ?_
        refine r_goto C 61 dX5_measure_128 (by decide) ?_
        exact Ws_pick [3, 4, 1, 5, 0] rfl h
      · have h := h.2 c92
        refine r_goto C 125 dX5_measure_95 (by decide) ?_
        obtain ⟨v125, e125⟩ : ∃ y : Int32, y = i5 + 1 := ⟨_, rfl⟩
        have h := h v125 e125
        refine r_iinc (j := 5) C 128 [(5, .int v125), (6, .int r75), (0, .ref 209), (2, .int i2), (3, .int i3), (4, .int i4)] dX5_measure_125 rfl rfl (by rw [e125]; rfl) (by decide) rfl ?_
        refine r_goto C 61 dX5_measure_128 (by decide) ?_
        exact Ws_pick [2, 3, 4, 5, 0] rfl h
set_option maxHeartbeats 1000000 in
theorem vc_X5_measure {x : Ctx} {K : Mem → Prop} {X : String → Mem → Prop} (C : Cx x RX5 cX5_measure 7) (r : RtV x 3 0 none K X) (p0 : Int32) (σ : Mem) (h : sp_X5_measure p0 σ K X) : Ws x 0 0 [(0, .ref 209), (1, .int p0)] [] σ := by
  obtain ⟨g, src, hg, hs, rfl, hG, h⟩ := h
  refine sg_X5_measure_0 C r (nI src) σ ?_
  have hg1 := hg.1
  -- the pipes at one node
  have H61 : ∀ (i : Nat) (r0 : Rec), (bs g src i)[i]? = some r0 → (∀ τ, MI σ (bs g src (i + 1)) τ → Ws x 0 42 [(0, .ref 209), (2, .int (nI (i + 1))), (3, .int (nI (bs g src (i + 1)).length))] [] τ) →
      ∀ (k : Nat) (τ : Mem), k ≤ g.1 → MI σ (bp g r0.1 r0.2.2.2 k (bs g src i)) τ → Ws x 0 61 [(0, .ref 209), (2, .int (nI (i + 1))), (3, .int (nI (bp g r0.1 r0.2.2.2 k (bs g src i)).length)), (4, .int (nI r0.1)), (5, .int (nI k))] [] τ := by
    intro i r0 hr0 hout
    have hi : i < (bs g src i).length := (List.getElem?_eq_some_iff.mp hr0).1
    have hdi := bs_di (g := g) (src := src) i
    have hn10 : r0.1 < 10 := (bs_ok hg hs i).2 _ (List.mem_map.mpr ⟨r0, List.mem_of_getElem? hr0, rfl⟩)
    refine cnt g.1 (fun k τ => MI σ (bp g r0.1 r0.2.2.2 k (bs g src i)) τ) (fun k τ => Ws x 0 61 [(0, .ref 209), (2, .int (nI (i + 1))), (3, .int (nI (bp g r0.1 r0.2.2.2 k (bs g src i)).length)), (4, .int (nI r0.1)), (5, .int (nI k))] [] τ) ?_ ?_
    · intro τ hM
      refine sg_X5_measure_61 C r _ _ _ _ τ ?_
      have ep : τ.1 210 7 = nI g.1 := by rw [hM.1 210 7 (by decide) (by decide)]; exact hG.1
      show (τ.1 210 7 ≤ nI g.1 → _) ∧ (¬ τ.1 210 7 ≤ nI g.1 → _)
      rw [ep]
      refine ⟨fun _ => ?_, fun c => absurd (nI_le (Nat.le_refl g.1) (by omega)) c⟩
      have := hout τ (by rw [bs_step hr0]; exact hM)
      rw [bs_step hr0] at this
      exact this
    · intro k τ hk hM ih
      have hok := bp_ok hg r0.1 r0.2.2.2 (bs_ok hg hs i) k (by omega)
      have hdk : DiL (bp g r0.1 r0.2.2.2 k (bs g src i)) := bp_di hdi hi (hdi i r0 hr0) k
      refine sg_X5_measure_61 C r _ _ _ _ τ ?_
      have ep : τ.1 210 7 = nI g.1 := by rw [hM.1 210 7 (by decide) (by decide)]; exact hG.1
      have hG' : GM τ g := ⟨ep, fun p hp => by rw [hM.1 210 _ (by decide) (by decide), hM.1 210 _ (by decide) (by decide)]; exact hG.2 p hp⟩
      show (τ.1 210 7 ≤ nI k → _) ∧ (¬ τ.1 210 7 ≤ nI k → _)
      rw [ep]
      refine ⟨fun c => absurd (n_le (by omega) (by omega) c) (by omega), fun _ => i_X5_across (by omega) ?_⟩
      rw [acr_ac hg hG' hk hn10]
      cases ea : ac g k r0.1 with
      | none =>
        refine ⟨fun _ v e => ?_, fun c => absurd (by decide) c⟩
        rw [e, nI_1]
        have := ih τ (by rw [bp_none ea]; exact hM)
        rw [bp_none ea] at this
        exact this
      | some e =>
        have he10 := (ac_lt hg hk ea).1
        refine ⟨fun c => absurd c (nI_pos (n := e) (by omega)), fun _ => ⟨n_inR he10 (by decide), ?_⟩⟩
        show ((τ.1 219 (nI e).toNatClampNeg < 0 → _) ∧ (¬ τ.1 219 (nI e).toNatClampNeg < 0 → _))
        rw [n_cl (n := e) (by omega), hM.2.2.1 e he10]
        have hfi := fI_neg (o := dOf (bp g r0.1 r0.2.2.2 k (bs g src i)) e) (fun d hd => dOf_lt hok hdk hd)
        refine ⟨fun c => ?_, fun c v ev => ?_⟩
        · have hne : e ∉ nds (bp g r0.1 r0.2.2.2 k (bs g src i)) := dOf_none.mp (hfi.mp c)
          refine ⟨n_inR hn10 (by decide), n_inR he10 (by decide), fun σ113 e113 v119 e119 => ?_⟩
          have hlen : (bp g r0.1 r0.2.2.2 k (bs g src i)).length < 10 := by
            have h1 := (hok.app (r := (e, r0.1, k, r0.2.2.2 + 1)) hne he10).len
            rw [List.length_append] at h1
            simp at h1
            omega
          refine ⟨n_inR hlen (by decide), fun σ124 e124 v125 e125 => ?_⟩
          obtain ⟨M, hM'⟩ := bp_pre g r0.1 r0.2.2.2 (bs g src i) k
          have hget : (bp g r0.1 r0.2.2.2 k (bs g src i))[i]? = some r0 := by rw [hM', List.getElem?_append_left hi]; exact hr0
          have hdn : dOf (bp g r0.1 r0.2.2.2 k (bs g src i)) r0.1 = some r0.2.2.2 := by unfold dOf; rw [rOf_get hok.1 hget]; rfl
          have e1 : σ124 = wi (wi τ 219 e (nI (r0.2.2.2 + 1))) 220 (bp g r0.1 r0.2.2.2 k (bs g src i)).length (nI e) := by
            rw [n_cl (n := r0.1) (by omega), hM.2.2.1 _ hn10, hdn] at e113
            rw [e124, e113, n_cl (by omega)]
            show wi (wi τ 219 (nI e).toNatClampNeg (nI r0.2.2.2 + 1)) _ _ _ = _
            rw [n_cl (n := e) (by omega), nI_1]
            rfl
          have := ih σ124 (by rw [bp_new ea hne, e1]; exact hM.new hne)
          rw [bp_new ea hne, List.length_append] at this
          rw [e119, e125, nI_1, nI_1]
          exact this
        · have hin : e ∈ nds (bp g r0.1 r0.2.2.2 k (bs g src i)) := Classical.byContradiction fun q => c (hfi.mpr (dOf_none.mpr q))
          rw [ev, nI_1]
          have := ih τ (by rw [bp_old ea hin]; exact hM)
          rw [bp_old ea hin] at this
          exact this
  -- the queue
  have hend : ∀ (i : Nat) (τ : Mem), i ≤ 10 → (bs g src i).length ≤ i → MI σ (bs g src i) τ → K τ := by
    intro i τ hi hl hM
    have e : bfs g src = bs g src i := by
      have := bs_stop hl (10 - i)
      rw [show i + (10 - i) = 10 by omega] at this
      exact this
    exact h τ hM.1 hM.2.1 (by rw [e]; exact hM.2.2.1)
  have H42 := cnt 10 (fun i τ => i ≤ (bs g src i).length ∧ MI σ (bs g src i) τ) (fun i τ => Ws x 0 42 [(0, .ref 209), (2, .int (nI i)), (3, .int (nI (bs g src i).length))] [] τ)
    (fun τ hM => by
      have hl := (bs_ok hg hs 10).len
      exact sg_X5_measure_42 C r _ _ τ ⟨fun _ => hend 10 τ (Nat.le_refl _) hl hM.2, fun c => absurd (nI_le hl (by decide)) c⟩)
    (fun i τ hi hM ih => by
      have hl := (bs_ok hg hs i).len
      refine sg_X5_measure_42 C r _ _ τ ⟨fun c => hend i τ (by omega) (n_le (by omega) (by omega) c) hM.2, fun c v52 e52 => ?_⟩
      have hlt := n_nle (by omega) (by omega) c
      obtain ⟨r0, hr0⟩ : ∃ r0, (bs g src i)[i]? = some r0 := ⟨_, List.getElem?_eq_getElem hlt⟩
      refine ⟨n_inR hi (by decide), fun v56 e56 => ?_⟩
      rw [n_cl (by omega), hM.2.2.2.2 i r0 hr0] at e56
      have := H61 i r0 hr0 (fun τ' hM' => ih τ' ⟨by
        obtain ⟨M, hM2⟩ := bp_pre g r0.1 r0.2.2.2 (bs g src i) g.1
        rw [bs_step hr0, hM2, List.length_append]
        omega, hM'⟩) 0 τ (Nat.zero_le _) hM.2
      rw [e52, e56, nI_1]
      exact this)
  -- the start
  have H2 := cnt 10 (fun k τ => τ = fi σ 219 k (-1)) (fun k τ => Ws x 0 2 [(0, .ref 209), (1, .int (nI src)), (2, .int (nI k))] [] τ)
    (fun τ hτ => by
      refine sg_X5_measure_2 C r _ (nI 10) τ ⟨fun _ => ⟨n_inR hs (by decide), fun σ31 e31 v37 e37 σ41 e41 => ?_⟩, fun c => (lit_lt (by decide) (Nat.le_refl 10) (by decide) c).elim⟩
      have := H42 0 σ41 (Nat.zero_le _) ⟨Nat.zero_le _, ?_⟩
      · rw [e37]
        exact this
      · rw [n_cl (by omega)] at e31
        rw [e41, e31, hτ]
        refine ⟨fun a j ha hb => ?_, rfl, fun j hj => ?_, fun j q hq => ?_⟩
        · rw [wi_i, if_neg (fun q => hb q.1), wi_i, if_neg (fun q => ha q.1), fi_i, if_neg (fun q => ha q.1)]
        · rw [wi_i, if_neg (fun q => absurd q.1 (by decide)), wi_i, fi_i]
          by_cases c : j = src
          · rw [if_pos ⟨rfl, c⟩, c]
            show (0 : Int32) = fI (dOf [(src, 0, 0, 0)] src)
            simp [dOf, rOf, fI, nI_0]
          · rw [if_neg (fun q => c q.2), if_pos ⟨rfl, hj⟩]
            show (-1 : Int32) = fI (dOf [(src, 0, 0, 0)] j)
            have : ¬ src = j := fun q => c q.symm
            simp [dOf, rOf, fI, this]
        · have hz : j < 1 := (List.getElem?_eq_some_iff.mp hq).1
          rw [show j = 0 by omega] at hq ⊢
          cases hq
          rw [wi_i, if_pos ⟨rfl, rfl⟩])
    (fun k τ hk hτ ih => by
      refine sg_X5_measure_2 C r _ (nI k) τ ⟨fun c => (lit_ge (by decide) hk c).elim, fun _ => ⟨n_inR hk (by decide), fun σ14 e14 v e => ?_⟩⟩
      rw [n_cl (by omega), hτ, fi_step] at e14
      rw [e, nI_1]
      exact ih σ14 e14) 0 σ (Nat.zero_le _) (fi_0 σ 219 (-1)).symm
  exact H2
theorem ct_X5_measure (p0 : Int32) (σ : Mem) (K : Mem → Prop) (X : String → Mem → Prop) (h : sp_X5_measure p0 σ K X) : CtV yX5_measure cX5_measure 7 none 3 0 [.ref 209, .int p0] σ K X :=
  ctV_of (by decide +kernel) (Nat.le_of_ble_eq_true rfl) (fun x C r => vc_X5_measure C r p0 σ h)
/-! HeatNetworkModel.isJoined(I)Z: level 4, exceptions 0 -/
def sp_X5_isJoined (p0 : Int32) (σ : Mem) (K : Int32 → Mem → Prop) (X : String → Mem → Prop) : Prop := (sp_X5_isNode p0 σ (fun r1 σ1 => (¬ r1 = 0 → sp_X5_measure 0 σ1 (fun σ11 => (vp_in p0 10) ∧ (((σ11.1 219 p0.toNatClampNeg) < 0 → K 0 σ11) ∧ (¬ (σ11.1 219 p0.toNatClampNeg) < 0 → K 1 σ11))) X) ∧ (r1 = 0 → K 0 σ1)) X)
set_option maxRecDepth 4000 in
theorem sg_X5_isJoined_0 {x : Ctx} {K : Int32 → Mem → Prop} {X : String → Mem → Prop} (C : Cx x RX5 cX5_isJoined 2) (r : RtI x 4 0 (some .boolean) K X) (p0 : Int32)  (σ : Mem) (h : sp_X5_isNode p0 σ (fun r1 σ1 => (¬ r1 = 0 → sp_X5_measure 0 σ1 (fun σ11 => (vp_in p0 10) ∧ (((σ11.1 219 p0.toNatClampNeg) < 0 → K 0 σ11) ∧ (¬ (σ11.1 219 p0.toNatClampNeg) < 0 → K 1 σ11))) X) ∧ (r1 = 0 → K 0 σ1)) X) : Ws x 0 0 [(0, .ref 209), (1, .int p0)] [] σ := by
  refine r_iload_n (j := 1) C 1 dX5_isJoined_0 rfl rfl ?_
  refine r_cSI (b := 0) (as := [.int p0]) (S := []) C r.px 4 (ct_X5_isNode _ _ _ _ h) dX5_isJoined_1 rfl wd_1356 wd_1355 wd_1357 wd_95 yd_X5_isNode ⟨Nat.le_of_ble_eq_true rfl, Nat.le_of_ble_eq_true rfl⟩ (Nat.le_of_ble_eq_true rfl) (by decide) (fun r1 σ1 h => ?_)
  refine r_if_ne C 9 7 dX5_isJoined_4 (by decide) rfl (fun c4 => ?_) (fun c4 => ?_)
  · have h := h.1 c4
    refine r_aload_n (j := 0) C 10 dX5_isJoined_9 rfl rfl ?_
    refine r_iconst C 11 (v := 0) dX5_isJoined_10 rfl (by decide) ?_
    refine r_cVV (as := [.int 0]) (S := []) C r.px 14 (ct_X5_measure _ _ _ _ h) dX5_isJoined_11 rfl cl7 kd_209 wd_48 wd_1372 rfl wd_1370 wd_1373 wd_95 yd_X5_measure ⟨Nat.le_of_ble_eq_true rfl, Nat.le_of_ble_eq_true rfl⟩ (Nat.le_of_ble_eq_true rfl) (by decide) (fun σ11 h => ?_)
    refine r_aload_n (j := 0) C 15 dX5_isJoined_14 rfl rfl ?_
    refine r_get (k := 16) C cl7 18 dX5_isJoined_15 rfl kd_209 (by decide) wd_1228 (.ref 219) (fun _ => rfl) ?_
    refine r_iload_n (j := 1) C 19 dX5_isJoined_18 rfl rfl ?_
    obtain ⟨o19, h⟩ := h
    refine r_iald C 20 dX5_isJoined_19 rfl kd_219 o19 ?_
    refine r_if_lt C 27 23 dX5_isJoined_20 (by decide) rfl (fun c20 => ?_) (fun c20 => ?_)
    · have h := h.1 c20
      refine r_iconst C 28 (v := 0) dX5_isJoined_27 rfl (by decide) ?_
      exact r_iret (S := []) C r dX5_isJoined_28 (by decide) (by decide) h
    · have h := h.2 c20
      refine r_iconst C 24 (v := 1) dX5_isJoined_23 rfl (by decide) ?_
      refine r_goto C 28 dX5_isJoined_24 (by decide) ?_
      exact r_iret (S := []) C r dX5_isJoined_28 (by decide) (by decide) h
  · have h := h.2 c4
    refine r_iconst C 8 (v := 0) dX5_isJoined_7 rfl (by decide) ?_
    exact r_iret (S := []) C r dX5_isJoined_8 (by decide) (by decide) h
theorem ct_X5_isJoined (p0 : Int32) (σ : Mem) (K : Int32 → Mem → Prop) (X : String → Mem → Prop) (h : sp_X5_isJoined p0 σ K X) : CtI yX5_isJoined cX5_isJoined 2 (some .boolean) 4 0 [.ref 209, .int p0] σ K X := by
  have h := h
  exact ctI_of (by decide +kernel) (Nat.le_of_ble_eq_true rfl) (fun x C r => sg_X5_isJoined_0 C r p0  σ h)
/-! HeatNetworkModel.distance(I)I: level 5, exceptions 0 -/
def sp_X5_distance (p0 : Int32) (σ : Mem) (K : Int32 → Mem → Prop) (X : String → Mem → Prop) : Prop := (∀ σ2 : Mem, σ2 = wi σ 209 0 0 → sp_X5_isJoined p0 σ2 (fun r7 σ7 => (r7 = 0 → sp_X5_raises 1 σ7 (fun r24 σ24 => K r24 σ24) X) ∧ (¬ r7 = 0 → (vp_in p0 10) ∧ (K (σ7.1 219 p0.toNatClampNeg) σ7))) X)
set_option maxRecDepth 4000 in
theorem sg_X5_distance_0 {x : Ctx} {K : Int32 → Mem → Prop} {X : String → Mem → Prop} (C : Cx x RX5 cX5_distance 2) (r : RtI x 5 0 (some .int) K X) (p0 : Int32)  (σ : Mem) (h : ∀ σ2 : Mem, σ2 = wi σ 209 0 0 → sp_X5_isJoined p0 σ2 (fun r7 σ7 => (r7 = 0 → sp_X5_raises 1 σ7 (fun r24 σ24 => K r24 σ24) X) ∧ (¬ r7 = 0 → (vp_in p0 10) ∧ (K (σ7.1 219 p0.toNatClampNeg) σ7))) X) : Ws x 0 0 [(0, .ref 209), (1, .int p0)] [] σ := by
  refine r_aload_n (j := 0) C 1 dX5_distance_0 rfl rfl ?_
  refine r_iconst C 2 (v := 0) dX5_distance_1 rfl (by decide) ?_
  refine r_putI (k := 0) C cl7 5 dX5_distance_2 rfl kd_209 (by decide) wd_1212 rfl rfl rfl rfl ?_
  refine r_nmS (fun σ2 e2 => ?_)
  have h := h σ2 e2
  refine r_aload_n (j := 0) C 6 dX5_distance_5 rfl rfl ?_
  refine r_iload_n (j := 1) C 7 dX5_distance_6 rfl rfl ?_
  refine r_cVI (as := [.int p0]) (S := []) C r.px 10 (ct_X5_isJoined _ _ _ _ h) dX5_distance_7 rfl cl7 kd_209 wd_88 wd_1621 rfl wd_1619 wd_1622 wd_95 yd_X5_isJoined ⟨Nat.le_of_ble_eq_true rfl, Nat.le_of_ble_eq_true rfl⟩ (Nat.le_of_ble_eq_true rfl) (by decide) (fun r7 σ7 h => ?_)
  refine r_if_eq C 22 13 dX5_distance_10 (by decide) rfl (fun c10 => ?_) (fun c10 => ?_)
  · have h := h.1 c10
    refine r_aload_n (j := 0) C 23 dX5_distance_22 rfl rfl ?_
    refine r_iconst C 24 (v := 1) dX5_distance_23 rfl (by decide) ?_
    refine r_cVI (as := [.int 1]) (S := []) C r.px 27 (ct_X5_raises _ _ _ _ h) dX5_distance_24 rfl cl7 kd_209 wd_40 wd_1325 rfl wd_1323 wd_1326 wd_95 yd_X5_raises ⟨Nat.le_of_ble_eq_true rfl, Nat.le_of_ble_eq_true rfl⟩ (Nat.le_of_ble_eq_true rfl) (by decide) (fun r24 σ24 h => ?_)
    exact r_iret (S := []) C r dX5_distance_27 (by decide) rfl h
  · have h := h.2 c10
    refine r_aload_n (j := 0) C 14 dX5_distance_13 rfl rfl ?_
    refine r_get (k := 16) C cl7 17 dX5_distance_14 rfl kd_209 (by decide) wd_1228 (.ref 219) (fun _ => rfl) ?_
    refine r_iload_n (j := 1) C 18 dX5_distance_17 rfl rfl ?_
    obtain ⟨o18, h⟩ := h
    refine r_iald C 19 dX5_distance_18 rfl kd_219 o18 ?_
    refine r_goto C 27 dX5_distance_19 (by decide) ?_
    exact r_iret (S := []) C r dX5_distance_27 (by decide) rfl h
theorem ct_X5_distance (p0 : Int32) (σ : Mem) (K : Int32 → Mem → Prop) (X : String → Mem → Prop) (h : sp_X5_distance p0 σ K X) : CtI yX5_distance cX5_distance 2 (some .int) 5 0 [.ref 209, .int p0] σ K X := by
  have h := h
  exact ctI_of (by decide +kernel) (Nat.le_of_ble_eq_true rfl) (fun x C r => sg_X5_distance_0 C r p0  σ h)
/-! HeatNetworkModel.isConnected(I)Z: level 5, exceptions 0 -/
def sp_X5_isConnected (p0 : Int32) (σ : Mem) (K : Int32 → Mem → Prop) (X : String → Mem → Prop) : Prop := (sp_X5_isNode p0 σ (fun r2 σ2 => (r2 = 0 → ∀ σ13 : Mem, σ13 = wi σ2 209 0 1 → sp_X5_isJoined p0 σ13 (fun r18 σ18 => (narrow .boolean (.int r18) = .int r18) ∧ K r18 σ18) X) ∧ (¬ r2 = 0 → ∀ σ13 : Mem, σ13 = wi σ2 209 0 0 → sp_X5_isJoined p0 σ13 (fun r18 σ18 => (narrow .boolean (.int r18) = .int r18) ∧ K r18 σ18) X)) X)
set_option maxRecDepth 4000 in
theorem sg_X5_isConnected_0 {x : Ctx} {K : Int32 → Mem → Prop} {X : String → Mem → Prop} (C : Cx x RX5 cX5_isConnected 2) (r : RtI x 5 0 (some .boolean) K X) (p0 : Int32)  (σ : Mem) (h : sp_X5_isNode p0 σ (fun r2 σ2 => (r2 = 0 → ∀ σ13 : Mem, σ13 = wi σ2 209 0 1 → sp_X5_isJoined p0 σ13 (fun r18 σ18 => (narrow .boolean (.int r18) = .int r18) ∧ K r18 σ18) X) ∧ (¬ r2 = 0 → ∀ σ13 : Mem, σ13 = wi σ2 209 0 0 → sp_X5_isJoined p0 σ13 (fun r18 σ18 => (narrow .boolean (.int r18) = .int r18) ∧ K r18 σ18) X)) X) : Ws x 0 0 [(0, .ref 209), (1, .int p0)] [] σ := by
  refine r_aload_n (j := 0) C 1 dX5_isConnected_0 rfl rfl ?_
  refine r_iload_n (j := 1) C 2 dX5_isConnected_1 rfl rfl ?_
  refine r_cSI (b := 0) (as := [.int p0]) (S := [.ref 209]) C r.px 5 (ct_X5_isNode _ _ _ _ h) dX5_isConnected_2 rfl wd_1356 wd_1355 wd_1357 wd_95 yd_X5_isNode ⟨Nat.le_of_ble_eq_true rfl, Nat.le_of_ble_eq_true rfl⟩ (Nat.le_of_ble_eq_true rfl) (by decide) (fun r2 σ2 h => ?_)
  refine r_if_eq C 12 8 dX5_isConnected_5 (by decide) rfl (fun c5 => ?_) (fun c5 => ?_)
  · have h := h.1 c5
    refine r_iconst C 13 (v := 1) dX5_isConnected_12 rfl (by decide) ?_
    refine r_putI (k := 0) C cl7 16 dX5_isConnected_13 rfl kd_209 (by decide) wd_1212 rfl rfl rfl rfl ?_
    refine r_nmS (fun σ13 e13 => ?_)
    have h := h σ13 e13
    refine r_aload_n (j := 0) C 17 dX5_isConnected_16 rfl rfl ?_
    refine r_iload_n (j := 1) C 18 dX5_isConnected_17 rfl rfl ?_
    refine r_cVI (as := [.int p0]) (S := []) C r.px 21 (ct_X5_isJoined _ _ _ _ h) dX5_isConnected_18 rfl cl7 kd_209 wd_88 wd_1621 rfl wd_1619 wd_1622 wd_95 yd_X5_isJoined ⟨Nat.le_of_ble_eq_true rfl, Nat.le_of_ble_eq_true rfl⟩ (Nat.le_of_ble_eq_true rfl) (by decide) (fun r18 σ18 h => ?_)
    exact r_iret (S := []) C r dX5_isConnected_21 (by decide) h.1 h.2
  · have h := h.2 c5
    refine r_iconst C 9 (v := 0) dX5_isConnected_8 rfl (by decide) ?_
    refine r_goto C 13 dX5_isConnected_9 (by decide) ?_
    refine r_putI (k := 0) C cl7 16 dX5_isConnected_13 rfl kd_209 (by decide) wd_1212 rfl rfl rfl rfl ?_
    refine r_nmS (fun σ13 e13 => ?_)
    have h := h σ13 e13
    refine r_aload_n (j := 0) C 17 dX5_isConnected_16 rfl rfl ?_
    refine r_iload_n (j := 1) C 18 dX5_isConnected_17 rfl rfl ?_
    refine r_cVI (as := [.int p0]) (S := []) C r.px 21 (ct_X5_isJoined _ _ _ _ h) dX5_isConnected_18 rfl cl7 kd_209 wd_88 wd_1621 rfl wd_1619 wd_1622 wd_95 yd_X5_isJoined ⟨Nat.le_of_ble_eq_true rfl, Nat.le_of_ble_eq_true rfl⟩ (Nat.le_of_ble_eq_true rfl) (by decide) (fun r18 σ18 h => ?_)
    exact r_iret (S := []) C r dX5_isConnected_21 (by decide) h.1 h.2
theorem ct_X5_isConnected (p0 : Int32) (σ : Mem) (K : Int32 → Mem → Prop) (X : String → Mem → Prop) (h : sp_X5_isConnected p0 σ K X) : CtI yX5_isConnected cX5_isConnected 2 (some .boolean) 5 0 [.ref 209, .int p0] σ K X := by
  have h := h
  exact ctI_of (by decide +kernel) (Nat.le_of_ble_eq_true rfl) (fun x C r => sg_X5_isConnected_0 C r p0  σ h)
