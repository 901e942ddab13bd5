/-! HeatNetwork$State.findStationFlows(LHeatNetwork$Network;LHeatNetwork$Shape;)Z: level 4, exceptions 0 -/
def sp_X2_findStationFlows (t a : Nat) (σ : Mem) (K : Int32 → Mem → Prop) (X : String → Mem → Prop) : Prop := StaA t ∧ NetA a ∧ ∃ (w : Nat → Int32) (g : Gr) (c : Lp) (T : Nat → Nat), WFw w g ∧ NR σ a w g ∧ Shp g (bfs g 0) c σ ∧ (∀ n, n < 10 → σ.1 (t + 6) n = nI (T n) ∧ T n ≤ 1200) ∧ ∀ τ : Mem, (∀ b k, ¬ (b = t + 1 ∧ k < 10) → τ.1 b k = σ.1 b k) → τ.2 = σ.2 → (∀ n, n < 10 → τ.1 (t + 1) n = nI (drW w (bfs g 0) (T n) n)) → K (if (List.range 10).all (fun n => decide (nI (drW w (bfs g 0) (T n) n) = σ.1 (t + 1) n)) = true then 1 else 0) τ
set_option maxRecDepth 4000 in
theorem sg_X2_findStationFlows_0 {x : Ctx} {K : Int32 → Mem → Prop} {X : String → Mem → Prop} (C : Cx x RX2 cX2_findStationFlows 6) (r : RtI x 4 0 (some .boolean) K X) (t : Nat) (a : Nat) (ht : StaA t) (ha : NetA a) (σ : Mem) (h : Ws x 0 5 [(0, .ref t), (1, .ref a), (2, .ref 44), (3, .int 1), (4, .int 0)] [] σ) : Ws x 0 0 [(0, .ref t), (1, .ref a), (2, .ref 44)] [] σ := by
  refine r_iconst C 1 (v := 1) dX2_findStationFlows_0 rfl (by decide) ?_
  refine r_istore_n C 2 [(3, .int 1), (0, .ref t), (1, .ref a), (2, .ref 44)] dX2_findStationFlows_1 rfl (by decide) rfl ?_
  refine r_iconst C 3 (v := 0) dX2_findStationFlows_2 rfl (by decide) ?_
  refine r_istore C 5 [(4, .int 0), (3, .int 1), (0, .ref t), (1, .ref a), (2, .ref 44)] dX2_findStationFlows_3 rfl (by decide) rfl ?_
  exact Ws_pick [2, 3, 4, 1, 0] rfl h
set_option maxRecDepth 4000 in
theorem sg_X2_findStationFlows_5 {x : Ctx} {K : Int32 → Mem → Prop} {X : String → Mem → Prop} (C : Cx x RX2 cX2_findStationFlows 6) (r : RtI x 4 0 (some .boolean) K X) (t : Nat) (a : Nat) (i3 : Int32) (i4 : Int32) (ht : StaA t) (ha : NetA a) (σ : Mem) (h : (10 ≤ i4 → (narrow .boolean (.int i3) = .int i3) ∧ K i3 σ) ∧ (¬ 10 ≤ i4 → sp_X0_hasStation a i4 σ (fun r18 σ18 => (r18 = 0 → (i3 = 0 → (vp_in i4 10) ∧ (∀ σ73 : Mem, σ73 = wi σ18 (t + 1) i4.toNatClampNeg 0 → ∀ v74 : Int32, v74 = i4 + 1 → Ws x 0 5 [(0, .ref t), (1, .ref a), (2, .ref 44), (3, .int 0), (4, .int v74)] [] σ73)) ∧ (¬ i3 = 0 → (vp_in i4 10) ∧ ((¬ (0 : Int32) = (σ18.1 (t + 1) i4.toNatClampNeg) → (vp_in i4 10) ∧ (∀ σ73 : Mem, σ73 = wi σ18 (t + 1) i4.toNatClampNeg 0 → ∀ v74 : Int32, v74 = i4 + 1 → Ws x 0 5 [(0, .ref t), (1, .ref a), (2, .ref 44), (3, .int 0), (4, .int v74)] [] σ73)) ∧ ((0 : Int32) = (σ18.1 (t + 1) i4.toNatClampNeg) → (vp_in i4 10) ∧ (∀ σ73 : Mem, σ73 = wi σ18 (t + 1) i4.toNatClampNeg 0 → ∀ v74 : Int32, v74 = i4 + 1 → Ws x 0 5 [(0, .ref t), (1, .ref a), (2, .ref 44), (3, .int 1), (4, .int v74)] [] σ73))))) ∧ (¬ r18 = 0 → (vp_in i4 10) ∧ (((σ18.1 45 i4.toNatClampNeg) < 0 → (i3 = 0 → (vp_in i4 10) ∧ (∀ σ73 : Mem, σ73 = wi σ18 (t + 1) i4.toNatClampNeg 0 → ∀ v74 : Int32, v74 = i4 + 1 → Ws x 0 5 [(0, .ref t), (1, .ref a), (2, .ref 44), (3, .int 0), (4, .int v74)] [] σ73)) ∧ (¬ i3 = 0 → (vp_in i4 10) ∧ ((¬ (0 : Int32) = (σ18.1 (t + 1) i4.toNatClampNeg) → (vp_in i4 10) ∧ (∀ σ73 : Mem, σ73 = wi σ18 (t + 1) i4.toNatClampNeg 0 → ∀ v74 : Int32, v74 = i4 + 1 → Ws x 0 5 [(0, .ref t), (1, .ref a), (2, .ref 44), (3, .int 0), (4, .int v74)] [] σ73)) ∧ ((0 : Int32) = (σ18.1 (t + 1) i4.toNatClampNeg) → (vp_in i4 10) ∧ (∀ σ73 : Mem, σ73 = wi σ18 (t + 1) i4.toNatClampNeg 0 → ∀ v74 : Int32, v74 = i4 + 1 → Ws x 0 5 [(0, .ref t), (1, .ref a), (2, .ref 44), (3, .int 1), (4, .int v74)] [] σ73))))) ∧ (¬ (σ18.1 45 i4.toNatClampNeg) < 0 → sp_X2_drawnFlow t a i4 σ18 (fun r38 σ38 => (i3 = 0 → (vp_in i4 10) ∧ (∀ σ73 : Mem, σ73 = wi σ38 (t + 1) i4.toNatClampNeg r38 → ∀ v74 : Int32, v74 = i4 + 1 → Ws x 0 5 [(0, .ref t), (1, .ref a), (2, .ref 44), (3, .int 0), (4, .int v74)] [] σ73)) ∧ (¬ i3 = 0 → (vp_in i4 10) ∧ ((¬ r38 = (σ38.1 (t + 1) i4.toNatClampNeg) → (vp_in i4 10) ∧ (∀ σ73 : Mem, σ73 = wi σ38 (t + 1) i4.toNatClampNeg r38 → ∀ v74 : Int32, v74 = i4 + 1 → Ws x 0 5 [(0, .ref t), (1, .ref a), (2, .ref 44), (3, .int 0), (4, .int v74)] [] σ73)) ∧ (r38 = (σ38.1 (t + 1) i4.toNatClampNeg) → (vp_in i4 10) ∧ (∀ σ73 : Mem, σ73 = wi σ38 (t + 1) i4.toNatClampNeg r38 → ∀ v74 : Int32, v74 = i4 + 1 → Ws x 0 5 [(0, .ref t), (1, .ref a), (2, .ref 44), (3, .int 1), (4, .int v74)] [] σ73))))) X)))) X)) : Ws x 0 5 [(0, .ref t), (1, .ref a), (2, .ref 44), (3, .int i3), (4, .int i4)] [] σ := by
  refine r_iload (j := 4) C 7 dX2_findStationFlows_5 rfl rfl ?_
  refine r_bipush C 9 (v := 10) dX2_findStationFlows_7 rfl (by decide) ?_
  refine r_icmp_ge C 80 12 dX2_findStationFlows_9 (by decide) rfl (fun c9 => ?_) (fun c9 => ?_)
  · have h := h.1 c9
    refine r_iload_n (j := 3) C 81 dX2_findStationFlows_80 rfl rfl ?_
    exact r_iret (S := []) C r dX2_findStationFlows_81 (by decide) h.1 h.2
  · have h := h.2 c9
    refine r_iconst C 13 (v := 0) dX2_findStationFlows_12 rfl (by decide) ?_
    refine r_istore C 15 [(5, .int 0), (0, .ref t), (1, .ref a), (2, .ref 44), (3, .int i3), (4, .int i4)] dX2_findStationFlows_13 rfl (by decide) rfl ?_
    refine r_aload_n (j := 2) C 16 dX2_findStationFlows_15 rfl rfl ?_
    refine r_iload (j := 5) C 18 dX2_findStationFlows_16 rfl rfl ?_
    refine r_cVI (as := [.int i4]) (S := []) C r.px 21 (ct_X0_hasStation _ _ _ _ _ h) dX2_findStationFlows_18 rfl cl2 (net0 ha) wd_468 wd_467 rfl wd_466 wd_469 wd_91 yd_X0_hasStation ⟨Nat.le_of_ble_eq_true rfl, Nat.le_of_ble_eq_true rfl⟩ (Nat.le_of_ble_eq_true rfl) (by decide) (fun r18 σ18 h => ?_)
    refine r_if_eq C 43 24 dX2_findStationFlows_21 (by decide) rfl (fun c21 => ?_) (fun c21 => ?_)
    · have h := h.1 c21
      refine r_iload_n (j := 4) C 44 dX2_findStationFlows_43 rfl rfl ?_
      refine r_if_eq C 63 47 dX2_findStationFlows_44 (by decide) rfl (fun c44 => ?_) (fun c44 => ?_)
      · have h := h.1 c44
        refine r_iconst C 64 (v := 0) dX2_findStationFlows_63 rfl (by decide) ?_
        refine r_istore_n C 65 [(3, .int 0), (5, .int 0), (0, .ref t), (1, .ref a), (2, .ref 44), (4, .int i4)] dX2_findStationFlows_64 rfl (by decide) rfl ?_
        refine r_aload_n (j := 2) C 66 dX2_findStationFlows_65 rfl rfl ?_
        refine r_get (k := 0) C cl4 69 dX2_findStationFlows_66 rfl (sta0 ht) (by decide) wd_276 (.ref (t + 1)) (fun _ => rfl) ?_
        refine r_iload (j := 5) C 71 dX2_findStationFlows_69 rfl rfl ?_
        refine r_iload (j := 1) C 73 dX2_findStationFlows_71 rfl rfl ?_
        obtain ⟨o73, h⟩ := h
        refine r_iast C 74 dX2_findStationFlows_73 rfl (sta1 ht) o73 ?_
        refine r_nmS (fun σ73 e73 => ?_)
        have h := h σ73 e73
        obtain ⟨v74, e74⟩ : ∃ y : Int32, y = i4 + 1 := ⟨_, rfl⟩
        have h := h v74 e74
        refine r_iinc (j := 5) C 77 [(4, .int v74), (3, .int 0), (5, .int 0), (0, .ref t), (1, .ref a), (2, .ref 44)] dX2_findStationFlows_74 rfl rfl (by rw [e74]; rfl) (by decide) rfl ?_
        refine r_goto C 5 dX2_findStationFlows_77 (by decide) ?_
        exact Ws_pick [3, 4, 5, 1, 0] rfl h
      · have h := h.2 c44
        refine r_iload (j := 0) C 49 dX2_findStationFlows_47 rfl rfl ?_
        refine r_aload_n (j := 1) C 50 dX2_findStationFlows_49 rfl rfl ?_
        refine r_get (k := 0) C cl4 53 dX2_findStationFlows_50 rfl (sta0 ht) (by decide) wd_276 (.ref (t + 1)) (fun _ => rfl) ?_
        refine r_iload (j := 5) C 55 dX2_findStationFlows_53 rfl rfl ?_
        obtain ⟨o55, h⟩ := h
        refine r_iald C 56 dX2_findStationFlows_55 rfl (sta1 ht) o55 ?_
        refine r_icmp_ne C 63 59 dX2_findStationFlows_56 (by decide) rfl (fun c56 => ?_) (fun c56 => ?_)
        · have h := h.1 c56
          refine r_iconst C 64 (v := 0) dX2_findStationFlows_63 rfl (by decide) ?_
          refine r_istore_n C 65 [(3, .int 0), (5, .int 0), (0, .ref t), (1, .ref a), (2, .ref 44), (4, .int i4)] dX2_findStationFlows_64 rfl (by decide) rfl ?_
          refine r_aload_n (j := 2) C 66 dX2_findStationFlows_65 rfl rfl ?_
          refine r_get (k := 0) C cl4 69 dX2_findStationFlows_66 rfl (sta0 ht) (by decide) wd_276 (.ref (t + 1)) (fun _ => rfl) ?_
          refine r_iload (j := 5) C 71 dX2_findStationFlows_69 rfl rfl ?_
          refine r_iload (j := 1) C 73 dX2_findStationFlows_71 rfl rfl ?_
          obtain ⟨o73, h⟩ := h
          refine r_iast C 74 dX2_findStationFlows_73 rfl (sta1 ht) o73 ?_
          refine r_nmS (fun σ73 e73 => ?_)
          have h := h σ73 e73
          obtain ⟨v74, e74⟩ : ∃ y : Int32, y = i4 + 1 := ⟨_, rfl⟩
          have h := h v74 e74
          refine r_iinc (j := 5) C 77 [(4, .int v74), (3, .int 0), (5, .int 0), (0, .ref t), (1, .ref a), (2, .ref 44)] dX2_findStationFlows_74 rfl rfl (by rw [e74]; rfl) (by decide) rfl ?_
          refine r_goto C 5 dX2_findStationFlows_77 (by decide) ?_
          exact Ws_pick [3, 4, 5, 1, 0] rfl h
        · have h := h.2 c56
          refine r_iconst C 60 (v := 1) dX2_findStationFlows_59 rfl (by decide) ?_
          refine r_goto C 64 dX2_findStationFlows_60 (by decide) ?_
          refine r_istore_n C 65 [(3, .int 1), (5, .int 0), (0, .ref t), (1, .ref a), (2, .ref 44), (4, .int i4)] dX2_findStationFlows_64 rfl (by decide) rfl ?_
          refine r_aload_n (j := 2) C 66 dX2_findStationFlows_65 rfl rfl ?_
          refine r_get (k := 0) C cl4 69 dX2_findStationFlows_66 rfl (sta0 ht) (by decide) wd_276 (.ref (t + 1)) (fun _ => rfl) ?_
          refine r_iload (j := 5) C 71 dX2_findStationFlows_69 rfl rfl ?_
          refine r_iload (j := 1) C 73 dX2_findStationFlows_71 rfl rfl ?_
          obtain ⟨o73, h⟩ := h
          refine r_iast C 74 dX2_findStationFlows_73 rfl (sta1 ht) o73 ?_
          refine r_nmS (fun σ73 e73 => ?_)
          have h := h σ73 e73
          obtain ⟨v74, e74⟩ : ∃ y : Int32, y = i4 + 1 := ⟨_, rfl⟩
          have h := h v74 e74
          refine r_iinc (j := 5) C 77 [(4, .int v74), (3, .int 1), (5, .int 0), (0, .ref t), (1, .ref a), (2, .ref 44)] dX2_findStationFlows_74 rfl rfl (by rw [e74]; rfl) (by decide) rfl ?_
          refine r_goto C 5 dX2_findStationFlows_77 (by decide) ?_
          exact Ws_pick [3, 4, 5, 1, 0] rfl h
    · have h := h.2 c21
      refine r_aload_n (j := 3) C 25 dX2_findStationFlows_24 rfl rfl ?_
      refine r_get (k := 0) C cl3 28 dX2_findStationFlows_25 rfl kd_44 (by decide) wd_225 (.ref 45) (fun _ => rfl) ?_
      refine r_iload (j := 5) C 30 dX2_findStationFlows_28 rfl rfl ?_
      obtain ⟨o30, h⟩ := h
      refine r_iald C 31 dX2_findStationFlows_30 rfl kd_45 o30 ?_
      refine r_if_lt C 43 34 dX2_findStationFlows_31 (by decide) rfl (fun c31 => ?_) (fun c31 => ?_)
      · have h := h.1 c31
        refine r_iload_n (j := 4) C 44 dX2_findStationFlows_43 rfl rfl ?_
        refine r_if_eq C 63 47 dX2_findStationFlows_44 (by decide) rfl (fun c44 => ?_) (fun c44 => ?_)
        · have h := h.1 c44
          refine r_iconst C 64 (v := 0) dX2_findStationFlows_63 rfl (by decide) ?_
          refine r_istore_n C 65 [(3, .int 0), (5, .int 0), (0, .ref t), (1, .ref a), (2, .ref 44), (4, .int i4)] dX2_findStationFlows_64 rfl (by decide) rfl ?_
          refine r_aload_n (j := 2) C 66 dX2_findStationFlows_65 rfl rfl ?_
          refine r_get (k := 0) C cl4 69 dX2_findStationFlows_66 rfl (sta0 ht) (by decide) wd_276 (.ref (t + 1)) (fun _ => rfl) ?_
          refine r_iload (j := 5) C 71 dX2_findStationFlows_69 rfl rfl ?_
          refine r_iload (j := 1) C 73 dX2_findStationFlows_71 rfl rfl ?_
          obtain ⟨o73, h⟩ := h
          refine r_iast C 74 dX2_findStationFlows_73 rfl (sta1 ht) o73 ?_
          refine r_nmS (fun σ73 e73 => ?_)
          have h := h σ73 e73
          obtain ⟨v74, e74⟩ : ∃ y : Int32, y = i4 + 1 := ⟨_, rfl⟩
          have h := h v74 e74
          refine r_iinc (j := 5) C 77 [(4, .int v74), (3, .int 0), (5, .int 0), (0, .ref t), (1, .ref a), (2, .ref 44)] dX2_findStationFlows_74 rfl rfl (by rw [e74]; rfl) (by decide) rfl ?_
          refine r_goto C 5 dX2_findStationFlows_77 (by decide) ?_
          exact Ws_pick [3, 4, 5, 1, 0] rfl h
        · have h := h.2 c44
          refine r_iload (j := 0) C 49 dX2_findStationFlows_47 rfl rfl ?_
          refine r_aload_n (j := 1) C 50 dX2_findStationFlows_49 rfl rfl ?_
          refine r_get (k := 0) C cl4 53 dX2_findStationFlows_50 rfl (sta0 ht) (by decide) wd_276 (.ref (t + 1)) (fun _ => rfl) ?_
          refine r_iload (j := 5) C 55 dX2_findStationFlows_53 rfl rfl ?_
          obtain ⟨o55, h⟩ := h
          refine r_iald C 56 dX2_findStationFlows_55 rfl (sta1 ht) o55 ?_
          refine r_icmp_ne C 63 59 dX2_findStationFlows_56 (by decide) rfl (fun c56 => ?_) (fun c56 => ?_)
          · have h := h.1 c56
            refine r_iconst C 64 (v := 0) dX2_findStationFlows_63 rfl (by decide) ?_
            refine r_istore_n C 65 [(3, .int 0), (5, .int 0), (0, .ref t), (1, .ref a), (2, .ref 44), (4, .int i4)] dX2_findStationFlows_64 rfl (by decide) rfl ?_
            refine r_aload_n (j := 2) C 66 dX2_findStationFlows_65 rfl rfl ?_
            refine r_get (k := 0) C cl4 69 dX2_findStationFlows_66 rfl (sta0 ht) (by decide) wd_276 (.ref (t + 1)) (fun _ => rfl) ?_
            refine r_iload (j := 5) C 71 dX2_findStationFlows_69 rfl rfl ?_
            refine r_iload (j := 1) C 73 dX2_findStationFlows_71 rfl rfl ?_
            obtain ⟨o73, h⟩ := h
            refine r_iast C 74 dX2_findStationFlows_73 rfl (sta1 ht) o73 ?_
            refine r_nmS (fun σ73 e73 => ?_)
            have h := h σ73 e73
            obtain ⟨v74, e74⟩ : ∃ y : Int32, y = i4 + 1 := ⟨_, rfl⟩
            have h := h v74 e74
            refine r_iinc (j := 5) C 77 [(4, .int v74), (3, .int 0), (5, .int 0), (0, .ref t), (1, .ref a), (2, .ref 44)] dX2_findStationFlows_74 rfl rfl (by rw [e74]; rfl) (by decide) rfl ?_
            refine r_goto C 5 dX2_findStationFlows_77 (by decide) ?_
            exact Ws_pick [3, 4, 5, 1, 0] rfl h
          · have h := h.2 c56
            refine r_iconst C 60 (v := 1) dX2_findStationFlows_59 rfl (by decide) ?_
            refine r_goto C 64 dX2_findStationFlows_60 (by decide) ?_
            refine r_istore_n C 65 [(3, .int 1), (5, .int 0), (0, .ref t), (1, .ref a), (2, .ref 44), (4, .int i4)] dX2_findStationFlows_64 rfl (by decide) rfl ?_
            refine r_aload_n (j := 2) C 66 dX2_findStationFlows_65 rfl rfl ?_
            refine r_get (k := 0) C cl4 69 dX2_findStationFlows_66 rfl (sta0 ht) (by decide) wd_276 (.ref (t + 1)) (fun _ => rfl) ?_
            refine r_iload (j := 5) C 71 dX2_findStationFlows_69 rfl rfl ?_
            refine r_iload (j := 1) C 73 dX2_findStationFlows_71 rfl rfl ?_
            obtain ⟨o73, h⟩ := h
            refine r_iast C 74 dX2_findStationFlows_73 rfl (sta1 ht) o73 ?_
            refine r_nmS (fun σ73 e73 => ?_)
            have h := h σ73 e73
            obtain ⟨v74, e74⟩ : ∃ y : Int32, y = i4 + 1 := ⟨_, rfl⟩
            have h := h v74 e74
            refine r_iinc (j := 5) C 77 [(4, .int v74), (3, .int 1), (5, .int 0), (0, .ref t), (1, .ref a), (2, .ref 44)] dX2_findStationFlows_74 rfl rfl (by rw [e74]; rfl) (by decide) rfl ?_
            refine r_goto C 5 dX2_findStationFlows_77 (by decide) ?_
            exact Ws_pick [3, 4, 5, 1, 0] rfl h
      · have h := h.2 c31
        refine r_aload_n (j := 1) C 35 dX2_findStationFlows_34 rfl rfl ?_
        refine r_aload_n (j := 2) C 36 dX2_findStationFlows_35 rfl rfl ?_
        refine r_iload (j := 5) C 38 dX2_findStationFlows_36 rfl rfl ?_
        refine r_cVI (as := [.ref a, .int i4]) (S := []) C r.px 41 (ct_X2_drawnFlow _ _ _ _ _ _ h) dX2_findStationFlows_38 rfl cl4 (sta0 ht) wd_8 wd_473 rfl wd_471 wd_474 wd_93 yd_X2_drawnFlow ⟨Nat.le_of_ble_eq_true rfl, Nat.le_of_ble_eq_true rfl⟩ (Nat.le_of_ble_eq_true rfl) (by decide) (fun r38 σ38 h => ?_)
        refine r_istore C 43 [(5, .int r38), (0, .ref t), (1, .ref a), (2, .ref 44), (3, .int i3), (4, .int i4)] dX2_findStationFlows_41 rfl (by decide) rfl ?_
        refine r_iload_n (j := 4) C 44 dX2_findStationFlows_43 rfl rfl ?_
        refine r_if_eq C 63 47 dX2_findStationFlows_44 (by decide) rfl (fun c44 => ?_) (fun c44 => ?_)
        · have h := h.1 c44
          refine r_iconst C 64 (v := 0) dX2_findStationFlows_63 rfl (by decide) ?_
          refine r_istore_n C 65 [(3, .int 0), (5, .int r38), (0, .ref t), (1, .ref a), (2, .ref 44), (4, .int i4)] dX2_findStationFlows_64 rfl (by decide) rfl ?_
          refine r_aload_n (j := 2) C 66 dX2_findStationFlows_65 rfl rfl ?_
          refine r_get (k := 0) C cl4 69 dX2_findStationFlows_66 rfl (sta0 ht) (by decide) wd_276 (.ref (t + 1)) (fun _ => rfl) ?_
          refine r_iload (j := 5) C 71 dX2_findStationFlows_69 rfl rfl ?_
          refine r_iload (j := 1) C 73 dX2_findStationFlows_71 rfl rfl ?_
          obtain ⟨o73, h⟩ := h
          refine r_iast C 74 dX2_findStationFlows_73 rfl (sta1 ht) o73 ?_
          refine r_nmS (fun σ73 e73 => ?_)
          have h := h σ73 e73
          obtain ⟨v74, e74⟩ : ∃ y : Int32, y = i4 + 1 := ⟨_, rfl⟩
          have h := h v74 e74
          refine r_iinc (j := 5) C 77 [(4, .int v74), (3, .int 0), (5, .int r38), (0, .ref t), (1, .ref a), (2, .ref 44)] dX2_findStationFlows_74 rfl rfl (by rw [e74]; rfl) (by decide) rfl ?_
          refine r_goto C 5 dX2_findStationFlows_77 (by decide) ?_
          exact Ws_pick [3, 4, 5, 1, 0] rfl h
        · have h := h.2 c44
          refine r_iload (j := 0) C 49 dX2_findStationFlows_47 rfl rfl ?_
          refine r_aload_n (j := 1) C 50 dX2_findStationFlows_49 rfl rfl ?_
          refine r_get (k := 0) C cl4 53 dX2_findStationFlows_50 rfl (sta0 ht) (by decide) wd_276 (.ref (t + 1)) (fun _ => rfl) ?_
          refine r_iload (j := 5) C 55 dX2_findStationFlows_53 rfl rfl ?_
          obtain ⟨o55, h⟩ := h
          refine r_iald C 56 dX2_findStationFlows_55 rfl (sta1 ht) o55 ?_
          refine r_icmp_ne C 63 59 dX2_findStationFlows_56 (by decide) rfl (fun c56 => ?_) (fun c56 => ?_)
          · have h := h.1 c56
            refine r_iconst C 64 (v := 0) dX2_findStationFlows_63 rfl (by decide) ?_
            refine r_istore_n C 65 [(3, .int 0), (5, .int r38), (0, .ref t), (1, .ref a), (2, .ref 44), (4, .int i4)] dX2_findStationFlows_64 rfl (by decide) rfl ?_
            refine r_aload_n (j := 2) C 66 dX2_findStationFlows_65 rfl rfl ?_
            refine r_get (k := 0) C cl4 69 dX2_findStationFlows_66 rfl (sta0 ht) (by decide) wd_276 (.ref (t + 1)) (fun _ => rfl) ?_
            refine r_iload (j := 5) C 71 dX2_findStationFlows_69 rfl rfl ?_
            refine r_iload (j := 1) C 73 dX2_findStationFlows_71 rfl rfl ?_
            obtain ⟨o73, h⟩ := h
            refine r_iast C 74 dX2_findStationFlows_73 rfl (sta1 ht) o73 ?_
            refine r_nmS (fun σ73 e73 => ?_)
            have h := h σ73 e73
            obtain ⟨v74, e74⟩ : ∃ y : Int32, y = i4 + 1 := ⟨_, rfl⟩
            have h := h v74 e74
            refine r_iinc (j := 5) C 77 [(4, .int v74), (3, .int 0), (5, .int r38), (0, .ref t), (1, .ref a), (2, .ref 44)] dX2_findStationFlows_74 rfl rfl (by rw [e74]; rfl) (by decide) rfl ?_
            refine r_goto C 5 dX2_findStationFlows_77 (by decide) ?_
            exact Ws_pick [3, 4, 5, 1, 0] rfl h
          · have h := h.2 c56
            refine r_iconst C 60 (v := 1) dX2_findStationFlows_59 rfl (by decide) ?_
            refine r_goto C 64 dX2_findStationFlows_60 (by decide) ?_
            refine r_istore_n C 65 [(3, .int 1), (5, .int r38), (0, .ref t), (1, .ref a), (2, .ref 44), (4, .int i4)] dX2_findStationFlows_64 rfl (by decide) rfl ?_
            refine r_aload_n (j := 2) C 66 dX2_findStationFlows_65 rfl rfl ?_
            refine r_get (k := 0) C cl4 69 dX2_findStationFlows_66 rfl (sta0 ht) (by decide) wd_276 (.ref (t + 1)) (fun _ => rfl) ?_
            refine r_iload (j := 5) C 71 dX2_findStationFlows_69 rfl rfl ?_
            refine r_iload (j := 1) C 73 dX2_findStationFlows_71 rfl rfl ?_
            obtain ⟨o73, h⟩ := h
            refine r_iast C 74 dX2_findStationFlows_73 rfl (sta1 ht) o73 ?_
            refine r_nmS (fun σ73 e73 => ?_)
            have h := h σ73 e73
            obtain ⟨v74, e74⟩ : ∃ y : Int32, y = i4 + 1 := ⟨_, rfl⟩
            have h := h v74 e74
            refine r_iinc (j := 5) C 77 [(4, .int v74), (3, .int 1), (5, .int r38), (0, .ref t), (1, .ref a), (2, .ref 44)] dX2_findStationFlows_74 rfl rfl (by rw [e74]; rfl) (by decide) rfl ?_
            refine r_goto C 5 dX2_findStationFlows_77 (by decide) ?_
            exact Ws_pick [3, 4, 5, 1, 0] rfl h
theorem vc_X2_findStationFlows {x : Ctx} {K : Int32 → Mem → Prop} {X : String → Mem → Prop} (C : Cx x RX2 cX2_findStationFlows 6) (r : RtI x 4 0 (some .boolean) K X) (t a : Nat) (σ : Mem) (h : sp_X2_findStationFlows t a σ K X) : Ws x 0 0 [(0, .ref t), (1, .ref a), (2, .ref 44)] [] σ := by
  obtain ⟨ht, ha, w, g, c, T, hw, hN, hS, hT6, hK⟩ := h
  have hg := hw.2.1
  have hT := bfs_tre hg (by decide : 0 < 10)
  have ht2 := staA_is ht
  have hfar := netA_far ha
  generalize bfs g 0 = L at hT hS hK
  refine sg_X2_findStationFlows_0 C r t a ht ha σ ?_
  refine cnt 10 (fun k τ => (∀ b j, ¬ (b = t + 1 ∧ j < k) → τ.1 b j = σ.1 b j) ∧ τ.2 = σ.2 ∧ ∀ n, n < k → τ.1 (t + 1) n = nI (drW w L (T n) n)) (fun k τ => Ws x 0 5 [(0, .ref t), (1, .ref a), (2, .ref 44), (3, .int (if (List.range k).all (fun n => decide (nI (drW w L (T n) n) = σ.1 (t + 1) n)) = true then 1 else 0)), (4, .int (nI k))] [] τ) ?_ ?_ 0 σ (Nat.zero_le _) ⟨fun _ _ _ => rfl, rfl, fun n hn => absurd hn (Nat.not_lt_zero n)⟩
  · rintro τ ⟨j1, j2, j3⟩
    refine sg_X2_findStationFlows_5 C r t a _ _ ht ha τ ⟨fun _ => ⟨by split <;> rfl, hK τ j1 j2 j3⟩, fun q => (lit_lt (by decide) (Nat.le_refl 10) (by decide) q).elim⟩
  · rintro k τ hk ⟨j1, j2, j3⟩ ih
    have eo : ∀ b j, b ≠ t + 1 → τ.1 b j = σ.1 b j := fun b j hb => j1 b j (fun q => hb q.1)
    have hN' : NR τ a w g := by
      obtain ⟨b1, b2, b3, b4⟩ := hN
      refine ⟨fun k hk => by rw [eo _ _ (by omega)]; exact b1 k hk, ⟨by rw [eo _ _ (by omega)]; exact b2.1, fun p hp => by rw [eo _ _ (by omega), eo _ _ (by omega)]; exact b2.2 p hp⟩, fun p hp => by rw [eo _ _ (by omega), eo _ _ (by omega)]; exact b3 p hp, fun n hn => ?_⟩
      rw [eo _ _ (by omega), eo _ _ (by omega), eo _ _ (by omega), eo _ _ (by omega), eo _ _ (by omega)]
      exact b4 n hn
    have old : τ.1 (t + 1) k = σ.1 (t + 1) k := j1 _ _ (fun q => by omega)
    have hi := n_inR (n := k) (N := 10) hk (by decide)
    generalize hb : (List.range k).all (fun n => decide (nI (drW w L (T n) n) = σ.1 (t + 1) n)) = b at ih
    -- one station's flow
    have put : ∀ (v s : Int32), v = nI (drW w L (T k) k) → s = (if (b && decide (v = σ.1 (t + 1) k)) = true then 1 else 0) → ∀ σ73 : Mem, σ73 = wi τ (t + 1) k v → ∀ v74 : Int32, v74 = nI k + 1 → Ws x 0 5 [(0, .ref t), (1, .ref a), (2, .ref 44), (3, .int s), (4, .int v74)] [] σ73 := fun v s hv hs σ73 e73 v74 e74 => by
      rw [e74, nI_1, hs, hv]
      have ih := ih σ73 ⟨fun d j hd => ?_, by rw [e73]; exact j2, fun n hn => ?_⟩
      · rw [List.range_succ, List.all_append, hb] at ih
        simp only [List.all_cons, List.all_nil, Bool.and_true] at ih
        exact ih
      · rw [e73, wi_i, if_neg (fun q => hd (by omega))]
        exact j1 d j (fun q => hd (by omega))
      · rw [e73, wi_i]
        by_cases d : n = k
        · rw [if_pos ⟨rfl, d⟩, hv, d]
        · rw [if_neg (fun q => d q.2)]; exact j3 n (by omega)
    have tail : ∀ v : Int32, v = nI (drW w L (T k) k) → (((if b = true then (1 : Int32) else 0) = 0 → (vp_in (nI k) 10) ∧ (∀ σ73 : Mem, σ73 = wi τ (t + 1) k v → ∀ v74 : Int32, v74 = nI k + 1 → Ws x 0 5 [(0, .ref t), (1, .ref a), (2, .ref 44), (3, .int 0), (4, .int v74)] [] σ73)) ∧ (¬ (if b = true then (1 : Int32) else 0) = 0 → (vp_in (nI k) 10) ∧ ((¬ v = (τ.1 (t + 1) k) → (vp_in (nI k) 10) ∧ (∀ σ73 : Mem, σ73 = wi τ (t + 1) k v → ∀ v74 : Int32, v74 = nI k + 1 → Ws x 0 5 [(0, .ref t), (1, .ref a), (2, .ref 44), (3, .int 0), (4, .int v74)] [] σ73)) ∧ (v = (τ.1 (t + 1) k) → (vp_in (nI k) 10) ∧ (∀ σ73 : Mem, σ73 = wi τ (t + 1) k v → ∀ v74 : Int32, v74 = nI k + 1 → Ws x 0 5 [(0, .ref t), (1, .ref a), (2, .ref 44), (3, .int 1), (4, .int v74)] [] σ73))))) := fun v hv => by
      refine ⟨fun q => ⟨hi, put v 0 hv ?_⟩, fun q => ⟨hi, fun q2 => ⟨hi, put v 0 hv ?_⟩, fun q2 => ⟨hi, put v 1 hv ?_⟩⟩⟩
      · have : b = false := by
          cases b
          · rfl
          · exact absurd q (by decide)
        rw [this]; rfl
      · rw [old] at q2
        rw [decide_eq_false q2, Bool.and_false]; rfl
      · rw [old] at q2
        have : b = true := by
          cases b
          · exact absurd rfl q
          · rfl
        rw [this, decide_eq_true q2]; rfl
    refine sg_X2_findStationFlows_5 C r t a _ _ ht ha τ ⟨fun q => (lit_ge (by decide) hk q).elim, fun _ => i_X0_hasStation ha hk ?_⟩
    rw [n_cl (n := k) (by omega)]
    by_cases hh : hasW w k
    · obtain ⟨b1, -⟩ := (hN'.2.2.2 k hk).1 hh
      obtain ⟨q1, -⟩ := hw.2.2.2.2.2.2.2.2.2.2.2.2 k hk hh
      obtain ⟨s0, s1, s2⟩ := q1.val (by decide)
      have hpos : ¬ τ.1 (a + 6) k ≤ 0 := by
        rw [b1, s0]
        intro z
        have := n_le (b := 0) (by omega) (by decide) z
        omega
      rw [if_pos hpos]
      refine ⟨fun z => absurd z (by decide), fun _ => ⟨hi, ?_⟩⟩
      rw [eo 45 k (by omega), hS.2.2.2.2.1 k hk]
      refine ⟨fun z => ?_, fun z => ?_⟩
      · have hc : k ∉ nds L := (fI_lt10 hT k).mp z
        exact tail 0 (by rw [drW_out hc]; rfl)
      · have hc : k ∈ nds L := Classical.byContradiction fun y => z ((fI_lt10 hT k).mpr y)
        exact i_X2_drawnFlow ht ha hw hN' hk hh hc (by rw [eo _ _ (by omega)]; exact (hT6 k hk).1) (hT6 k hk).2 (tail _ rfl)
    · have b1 := (hN'.2.2.2 k hk).2 hh
      have hz : ¬ ¬ τ.1 (a + 6) k ≤ 0 := by rw [b1]; decide
      rw [if_neg hz]
      exact ⟨fun _ => tail 0 (by rw [(drW_bd (g := g) hw hk).2.1 hh]; rfl), fun z => absurd rfl z⟩
theorem ct_X2_findStationFlows (t : Nat) (a : Nat) (σ : Mem) (K : Int32 → Mem → Prop) (X : String → Mem → Prop) (h : sp_X2_findStationFlows t a σ K X) : CtI yX2_findStationFlows cX2_findStationFlows 6 (some .boolean) 4 0 [.ref t, .ref a, .ref 44] σ K X :=
  ctI_of (by decide +kernel) (Nat.le_of_ble_eq_true rfl) (fun x C r => vc_X2_findStationFlows C r t a σ h)
