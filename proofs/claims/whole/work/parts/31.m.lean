/-! HeatNetwork$State.findTreeFlows(LHeatNetwork$Network;LHeatNetwork$Shape;)V: level 3, exceptions 0 -/
def sp_X2_findTreeFlows (t a : Nat) (σ : Mem) (K : Mem → Prop) (X : String → Mem → Prop) : Prop := StaA t ∧ NetA a ∧ ∃ (g : Gr) (c : Lp) (dr : Nat → Nat), WG g ∧ GC σ a g ∧ Shp g (bfs g 0) c σ ∧ (∀ n, n < 10 → σ.1 (t + 1) n = nI (dr n) ∧ dr n ≤ 999) ∧ ∀ (τ : Mem) (B : Nat → Nat), Ch (t + 2) (t + 4) σ τ → EqB g (bfs g 0) c dr B → (∀ n, n ∈ nds (bfs g 0) → B n ≤ 9990 ∧ τ.1 (t + 4) n = nI (B n)) → (∀ n, n ∈ nds (bfs g 0) → n ≠ 0 → ¬ inT c n → τ.1 (t + 2) (fp (bfs g 0) n) = zI (sgn g (fp (bfs g 0) n) (fe (bfs g 0) n) (B n))) → (∀ p, p < 10 → (∀ n, n ∈ nds (bfs g 0) → n ≠ 0 → ¬ inT c n → fp (bfs g 0) n ≠ p) → τ.1 (t + 2) p = 0) → K τ
set_option maxRecDepth 4000 in
theorem sg_X2_findTreeFlows_0 {x : Ctx} {K : Mem → Prop} {X : String → Mem → Prop} (C : Cx x RX2 cX2_findTreeFlows 6) (r : RtV x 3 0 none K X) (t : Nat) (a : Nat) (ht : StaA t) (ha : NetA a) (σ : Mem) (h : ∀ σ12 : Mem, σ12 = ci σ (t + 1) (t + 4) 0 0 10 → sp_J7_fill_53178 (t + 2) 10 0 σ12 (fun σ20 => ∀ v29 : Int32, v29 = ((σ20.1 44 2) - 1) → Ws x 0 30 [(0, .ref t), (1, .ref a), (2, .ref 44), (3, .int v29)] [] σ20) X) : Ws x 0 0 [(0, .ref t), (1, .ref a), (2, .ref 44)] [] σ := by
  refine r_aload_n (j := 0) C 1 dX2_findTreeFlows_0 rfl rfl ?_
  refine r_get (k := 0) C cl4 4 dX2_findTreeFlows_1 rfl (sta0 ht) (by decide) wd_276 (.ref (t + 1)) (fun _ => rfl) ?_
  refine r_iconst C 5 (v := 0) dX2_findTreeFlows_4 rfl (by decide) ?_
  refine r_aload_n (j := 0) C 6 dX2_findTreeFlows_5 rfl rfl ?_
  refine r_get (k := 3) C cl4 9 dX2_findTreeFlows_6 rfl (sta0 ht) (by decide) wd_281 (.ref (t + 4)) (fun _ => rfl) ?_
  refine r_iconst C 10 (v := 0) dX2_findTreeFlows_9 rfl (by decide) ?_
  refine r_bipush C 12 (v := 10) dX2_findTreeFlows_10 rfl (by decide) ?_
  refine r_cpyI C (r.px.fr (by decide) (by decide)) 15 dX2_findTreeFlows_12 rfl wd_489 wd_491 wd_490 wd_103 (sta1 ht) (sta4 ht) (by decide) (by decide) (by decide) (by decide) (by decide) (Nat.le_of_ble_eq_true rfl) ?_
  refine r_nmS (fun σ12 e12 => ?_)
  have h := h σ12 e12
  refine r_aload_n (j := 0) C 16 dX2_findTreeFlows_15 rfl rfl ?_
  refine r_get (k := 1) C cl4 19 dX2_findTreeFlows_16 rfl (sta0 ht) (by decide) wd_278 (.ref (t + 2)) (fun _ => rfl) ?_
  refine r_iconst C 20 (v := 0) dX2_findTreeFlows_19 rfl (by decide) ?_
  refine r_cSV (b := 0) (as := [.ref (t + 2), .int 0]) (S := []) C r.px 23 (ct_J7_fill_53178 _ _ _ _ _ _ h) dX2_findTreeFlows_20 rfl wd_422 wd_461 wd_423 wd_108 yd_J7_fill_53178 ⟨Nat.le_of_ble_eq_true rfl, Nat.le_of_ble_eq_true rfl⟩ (Nat.le_of_ble_eq_true rfl) (by decide) (fun σ20 h => ?_)
  refine r_aload_n (j := 2) C 24 dX2_findTreeFlows_23 rfl rfl ?_
  refine r_get (k := 2) C cl3 27 dX2_findTreeFlows_24 rfl kd_44 (by decide) wd_230 (.int (σ20.1 44 2)) (fun _ => rfl) ?_
  refine r_iconst C 28 (v := 1) dX2_findTreeFlows_27 rfl (by decide) ?_
  refine r_isub C 29 dX2_findTreeFlows_28 rfl ?_
  refine r_nmI (fun v29 e29 => ?_)
  have h := h v29 e29
  refine r_istore_n C 30 [(3, .int v29), (0, .ref t), (1, .ref a), (2, .ref 44)] dX2_findTreeFlows_29 rfl (by decide) rfl ?_
  exact Ws_pick [1, 2, 3, 0] rfl h
set_option maxRecDepth 4000 in
theorem sg_X2_findTreeFlows_30 {x : Ctx} {K : Mem → Prop} {X : String → Mem → Prop} (C : Cx x RX2 cX2_findTreeFlows 6) (r : RtV x 3 0 none K X) (t : Nat) (a : Nat) (i3 : Int32) (ht : StaA t) (ha : NetA a) (σ : Mem) (h : (i3 < 0 → K σ) ∧ (¬ i3 < 0 → (vp_in i3 10) ∧ (∀ v40 : Int32, v40 = (σ.1 46 i3.toNatClampNeg) → (vp_in v40 10) ∧ (∀ v49 : Int32, v49 = (σ.1 47 v40.toNatClampNeg) → sp_X4_isNode v49 σ (fun r53 σ53 => (r53 = 0 → (vp_in v40 10) ∧ ((0 ≤ (σ53.1 49 v40.toNatClampNeg) → ∀ v107 : Int32, v107 = i3 + (-1) → Ws x 0 30 [(0, .ref t), (1, .ref a), (2, .ref 44), (3, .int v107)] [] σ53) ∧ (¬ 0 ≤ (σ53.1 49 v40.toNatClampNeg) → (vp_in v40 10) ∧ ((vp_in v40 10) ∧ (sp_X2_carry t a (σ53.1 48 v40.toNatClampNeg) v49 (σ53.1 (t + 4) v40.toNatClampNeg) σ53 (fun σ104 => ∀ v107 : Int32, v107 = i3 + (-1) → Ws x 0 30 [(0, .ref t), (1, .ref a), (2, .ref 44), (3, .int v107)] [] σ104) X))))) ∧ (¬ r53 = 0 → (vp_in v49 10) ∧ ((vp_in v40 10) ∧ ((vp_in v49 10) ∧ (∀ σ75 : Mem, σ75 = wi σ53 (t + 4) v49.toNatClampNeg ((σ53.1 (t + 4) v49.toNatClampNeg) + (σ53.1 (t + 4) v40.toNatClampNeg)) → (vp_in v40 10) ∧ ((0 ≤ (σ75.1 49 v40.toNatClampNeg) → ∀ v107 : Int32, v107 = i3 + (-1) → Ws x 0 30 [(0, .ref t), (1, .ref a), (2, .ref 44), (3, .int v107)] [] σ75) ∧ (¬ 0 ≤ (σ75.1 49 v40.toNatClampNeg) → (vp_in v40 10) ∧ ((vp_in v40 10) ∧ (sp_X2_carry t a (σ75.1 48 v40.toNatClampNeg) v49 (σ75.1 (t + 4) v40.toNatClampNeg) σ75 (fun σ104 => ∀ v107 : Int32, v107 = i3 + (-1) → Ws x 0 30 [(0, .ref t), (1, .ref a), (2, .ref 44), (3, .int v107)] [] σ104) X))))))))) X)))) : Ws x 0 30 [(0, .ref t), (1, .ref a), (2, .ref 44), (3, .int i3)] [] σ := by
  refine r_iload_n (j := 3) C 31 dX2_findTreeFlows_30 rfl rfl ?_
  refine r_if_lt C 113 34 dX2_findTreeFlows_31 (by decide) rfl (fun c31 => ?_) (fun c31 => ?_)
  · have h := h.1 c31
    exact r_vret (S := []) C r dX2_findTreeFlows_113 (by decide) h
  · have h := h.2 c31
    refine r_aload_n (j := 2) C 35 dX2_findTreeFlows_34 rfl rfl ?_
    refine r_get (k := 1) C cl3 38 dX2_findTreeFlows_35 rfl kd_44 (by decide) wd_228 (.ref 46) (fun _ => rfl) ?_
    refine r_iload_n (j := 3) C 39 dX2_findTreeFlows_38 rfl rfl ?_
    obtain ⟨o39, h⟩ := h
    refine r_iald C 40 dX2_findTreeFlows_39 rfl kd_46 o39 ?_
    refine r_nmI (fun v40 e40 => ?_)
    have h := h v40 e40
    refine r_istore C 42 [(4, .int v40), (0, .ref t), (1, .ref a), (2, .ref 44), (3, .int i3)] dX2_findTreeFlows_40 rfl (by decide) rfl ?_
    refine r_aload_n (j := 3) C 43 dX2_findTreeFlows_42 rfl rfl ?_
    refine r_get (k := 3) C cl3 46 dX2_findTreeFlows_43 rfl kd_44 (by decide) wd_233 (.ref 47) (fun _ => rfl) ?_
    refine r_iload (j := 0) C 48 dX2_findTreeFlows_46 rfl rfl ?_
    obtain ⟨o48, h⟩ := h
    refine r_iald C 49 dX2_findTreeFlows_48 rfl kd_47 o48 ?_
    refine r_nmI (fun v49 e49 => ?_)
    have h := h v49 e49
    refine r_istore C 51 [(5, .int v49), (4, .int v40), (0, .ref t), (1, .ref a), (2, .ref 44), (3, .int i3)] dX2_findTreeFlows_49 rfl (by decide) rfl ?_
    refine r_iload (j := 0) C 53 dX2_findTreeFlows_51 rfl rfl ?_
    refine r_cNI (b := 0) (as := [.int v49]) (S := []) C r.px 56 (ct_X4_isNode _ _ _ _ h) dX2_findTreeFlows_53 rfl wd_429 (nbd_492) wd_430 wd_90 yd_X4_isNode ⟨Nat.le_of_ble_eq_true rfl, Nat.le_of_ble_eq_true rfl⟩ (Nat.le_of_ble_eq_true rfl) (by decide) (fun r53 σ53 h => ?_)
    refine r_if_eq C 76 59 dX2_findTreeFlows_56 (by decide) rfl (fun c56 => ?_) (fun c56 => ?_)
    · have h := h.1 c56
      refine r_aload_n (j := 4) C 77 dX2_findTreeFlows_76 rfl rfl ?_
      refine r_get (k := 5) C cl3 80 dX2_findTreeFlows_77 rfl kd_44 (by decide) wd_237 (.ref 49) (fun _ => rfl) ?_
      refine r_iload (j := 1) C 82 dX2_findTreeFlows_80 rfl rfl ?_
      obtain ⟨o82, h⟩ := h
      refine r_iald C 83 dX2_findTreeFlows_82 rfl kd_49 o82 ?_
      refine r_if_ge C 107 86 dX2_findTreeFlows_83 (by decide) rfl (fun c83 => ?_) (fun c83 => ?_)
      · have h := h.1 c83
        obtain ⟨v107, e107⟩ : ∃ y : Int32, y = i3 + (-1) := ⟨_, rfl⟩
        have h := h v107 e107
        refine r_iinc (j := 5) C 110 [(3, .int v107), (5, .int v49), (4, .int v40), (0, .ref t), (1, .ref a), (2, .ref 44)] dX2_findTreeFlows_107 rfl rfl (by rw [e107]; rfl) (by decide) rfl ?_
        refine r_goto C 30 dX2_findTreeFlows_110 (by decide) ?_
        exact Ws_pick [3, 4, 5, 0] rfl h
      · have h := h.2 c83
        refine r_aload_n (j := 2) C 87 dX2_findTreeFlows_86 rfl rfl ?_
        refine r_aload_n (j := 3) C 88 dX2_findTreeFlows_87 rfl rfl ?_
        refine r_aload_n (j := 4) C 89 dX2_findTreeFlows_88 rfl rfl ?_
        refine r_get (k := 4) C cl3 92 dX2_findTreeFlows_89 rfl kd_44 (by decide) wd_235 (.ref 48) (fun _ => rfl) ?_
        refine r_iload (j := 1) C 94 dX2_findTreeFlows_92 rfl rfl ?_
        obtain ⟨o94, h⟩ := h
        refine r_iald C 95 dX2_findTreeFlows_94 rfl kd_48 o94 ?_
        refine r_iload (j := 0) C 97 dX2_findTreeFlows_95 rfl rfl ?_
        refine r_aload_n (j := 2) C 98 dX2_findTreeFlows_97 rfl rfl ?_
        refine r_get (k := 3) C cl4 101 dX2_findTreeFlows_98 rfl (sta0 ht) (by decide) wd_281 (.ref (t + 4)) (fun _ => rfl) ?_
        refine r_iload (j := 1) C 103 dX2_findTreeFlows_101 rfl rfl ?_
        obtain ⟨o103, h⟩ := h
        refine r_iald C 104 dX2_findTreeFlows_103 rfl (sta4 ht) o103 ?_
        refine r_cVV (as := [.ref a, .int (σ53.1 48 v40.toNatClampNeg), .int v49, .int (σ53.1 (t + 4) v40.toNatClampNeg)]) (S := []) C r.px 107 (ct_X2_carry _ _ _ _ _ _ _ _ h) dX2_findTreeFlows_104 rfl cl4 (sta0 ht) wd_10 wd_495 rfl wd_493 wd_496 wd_93 yd_X2_carry ⟨Nat.le_of_ble_eq_true rfl, Nat.le_of_ble_eq_true rfl⟩ (Nat.le_of_ble_eq_true rfl) (by decide) (fun σ104 h => ?_)
        obtain ⟨v107, e107⟩ : ∃ y : Int32, y = i3 + (-1) := ⟨_, rfl⟩
        have h := h v107 e107
        refine r_iinc (j := 5) C 110 [(3, .int v107), (5, .int v49), (4, .int v40), (0, .ref t), (1, .ref a), (2, .ref 44)] dX2_findTreeFlows_107 rfl rfl (by rw [e107]; rfl) (by decide) rfl ?_
        refine r_goto C 30 dX2_findTreeFlows_110 (by decide) ?_
        exact Ws_pick [3, 4, 5, 0] rfl h
    · have h := h.2 c56
      refine r_aload_n (j := 2) C 60 dX2_findTreeFlows_59 rfl rfl ?_
      refine r_get (k := 3) C cl4 63 dX2_findTreeFlows_60 rfl (sta0 ht) (by decide) wd_281 (.ref (t + 4)) (fun _ => rfl) ?_
      refine r_iload (j := 0) C 65 dX2_findTreeFlows_63 rfl rfl ?_
      refine r_dup2 C 66 dX2_findTreeFlows_65 rfl rfl rfl ?_
      obtain ⟨o66, h⟩ := h
      refine r_iald C 67 dX2_findTreeFlows_66 rfl (sta4 ht) o66 ?_
      refine r_aload_n (j := 2) C 68 dX2_findTreeFlows_67 rfl rfl ?_
      refine r_get (k := 3) C cl4 71 dX2_findTreeFlows_68 rfl (sta0 ht) (by decide) wd_281 (.ref (t + 4)) (fun _ => rfl) ?_
      refine r_iload (j := 1) C 73 dX2_findTreeFlows_71 rfl rfl ?_
      obtain ⟨o73, h⟩ := h
      refine r_iald C 74 dX2_findTreeFlows_73 rfl (sta4 ht) o73 ?_
      refine r_iadd C 75 dX2_findTreeFlows_74 rfl ?_
      obtain ⟨o75, h⟩ := h
      refine r_iast C 76 dX2_findTreeFlows_75 rfl (sta4 ht) o75 ?_
      refine r_nmS (fun σ75 e75 => ?_)
      have h := h σ75 e75
      refine r_aload_n (j := 4) C 77 dX2_findTreeFlows_76 rfl rfl ?_
      refine r_get (k := 5) C cl3 80 dX2_findTreeFlows_77 rfl kd_44 (by decide) wd_237 (.ref 49) (fun _ => rfl) ?_
      refine r_iload (j := 1) C 82 dX2_findTreeFlows_80 rfl rfl ?_
      obtain ⟨o82, h⟩ := h
      refine r_iald C 83 dX2_findTreeFlows_82 rfl kd_49 o82 ?_
      refine r_if_ge C 107 86 dX2_findTreeFlows_83 (by decide) rfl (fun c83 => ?_) (fun c83 => ?_)
      · have h := h.1 c83
        obtain ⟨v107, e107⟩ : ∃ y : Int32, y = i3 + (-1) := ⟨_, rfl⟩
        have h := h v107 e107
        refine r_iinc (j := 5) C 110 [(3, .int v107), (5, .int v49), (4, .int v40), (0, .ref t), (1, .ref a), (2, .ref 44)] dX2_findTreeFlows_107 rfl rfl (by rw [e107]; rfl) (by decide) rfl ?_
        refine r_goto C 30 dX2_findTreeFlows_110 (by decide) ?_
        exact Ws_pick [3, 4, 5, 0] rfl h
      · have h := h.2 c83
        refine r_aload_n (j := 2) C 87 dX2_findTreeFlows_86 rfl rfl ?_
        refine r_aload_n (j := 3) C 88 dX2_findTreeFlows_87 rfl rfl ?_
        refine r_aload_n (j := 4) C 89 dX2_findTreeFlows_88 rfl rfl ?_
        refine r_get (k := 4) C cl3 92 dX2_findTreeFlows_89 rfl kd_44 (by decide) wd_235 (.ref 48) (fun _ => rfl) ?_
        refine r_iload (j := 1) C 94 dX2_findTreeFlows_92 rfl rfl ?_
        obtain ⟨o94, h⟩ := h
        refine r_iald C 95 dX2_findTreeFlows_94 rfl kd_48 o94 ?_
        refine r_iload (j := 0) C 97 dX2_findTreeFlows_95 rfl rfl ?_
        refine r_aload_n (j := 2) C 98 dX2_findTreeFlows_97 rfl rfl ?_
        refine r_get (k := 3) C cl4 101 dX2_findTreeFlows_98 rfl (sta0 ht) (by decide) wd_281 (.ref (t + 4)) (fun _ => rfl) ?_
        refine r_iload (j := 1) C 103 dX2_findTreeFlows_101 rfl rfl ?_
        obtain ⟨o103, h⟩ := h
        refine r_iald C 104 dX2_findTreeFlows_103 rfl (sta4 ht) o103 ?_
        refine r_cVV (as := [.ref a, .int (σ75.1 48 v40.toNatClampNeg), .int v49, .int (σ75.1 (t + 4) v40.toNatClampNeg)]) (S := []) C r.px 107 (ct_X2_carry _ _ _ _ _ _ _ _ h) dX2_findTreeFlows_104 rfl cl4 (sta0 ht) wd_10 wd_495 rfl wd_493 wd_496 wd_93 yd_X2_carry ⟨Nat.le_of_ble_eq_true rfl, Nat.le_of_ble_eq_true rfl⟩ (Nat.le_of_ble_eq_true rfl) (by decide) (fun σ104 h => ?_)
        obtain ⟨v107, e107⟩ : ∃ y : Int32, y = i3 + (-1) := ⟨_, rfl⟩
        have h := h v107 e107
        refine r_iinc (j := 5) C 110 [(3, .int v107), (5, .int v49), (4, .int v40), (0, .ref t), (1, .ref a), (2, .ref 44)] dX2_findTreeFlows_107 rfl rfl (by rw [e107]; rfl) (by decide) rfl ?_
        refine r_goto C 30 dX2_findTreeFlows_110 (by decide) ?_
        exact Ws_pick [3, 4, 5, 0] rfl h
theorem vc_X2_findTreeFlows {x : Ctx} {K : Mem → Prop} {X : String → Mem → Prop} (C : Cx x RX2 cX2_findTreeFlows 6) (r : RtV x 3 0 none K X) (t a : Nat) (σ : Mem) (h : sp_X2_findTreeFlows t a σ K X) : Ws x 0 0 [(0, .ref t), (1, .ref a), (2, .ref 44)] [] σ := by
  obtain ⟨ht, ha, g, c, dr, hg, hG, hS, hd, hK⟩ := h
  have hP := hg.1
  have hT := bfs_tre hg (by decide : 0 < 10)
  have hfar := netA_far ha
  have ht2 := staA_is ht
  have hL := hS.1.1
  generalize bfs g 0 = L at hT hS hK hL
  have hpos : 0 < L.length := (List.getElem?_eq_some_iff.mp hT.2.1.1).1
  have hlen := hT.1.len
  refine sg_X2_findTreeFlows_0 C r t a ht ha σ (fun σ12 e12 => ⟨by rcases ht2 with q | q <;> (rw [q]; decide +kernel), by decide, fun v29 e29 => ?_⟩)
  have hC0 : Ch (t + 2) (t + 4) σ (fi σ12 (t + 2) 10 0) := by
    rw [e12]
    exact ((Ch.rfl' σ).ci (by omega) (by omega)).fi (by omega) (by omega)
  have e44 : (fi σ12 (t + 2) 10 0).1 44 2 = nI L.length := by
    rw [(hC0.1 44 2 (by omega)).1]; exact hS.2.2.2.1
  have e29' : v29 = nI (L.length - 1) := by
    rw [e29, e44]
    obtain ⟨j, hj⟩ : ∃ j, L.length = j + 1 := ⟨L.length - 1, by omega⟩
    rw [hj, nI_pred]; rfl
  rw [e29']
  have main : ∀ (i : Nat) (τ : Mem) (F : Nat → Nat), i < L.length → TF g L c dr i F → Ch (t + 2) (t + 4) σ τ → (∀ n, n < 10 → τ.1 (t + 4) n = nI (F n)) → (∀ n, n ∈ nds L → i < ixr L n → ¬ inT c n → τ.1 (t + 2) (fp L n) = zI (sgn g (fp L n) (fe L n) (F n))) → (∀ p, p < 10 → (∀ n, n ∈ nds L → i < ixr L n → ¬ inT c n → fp L n ≠ p) → τ.1 (t + 2) p = 0) → Ws x 0 30 [(0, .ref t), (1, .ref a), (2, .ref 44), (3, .int (nI i))] [] τ := by
    intro i
    induction i with
    | zero =>
      intro τ F hi hF hC h4 h5 h6
      have fin : K τ := by
        obtain ⟨d1, d2⟩ := hF.done hg hT hL
        have ix0 : ∀ n, n ∈ nds L → n ≠ 0 → 0 < ixr L n := fun n hn h0 => by
          have := ixr_up hT hn h0
          omega
        refine hK τ F hC d1 (fun n hn => ⟨d2 n hn, h4 n (hT.lt hn)⟩) (fun n hn h0 hnt => h5 n hn (ix0 n hn h0) hnt) (fun p hp hno => h6 p hp (fun n hn hi hnt => hno n hn (fun q => by
          rw [q, ixr_src hT] at hi
          omega) hnt))
      have sh : ∀ b k, b < 53 → τ.1 b k = σ.1 b k := fun b k hb => (hC.1 b k (by omega)).1
      have e46 : τ.1 46 0 = nI 0 := by
        rw [sh _ _ (by decide), hS.2.2.2.2.2.1 0 _ hT.2.1.1]
      have e47 : τ.1 47 0 = -1 := by
        rw [sh _ _ (by decide)]; exact hS.2.2.2.2.2.2.2.2.2.2
      have e48 : τ.1 48 0 = -1 := by
        rw [sh _ _ (by decide)]; exact hS.2.2.2.2.2.2.2.2.1
      have e49 : τ.1 49 0 = -1 := by
        rw [sh _ _ (by decide)]; exact hS.2.2.2.2.2.2.2.2.2.1
      refine sg_X2_findTreeFlows_30 C r t a _ ht ha τ ⟨fun q => absurd q (nI_pos (by decide)), fun _ => ⟨n_inR (by decide) (by decide), fun v40 e40 => ?_⟩⟩
      rw [n_cl (n := 0) (by decide), e46] at e40
      subst e40
      refine ⟨n_inR (by decide) (by decide), fun v49 e49' => ?_⟩
      rw [n_cl (n := 0) (by decide), e47] at e49'
      subst e49'
      rw [n_cl (n := 0) (by decide)]
      refine isNode_br (by decide) ⟨fun _ => ?_, fun q => absurd (by decide) q⟩
      rw [e48, e49]
      refine ⟨n_inR (by decide) (by decide), fun q => absurd q (by decide), fun _ => ⟨n_inR (by decide) (by decide), n_inR (by decide) (by decide), i_carry_0 ht ha (fun v104 e104 => ?_)⟩⟩
      rw [e104]
      exact sg_X2_findTreeFlows_30 C r t a _ ht ha τ ⟨fun _ => fin, fun q => absurd (by decide) q⟩
    | succ i ih =>
      intro τ F hi hF hC h4 h5 h6
      have hm := ndAt_mem hi
      have him := ix_ndAt hT hi
      have hst := hF.step hg hT hL (by omega) hi
      have hgm : ∃ r0 : Rec, L[i + 1]? = some r0 ∧ r0.1 = ndAt L (i + 1) := ⟨_, List.getElem?_eq_getElem hi, (ndAt_some (List.getElem?_eq_getElem hi)).symm⟩
      obtain ⟨r0, hr0, er0⟩ := hgm
      have e46 : τ.1 46 (i + 1) = nI (ndAt L (i + 1)) := by
        rw [(hC.1 46 _ (by omega)).1, hS.2.2.2.2.2.1 (i + 1) r0 hr0, er0]
      generalize ndAt L (i + 1) = m at hm him hst e46
      have hm0 : m ≠ 0 := fun e => by rw [e, ixr_src hT] at him; omega
      have m10 := hT.lt hm
      obtain ⟨f1, f2⟩ := fd'_ix hT hL hg hm hm0
      have f10 := hT.lt f1
      have hfm : fd' L c m ≠ m := fun e => by rw [e] at f2; omega
      have sh : ∀ b k, b < 53 → τ.1 b k = σ.1 b k := fun b k hb => (hC.1 b k (by omega)).1
      have e47 : τ.1 47 m = nI (fd' L c m) := by
        rw [sh _ _ (by decide)]
        by_cases q : inT c m
        · rw [fd'_T q]
          obtain ⟨j, j0, j1, j2⟩ := q
          rw [← j2]; exact (hS.2.2.2.2.2.2.2.1 j j0 j1).1
        · rw [fd'_N q]; exact (hS.2.2.2.2.2.2.1 m hm hm0 q).1
      refine sg_X2_findTreeFlows_30 C r t a _ ht ha τ ⟨fun q => absurd q (nI_pos (by omega)), fun _ => ⟨n_inR (by omega) (by decide), fun v40 e40 => ?_⟩⟩
      rw [n_cl (by omega), e46] at e40
      subst e40
      rw [n_cl (n := m) (by omega), e47]
      refine ⟨n_inR m10 (by decide), fun v49 e49 => ?_⟩
      subst e49
      refine isNode_br (node_in f10).2 ⟨fun q => absurd q (nI_pos (by omega)), fun _ => ?_⟩
      rw [n_cl (n := fd' L c m) (by omega), h4 _ f10, h4 _ m10, nI_add]
      refine ⟨n_inR f10 (by decide), n_inR m10 (by decide), n_inR f10 (by decide), fun σ67 e67 => ⟨n_inR m10 (by decide), ?_⟩⟩
      have hC1 : Ch (t + 2) (t + 4) σ σ67 := by rw [e67]; exact hC.wi (by omega) (by omega)
      have sh1 : ∀ b k, b < 53 → σ67.1 b k = σ.1 b k := fun b k hb => (hC1.1 b k (by omega)).1
      have h4' : ∀ n, n < 10 → σ67.1 (t + 4) n = nI (if n = fd' L c m then F (fd' L c m) + F m else F n) := fun n hn => by
        rw [e67, wi_i]
        by_cases q : n = fd' L c m
        · rw [if_pos ⟨rfl, q⟩, if_pos q]
        · rw [if_neg (fun w => q w.2), if_neg q]; exact h4 n hn
      have e2 : ∀ p, σ67.1 (t + 2) p = τ.1 (t + 2) p := fun p => by rw [e67, wi_i, if_neg (fun w => by omega)]
      have em1 : nI (i + 1) + (-1) = nI i := pk_m1 i
      have Fm : (fun n => if n = fd' L c m then F (fd' L c m) + F m else F n) m = F m := by
        show (if m = fd' L c m then _ else F m) = F m
        rw [if_neg (fun e => hfm e.symm)]
      have F'e : ∀ n, n ∈ nds L → i < ixr L n → (if n = fd' L c m then F (fd' L c m) + F m else F n) = F n := fun n hn hx => by
        rw [if_neg]
        intro e
        rw [e] at hx
        omega
      have e49 : ¬ inT c m → σ67.1 49 m = -1 := fun q => by rw [sh1 _ _ (by decide)]; exact (hS.2.2.2.2.2.2.1 m hm hm0 q).2.2
      refine ⟨fun q v99 e99 => ?_, fun q => ?_⟩
      · rw [e99, em1]
        have hmT : inT c m := Classical.byContradiction fun w => by
          rw [e49 w] at q
          exact absurd q (by decide)
        refine ih σ67 _ (by omega) hst hC1 h4' (fun n hn hx hnt => ?_) (fun p hp hno => ?_)
        · have hne : n ≠ m := fun e => hnt (by rw [e]; exact hmT)
          have hix : ixr L n ≠ i + 1 := fun e => hne (ixr_inj hT hn hm (by rw [e, him]))
          rw [e2]
          show _ = zI (sgn g (fp L n) (fe L n) ((if n = fd' L c m then F (fd' L c m) + F m else F n : Nat) : Int))
          rw [F'e n hn hx]
          exact h5 n hn (by omega) hnt
        · rw [e2]
          exact h6 p hp (fun n hn hx hnt => hno n hn (by omega) hnt)
      · have hmT : ¬ inT c m := fun ⟨j, j0, j1, j2⟩ => by
          apply q
          rw [sh1 _ _ (by decide), ← j2, (hS.2.2.2.2.2.2.2.1 j j0 j1).2.2]
          have := (hL.2.1 j j1).1
          exact nI_pos' (by omega)
        obtain ⟨u1, u2, u3, u4⟩ := hT.up hm hm0
        have e48 : σ67.1 48 m = nI (fp L m) := by
          rw [sh1 _ _ (by decide)]; exact (hS.2.2.2.2.2.2.1 m hm hm0 hmT).2.1
        rw [e48, h4' m m10]
        rw [show (if m = fd' L c m then F (fd' L c m) + F m else F m) = F m from Fm, nI_z (F m)]
        refine ⟨n_inR m10 (by decide), n_inR m10 (by decide), i_X2_carry ht ha hg (hG.ch hC1 (by omega)) u3 f10 (fun v99 e99 => ?_)⟩
        rw [e99, em1]
        have efd : fd' L c m = fe L m := fd'_N hmT
        refine ih _ _ (by omega) hst (hC1.wi (by omega) (by omega)) (fun n hn => ?_) (fun n hn hx hnt => ?_) (fun p hp hno => ?_)
        · rw [wi_i, if_neg (fun w => by omega)]; exact h4' n hn
        · show _ = zI (sgn g (fp L n) (fe L n) ((if n = fd' L c m then F (fd' L c m) + F m else F n : Nat) : Int))
          rw [F'e n hn hx, wi_i]
          by_cases hne : n = m
          · subst hne
            rw [if_pos ⟨rfl, rfl⟩, efd]
          · have n0 : n ≠ 0 := fun e => by rw [e, ixr_src hT] at hx; omega
            rw [if_neg (fun w => hne (hT.inj hn hm n0 hm0 w.2)), e2]
            have hix : ixr L n ≠ i + 1 := fun e => hne (ixr_inj hT hn hm (by rw [e, him]))
            exact h5 n hn (by omega) hnt
        · rw [wi_i, if_neg (fun w => hno m hm (by omega) hmT w.2.symm), e2]
          exact h6 p hp (fun n hn hx hnt => hno n hn (by omega) hnt)
  refine main (L.length - 1) _ dr (by omega) (TF.start hT hL (fun n hn => (hd n hn).2)) hC0 (fun n hn => ?_) (fun n hn hx _ => ?_) (fun p hp _ => ?_)
  · rw [fi_i, if_neg (fun w => by omega), e12, ci_i, if_pos ⟨rfl, Nat.zero_le _, by omega⟩]
    rw [show 0 + (n - 0) = n by omega]
    exact (hd n hn).1
  · have := ixr_lt hT hn
    omega
  · rw [fi_i, if_pos ⟨rfl, hp⟩]
theorem ct_X2_findTreeFlows (t : Nat) (a : Nat) (σ : Mem) (K : Mem → Prop) (X : String → Mem → Prop) (h : sp_X2_findTreeFlows t a σ K X) : CtV yX2_findTreeFlows cX2_findTreeFlows 6 none 3 0 [.ref t, .ref a, .ref 44] σ K X :=
  ctV_of (by decide +kernel) (Nat.le_of_ble_eq_true rfl) (fun x C r => vc_X2_findTreeFlows C r t a σ h)
/-! HeatNetwork$State.sendRound(LHeatNetwork$Network;LHeatNetwork$Shape;I)J: level 3, exceptions 0 -/
def sp_X2_sendRound (t a : Nat) (p2 : Int32) (σ : Mem) (K : Int64 → Mem → Prop) (X : String → Mem → Prop) : Prop := StaA t ∧ NetA a ∧ ∃ (w : Nat → Int32) (g : Gr) (c : Lp) (dr B : Nat → Nat) (z : Int), WFw w g ∧ NR σ a w g ∧ Shp g (bfs g 0) c σ ∧ p2 = zI z ∧ 0 ≤ z ∧ z ≤ 10000 ∧ EqB g (bfs g 0) c dr B ∧ (∀ n, n ∈ nds (bfs g 0) → B n ≤ 9990 ∧ σ.1 (t + 4) n = nI (B n)) ∧ ∀ τ : Mem, Ch (t + 3) (t + 3) σ τ → (∀ k, k < c.1 → τ.1 (t + 3) k = zI (z - skF g (bfs g 0) c dr B k)) → K (zL (sumD g (bfs g 0) c dr B (rsW w) z)) τ
set_option maxRecDepth 4000 in
theorem sg_X2_sendRound_0 {x : Ctx} {K : Int64 → Mem → Prop} {X : String → Mem → Prop} (C : Cx x RX2 cX2_sendRound 8) (r : RtL x 3 0 (some .long) K X) (t : Nat) (a : Nat) (p2 : Int32) (ht : StaA t) (ha : NetA a) (σ : Mem) (h : Ws x 0 9 [(0, .ref t), (1, .ref a), (2, .ref 44), (4, .int p2), (5, .long 0), (7, .int 0)] [] σ) : Ws x 0 0 [(0, .ref t), (1, .ref a), (2, .ref 44), (3, .int p2)] [] σ := by
  refine r_iload_n (j := 3) C 1 dX2_sendRound_0 rfl rfl ?_
  refine r_istore C 3 [(4, .int p2), (0, .ref t), (1, .ref a), (2, .ref 44), (3, .int p2)] dX2_sendRound_1 rfl (by decide) rfl ?_
  refine r_lconst C 4 (v := 0) dX2_sendRound_3 rfl rfl ?_
  refine r_lstore C 6 [(5, .long 0), (4, .int p2), (0, .ref t), (1, .ref a), (2, .ref 44), (3, .int p2)] dX2_sendRound_4 rfl (by decide) rfl ?_
  refine r_iconst C 7 (v := 0) dX2_sendRound_6 rfl (by decide) ?_
  refine r_istore C 9 [(7, .int 0), (5, .long 0), (4, .int p2), (0, .ref t), (1, .ref a), (2, .ref 44), (3, .int p2)] dX2_sendRound_7 rfl (by decide) rfl ?_
  exact Ws_pick [3, 4, 5, 2, 1, 0] rfl h
set_option maxRecDepth 4000 in
theorem sg_X2_sendRound_9 {x : Ctx} {K : Int64 → Mem → Prop} {X : String → Mem → Prop} (C : Cx x RX2 cX2_sendRound 8) (r : RtL x 3 0 (some .long) K X) (t : Nat) (a : Nat) (i4 : Int32) (l5 : Int64) (i7 : Int32) (ht : StaA t) (ha : NetA a) (σ : Mem) (h : ((σ.1 44 8) ≤ i7 → K l5 σ) ∧ (¬ (σ.1 44 8) ≤ i7 → (i7 ≤ 0 → (vp_in i7 10) ∧ (∀ σ48 : Mem, σ48 = wi σ (t + 3) i7.toNatClampNeg i4 → (vp_in i7 10) ∧ (sp_X0_dropOf a (σ48.1 51 i7.toNatClampNeg) i4 σ48 (fun r61 σ61 => ∀ v65 : Int64, v65 = (l5 + r61) → ∀ v67 : Int32, v67 = i7 + 1 → Ws x 0 9 [(0, .ref t), (1, .ref a), (2, .ref 44), (4, .int i4), (5, .long v65), (7, .int v67)] [] σ61) X))) ∧ (¬ i7 ≤ 0 → (vp_in i7 10) ∧ ((vp_in (σ.1 50 i7.toNatClampNeg) 10) ∧ (∀ v38 : Int32, v38 = (i4 - (σ.1 (t + 4) ((σ.1 50 i7.toNatClampNeg)).toNatClampNeg)) → (vp_in i7 10) ∧ (∀ σ48 : Mem, σ48 = wi σ (t + 3) i7.toNatClampNeg v38 → (vp_in i7 10) ∧ (sp_X0_dropOf a (σ48.1 51 i7.toNatClampNeg) v38 σ48 (fun r61 σ61 => ∀ v65 : Int64, v65 = (l5 + r61) → ∀ v67 : Int32, v67 = i7 + 1 → Ws x 0 9 [(0, .ref t), (1, .ref a), (2, .ref 44), (4, .int v38), (5, .long v65), (7, .int v67)] [] σ61) X))))))) : Ws x 0 9 [(0, .ref t), (1, .ref a), (2, .ref 44), (4, .int i4), (5, .long l5), (7, .int i7)] [] σ := by
  refine r_iload (j := 5) C 11 dX2_sendRound_9 rfl rfl ?_
  refine r_aload_n (j := 2) C 12 dX2_sendRound_11 rfl rfl ?_
  refine r_get (k := 8) C cl3 15 dX2_sendRound_12 rfl kd_44 (by decide) wd_244 (.int (σ.1 44 8)) (fun _ => rfl) ?_
  refine r_icmp_ge C 73 18 dX2_sendRound_15 (by decide) rfl (fun c15 => ?_) (fun c15 => ?_)
  · have h := h.1 c15
    refine r_lload (j := 4) C 75 dX2_sendRound_73 rfl rfl ?_
    exact r_lret (S := []) C r dX2_sendRound_75 (by decide) h
  · have h := h.2 c15
    refine r_iload (j := 5) C 20 dX2_sendRound_18 rfl rfl ?_
    refine r_if_le C 40 23 dX2_sendRound_20 (by decide) rfl (fun c20 => ?_) (fun c20 => ?_)
    · have h := h.1 c20
      refine r_aload_n (j := 0) C 41 dX2_sendRound_40 rfl rfl ?_
      refine r_get (k := 2) C cl4 44 dX2_sendRound_41 rfl (sta0 ht) (by decide) wd_280 (.ref (t + 3)) (fun _ => rfl) ?_
      refine r_iload (j := 5) C 46 dX2_sendRound_44 rfl rfl ?_
      refine r_iload (j := 3) C 48 dX2_sendRound_46 rfl rfl ?_
      obtain ⟨o48, h⟩ := h
      refine r_iast C 49 dX2_sendRound_48 rfl (sta3 ht) o48 ?_
      refine r_nmS (fun σ48 e48 => ?_)
      have h := h σ48 e48
      refine r_lload (j := 4) C 51 dX2_sendRound_49 rfl rfl ?_
      refine r_aload_n (j := 1) C 52 dX2_sendRound_51 rfl rfl ?_
      refine r_aload_n (j := 2) C 53 dX2_sendRound_52 rfl rfl ?_
      refine r_get (k := 7) C cl3 56 dX2_sendRound_53 rfl kd_44 (by decide) wd_242 (.ref 51) (fun _ => rfl) ?_
      refine r_iload (j := 5) C 58 dX2_sendRound_56 rfl rfl ?_
      obtain ⟨o58, h⟩ := h
      refine r_iald C 59 dX2_sendRound_58 rfl kd_51 o58 ?_
      refine r_iload (j := 3) C 61 dX2_sendRound_59 rfl rfl ?_
      refine r_cVL (as := [.int (σ48.1 51 i7.toNatClampNeg), .int i4]) (S := [.long l5]) C r.px 64 (ct_X0_dropOf _ _ _ _ _ _ h) dX2_sendRound_61 rfl cl2 (net0 ha) wd_508 wd_507 rfl wd_506 wd_509 wd_91 yd_X0_dropOf ⟨Nat.le_of_ble_eq_true rfl, Nat.le_of_ble_eq_true rfl⟩ (Nat.le_of_ble_eq_true rfl) (by decide) (fun r61 σ61 h => ?_)
      refine r_ladd C 65 dX2_sendRound_64 rfl ?_
      refine r_nmL (fun v65 e65 => ?_)
      have h := h v65 e65
      refine r_lstore C 67 [(5, .long v65), (0, .ref t), (1, .ref a), (2, .ref 44), (4, .int i4), (7, .int i7)] dX2_sendRound_65 rfl (by decide) rfl ?_
      obtain ⟨v67, e67⟩ : ∃ y : Int32, y = i7 + 1 := ⟨_, rfl⟩
      have h := h v67 e67
      refine r_iinc (j := 5) C 70 [(7, .int v67), (5, .long v65), (0, .ref t), (1, .ref a), (2, .ref 44), (4, .int i4)] dX2_sendRound_67 rfl rfl (by rw [e67]; rfl) (by decide) rfl ?_
      refine r_goto C 9 dX2_sendRound_70 (by decide) ?_
      exact Ws_pick [2, 3, 4, 5, 1, 0] rfl h
    · have h := h.2 c20
      refine r_iload (j := 3) C 25 dX2_sendRound_23 rfl rfl ?_
      refine r_aload_n (j := 0) C 26 dX2_sendRound_25 rfl rfl ?_
      refine r_get (k := 3) C cl4 29 dX2_sendRound_26 rfl (sta0 ht) (by decide) wd_281 (.ref (t + 4)) (fun _ => rfl) ?_
      refine r_aload_n (j := 2) C 30 dX2_sendRound_29 rfl rfl ?_
      refine r_get (k := 6) C cl3 33 dX2_sendRound_30 rfl kd_44 (by decide) wd_239 (.ref 50) (fun _ => rfl) ?_
      refine r_iload (j := 5) C 35 dX2_sendRound_33 rfl rfl ?_
      obtain ⟨o35, h⟩ := h
      refine r_iald C 36 dX2_sendRound_35 rfl kd_50 o35 ?_
      obtain ⟨o36, h⟩ := h
      refine r_iald C 37 dX2_sendRound_36 rfl (sta4 ht) o36 ?_
      refine r_isub C 38 dX2_sendRound_37 rfl ?_
      refine r_nmI (fun v38 e38 => ?_)
      have h := h v38 e38
      refine r_istore C 40 [(4, .int v38), (0, .ref t), (1, .ref a), (2, .ref 44), (5, .long l5), (7, .int i7)] dX2_sendRound_38 rfl (by decide) rfl ?_
      refine r_aload_n (j := 1) C 41 dX2_sendRound_40 rfl rfl ?_
      refine r_get (k := 2) C cl4 44 dX2_sendRound_41 rfl (sta0 ht) (by decide) wd_280 (.ref (t + 3)) (fun _ => rfl) ?_
      refine r_iload (j := 5) C 46 dX2_sendRound_44 rfl rfl ?_
      refine r_iload (j := 0) C 48 dX2_sendRound_46 rfl rfl ?_
      obtain ⟨o48, h⟩ := h
      refine r_iast C 49 dX2_sendRound_48 rfl (sta3 ht) o48 ?_
      refine r_nmS (fun σ48 e48 => ?_)
      have h := h σ48 e48
      refine r_lload (j := 4) C 51 dX2_sendRound_49 rfl rfl ?_
      refine r_aload_n (j := 2) C 52 dX2_sendRound_51 rfl rfl ?_
      refine r_aload_n (j := 3) C 53 dX2_sendRound_52 rfl rfl ?_
      refine r_get (k := 7) C cl3 56 dX2_sendRound_53 rfl kd_44 (by decide) wd_242 (.ref 51) (fun _ => rfl) ?_
      refine r_iload (j := 5) C 58 dX2_sendRound_56 rfl rfl ?_
      obtain ⟨o58, h⟩ := h
      refine r_iald C 59 dX2_sendRound_58 rfl kd_51 o58 ?_
      refine r_iload (j := 0) C 61 dX2_sendRound_59 rfl rfl ?_
      refine r_cVL (as := [.int (σ48.1 51 i7.toNatClampNeg), .int v38]) (S := [.long l5]) C r.px 64 (ct_X0_dropOf _ _ _ _ _ _ h) dX2_sendRound_61 rfl cl2 (net0 ha) wd_508 wd_507 rfl wd_506 wd_509 wd_91 yd_X0_dropOf ⟨Nat.le_of_ble_eq_true rfl, Nat.le_of_ble_eq_true rfl⟩ (Nat.le_of_ble_eq_true rfl) (by decide) (fun r61 σ61 h => ?_)
      refine r_ladd C 65 dX2_sendRound_64 rfl ?_
      refine r_nmL (fun v65 e65 => ?_)
      have h := h v65 e65
      refine r_lstore C 67 [(5, .long v65), (4, .int v38), (0, .ref t), (1, .ref a), (2, .ref 44), (7, .int i7)] dX2_sendRound_65 rfl (by decide) rfl ?_
      obtain ⟨v67, e67⟩ : ∃ y : Int32, y = i7 + 1 := ⟨_, rfl⟩
      have h := h v67 e67
      refine r_iinc (j := 5) C 70 [(7, .int v67), (5, .long v65), (4, .int v38), (0, .ref t), (1, .ref a), (2, .ref 44)] dX2_sendRound_67 rfl rfl (by rw [e67]; rfl) (by decide) rfl ?_
      refine r_goto C 9 dX2_sendRound_70 (by decide) ?_
      exact Ws_pick [3, 4, 5, 2, 1, 0] rfl h
theorem vc_X2_sendRound {x : Ctx} {K : Int64 → Mem → Prop} {X : String → Mem → Prop} (C : Cx x RX2 cX2_sendRound 8) (r : RtL x 3 0 (some .long) K X) (t a : Nat) (p2 : Int32) (σ : Mem) (h : sp_X2_sendRound t a p2 σ K X) : Ws x 0 0 [(0, .ref t), (1, .ref a), (2, .ref 44), (3, .int p2)] [] σ := by
  obtain ⟨ht, ha, w, g, c, dr, B, z, hw, hN, hS, e1, z0, z1, hE, hB, hK⟩ := h
  have hg := hw.2.1
  have hP := hg.1
  have hT := bfs_tre hg (by decide : 0 < 10)
  have hfar := netA_far ha
  have ht2 := staA_is ht
  have hL := hS.1.1
  generalize bfs g 0 = L at hT hS hK hL hE hB
  have hle := hL.le hT
  have hsk : ∀ k, k < c.1 → skF g L c dr B k ≤ 9990 := fun k hk => skF_le hE (fun n hn => (hB n hn).1) hL hk
  have n10 : ∀ i, i < c.1 → c.2.1 i < 10 := fun i hi => hT.lt (hL.2.2.2.1 i hi)
  rw [e1]
  refine sg_X2_sendRound_0 C r t a _ ht ha σ ?_
  have key := cnt c.1 (fun k τ => Ch (t + 3) (t + 3) σ τ ∧ ∀ j, j < k → τ.1 (t + 3) j = zI (z - skF g L c dr B j)) (fun k τ => Ws x 0 9 [(0, .ref t), (1, .ref a), (2, .ref 44), (4, .int (zI (z - if k = 0 then 0 else skF g L c dr B (k - 1)))), (5, .long (zL (smZ (fun k => drop (rsW w (c.2.2 k)) (z - skF g L c dr B k)) k))), (7, .int (nI k))] [] τ)
    (fun τ hI => by
      refine sg_X2_sendRound_9 C r t a _ _ _ ht ha τ ?_
      rw [(hI.1.1 44 8 (by omega)).1, hS.2.1.1]
      exact ⟨fun _ => hK τ hI.1 hI.2, fun q => absurd (nI_le (Nat.le_refl c.1) (by omega)) q⟩)
    (fun k τ hk hI ih => by
      refine sg_X2_sendRound_9 C r t a _ _ _ ht ha τ ?_
      rw [(hI.1.1 44 8 (by omega)).1, hS.2.1.1, n_cl (n := k) (by omega), (hI.1.1 50 k (by omega)).1, (hS.2.1.2 k hk).1, n_cl (n := c.2.1 k) (by have := n10 k hk; omega)]
      refine ⟨fun q => absurd (n_le (by omega) (by omega) q) (by omega), fun _ => ?_⟩
      have goOn : ∀ v : Int32, v = zI (z - skF g L c dr B k) → ∀ σ48 : Mem, σ48 = wi τ (t + 3) k v → sp_X0_dropOf a (σ48.1 51 k) v σ48 (fun r61 σ61 => ∀ v65 : Int64, v65 = (zL (smZ (fun k => drop (rsW w (c.2.2 k)) (z - skF g L c dr B k)) k) + r61) → ∀ v67 : Int32, v67 = nI k + 1 → Ws x 0 9 [(0, .ref t), (1, .ref a), (2, .ref 44), (4, .int v), (5, .long v65), (7, .int v67)] [] σ61) X := fun v ev σ48 e48 => by
        have hC1 : Ch (t + 3) (t + 3) σ σ48 := by rw [e48]; exact hI.1.wi (Nat.le_refl _) (Nat.le_refl _)
        rw [(hC1.1 51 k (by omega)).1, (hS.2.1.2 k hk).2, ev]
        have := hsk k hk
        refine i_X0_dropOf ha hw (hN.ch hC1 (by omega)) (hL.2.1 k hk).1 (by omega) (by omega) (fun v65 e65 v67 e67 => ?_)
        rw [e67, nI_1, e65, zL_add]
        have ih := ih σ48 ⟨hC1, fun j hj => ?_⟩
        · rw [if_neg (by omega), Nat.add_sub_cancel] at ih
          exact ih
        · rw [e48, wi_i]
          by_cases d : j = k
          · rw [if_pos ⟨rfl, d⟩, ev, d]
          · rw [if_neg (fun q => d q.2)]; exact hI.2 j (by omega)
      refine ⟨fun q => ?_, fun q => ?_⟩
      · have k0 : k = 0 := by have := n_le (b := 0) (by omega) (by decide) q; omega
        refine ⟨n_inR (by omega) (by decide), fun σ48 e48 => ⟨n_inR (by omega) (by decide), ?_⟩⟩
        refine goOn _ ?_ σ48 e48
        rw [if_pos k0, k0, skF_0]
      · have k0 : k ≠ 0 := fun e => by rw [e] at q; exact q (by decide)
        refine ⟨n_inR (by omega) (by decide), n_inR (n10 k hk) (by decide), fun v38 e38 => ⟨n_inR (by omega) (by decide), fun σ48 e48 => ⟨n_inR (by omega) (by decide), ?_⟩⟩⟩
        refine goOn v38 ?_ σ48 e48
        rw [if_neg k0, (hI.1.1 (t + 4) _ (by omega)).1, (hB _ (hL.2.2.2.1 k hk)).2, nI_z, zI_sub] at e38
        rw [e38]
        obtain ⟨j, rfl⟩ : ∃ j, k = j + 1 := ⟨k - 1, by omega⟩
        rw [skF_s, Nat.add_sub_cancel, hE.lp hL hk k0]
        congr 1
        omega) 0 σ (Nat.zero_le _) ⟨Ch.rfl' σ, fun j hj => absurd hj (Nat.not_lt_zero j)⟩
  rw [if_pos rfl] at key
  have e0 : z - ((0 : Nat) : Int) = z := by omega
  rw [e0] at key
  exact key
theorem ct_X2_sendRound (t : Nat) (a : Nat) (p2 : Int32) (σ : Mem) (K : Int64 → Mem → Prop) (X : String → Mem → Prop) (h : sp_X2_sendRound t a p2 σ K X) : CtL yX2_sendRound cX2_sendRound 8 (some .long) 3 0 [.ref t, .ref a, .ref 44, .int p2] σ K X :=
  ctL_of (by decide +kernel) (Nat.le_of_ble_eq_true rfl) (fun x C r => vc_X2_sendRound C r t a p2 σ h)
