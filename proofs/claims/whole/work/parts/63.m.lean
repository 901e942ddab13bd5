/-! HeatNetworkModel.needed()J: level 4, exceptions 0 -/
def sp_X5_needed (σ : Mem) (K : Int64 → Mem → Prop) (X : String → Mem → Prop) : Prop := ∃ (w : Nat → Int32) (g : Gr) (c : Lp) (R : Nat) (dr B T S : Nat → Nat) (z : Int) (f : Nat → Int32), WFw w g ∧ (∀ k, k < 108 → σ.1 210 k = w k) ∧ LPo g (bfs g 0) c ∧ LkB w g c dr B T S z f ∧ ReF w g c R dr B T S z f σ ∧ (∀ n, n < 10 → dr n ≤ 999 ∧ (dr n ≠ 0 → n ∈ nds (bfs g 0))) ∧ ∀ v, GMx (fun n => n < 10 ∧ hasW w n ∧ dr n ≠ 0) (fun n => zL (hdN w (bfs g 0) c B (lf g (bfs g 0) c dr B z) n)) v → K v σ
set_option maxRecDepth 4000 in
theorem sg_X5_needed_0 {x : Ctx} {K : Int64 → Mem → Prop} {X : String → Mem → Prop} (C : Cx x RX5 cX5_needed 7) (r : RtL x 4 0 (some .long) K X)   (σ : Mem) (h : Ws x 0 7 [(0, .ref 209), (1, .long 0), (3, .int 0), (4, .int 1)] [] σ) : Ws x 0 0 [(0, .ref 209)] [] σ := by
  refine r_lconst C 1 (v := 0) dX5_needed_0 rfl rfl ?_
  refine r_lstore_n C 2 [(1, .long 0), (0, .ref 209)] dX5_needed_1 rfl (by decide) rfl ?_
  refine r_iconst C 3 (v := 0) dX5_needed_2 rfl (by decide) ?_
  refine r_istore_n C 4 [(3, .int 0), (1, .long 0), (0, .ref 209)] dX5_needed_3 rfl (by decide) rfl ?_
  refine r_iconst C 5 (v := 1) dX5_needed_4 rfl (by decide) ?_
  refine r_istore C 7 [(4, .int 1), (3, .int 0), (1, .long 0), (0, .ref 209)] dX5_needed_5 rfl (by decide) rfl ?_
  exact Ws_pick [3, 2, 1, 0] rfl h
set_option maxRecDepth 4000 in
theorem sg_X5_needed_7 {x : Ctx} {K : Int64 → Mem → Prop} {X : String → Mem → Prop} (C : Cx x RX5 cX5_needed 7) (r : RtL x 4 0 (some .long) K X) (l1 : Int64) (i3 : Int32) (i4 : Int32)  (σ : Mem) (h : (10 ≤ i4 → K l1 σ) ∧ (¬ 10 ≤ i4 → sp_X5_hasStation i4 σ (fun r17 σ17 => (r17 = 0 → ∀ v60 : Int32, v60 = i4 + 1 → Ws x 0 7 [(0, .ref 209), (1, .long l1), (3, .int i3), (4, .int v60)] [] σ17) ∧ (¬ r17 = 0 → (vp_in i4 10) ∧ ((¬ (σ17.1 225 i4.toNatClampNeg) = 0 → sp_X5_headOf i4 σ17 (fun r39 σ39 => (i3 = 0 → ∀ v60 : Int32, v60 = i4 + 1 → Ws x 0 7 [(0, .ref 209), (1, .long r39), (3, .int 1), (4, .int v60)] [] σ39) ∧ (¬ i3 = 0 → (r39 ≤ l1 → ∀ v60 : Int32, v60 = i4 + 1 → Ws x 0 7 [(0, .ref 209), (1, .long l1), (3, .int 1), (4, .int v60)] [] σ39) ∧ (¬ r39 ≤ l1 → ∀ v60 : Int32, v60 = i4 + 1 → Ws x 0 7 [(0, .ref 209), (1, .long r39), (3, .int 1), (4, .int v60)] [] σ39))) X) ∧ ((σ17.1 225 i4.toNatClampNeg) = 0 → ∀ v60 : Int32, v60 = i4 + 1 → Ws x 0 7 [(0, .ref 209), (1, .long l1), (3, .int i3), (4, .int v60)] [] σ17)))) X)) : Ws x 0 7 [(0, .ref 209), (1, .long l1), (3, .int i3), (4, .int i4)] [] σ := by
  refine r_iload (j := 3) C 9 dX5_needed_7 rfl rfl ?_
  refine r_bipush C 11 (v := 10) dX5_needed_9 rfl (by decide) ?_
  refine r_icmp_ge C 66 14 dX5_needed_11 (by decide) rfl (fun c11 => ?_) (fun c11 => ?_)
  · have h := h.1 c11
    refine r_lload_n (j := 1) C 67 dX5_needed_66 rfl rfl ?_
    exact r_lret (S := []) C r dX5_needed_67 (by decide) h
  · have h := h.2 c11
    refine r_aload_n (j := 0) C 15 dX5_needed_14 rfl rfl ?_
    refine r_iload (j := 3) C 17 dX5_needed_15 rfl rfl ?_
    refine r_cVI (as := [.int i4]) (S := []) C r.px 20 (ct_X5_hasStation _ _ _ _ h) dX5_needed_17 rfl cl7 kd_209 wd_52 wd_1396 rfl wd_1394 wd_1397 wd_95 yd_X5_hasStation ⟨Nat.le_of_ble_eq_true rfl, Nat.le_of_ble_eq_true rfl⟩ (Nat.le_of_ble_eq_true rfl) (by decide) (fun r17 σ17 h => ?_)
    refine r_if_eq C 60 23 dX5_needed_20 (by decide) rfl (fun c20 => ?_) (fun c20 => ?_)
    · have h := h.1 c20
      obtain ⟨v60, e60⟩ : ∃ y : Int32, y = i4 + 1 := ⟨_, rfl⟩
      have h := h v60 e60
      refine r_iinc (j := 3) C 63 [(4, .int v60), (0, .ref 209), (1, .long l1), (3, .int i3)] dX5_needed_60 rfl rfl (by rw [e60]; rfl) (by decide) rfl ?_
      refine r_goto C 7 dX5_needed_63 (by decide) ?_
      exact Ws_pick [1, 2, 3, 0] rfl h
    · have h := h.2 c20
      refine r_aload_n (j := 0) C 24 dX5_needed_23 rfl rfl ?_
      refine r_get (k := 23) C cl7 27 dX5_needed_24 rfl kd_209 (by decide) wd_1235 (.ref 225) (fun _ => rfl) ?_
      refine r_iload (j := 3) C 29 dX5_needed_27 rfl rfl ?_
      obtain ⟨o29, h⟩ := h
      refine r_iald C 30 dX5_needed_29 rfl kd_225 o29 ?_
      refine r_if_ne C 36 33 dX5_needed_30 (by decide) rfl (fun c30 => ?_) (fun c30 => ?_)
      · have h := h.1 c30
        refine r_aload_n (j := 0) C 37 dX5_needed_36 rfl rfl ?_
        refine r_iload (j := 3) C 39 dX5_needed_37 rfl rfl ?_
        refine r_cVL (as := [.int i4]) (S := []) C r.px 42 (ct_X5_headOf _ _ _ _ h) dX5_needed_39 rfl cl7 kd_209 wd_73 wd_1507 rfl wd_1505 wd_1508 wd_95 yd_X5_headOf ⟨Nat.le_of_ble_eq_true rfl, Nat.le_of_ble_eq_true rfl⟩ (Nat.le_of_ble_eq_true rfl) (by decide) (fun r39 σ39 h => ?_)
        refine r_lstore C 44 [(5, .long r39), (0, .ref 209), (1, .long l1), (3, .int i3), (4, .int i4)] dX5_needed_42 rfl (by decide) rfl ?_
        refine r_iload_n (j := 3) C 45 dX5_needed_44 rfl rfl ?_
        refine r_if_eq C 55 48 dX5_needed_45 (by decide) rfl (fun c45 => ?_) (fun c45 => ?_)
        · have h := h.1 c45
          refine r_lload (j := 0) C 57 dX5_needed_55 rfl rfl ?_
          refine r_lstore_n C 58 [(1, .long r39), (5, .long r39), (0, .ref 209), (3, .int i3), (4, .int i4)] dX5_needed_57 rfl (by decide) rfl ?_
          refine r_iconst C 59 (v := 1) dX5_needed_58 rfl (by decide) ?_
          refine r_istore_n C 60 [(3, .int 1), (1, .long r39), (5, .long r39), (0, .ref 209), (4, .int i4)] dX5_needed_59 rfl (by decide) rfl ?_
          obtain ⟨v60, e60⟩ : ∃ y : Int32, y = i4 + 1 := ⟨_, rfl⟩
          have h := h v60 e60
          refine r_iinc (j := 4) C 63 [(4, .int v60), (3, .int 1), (1, .long r39), (5, .long r39), (0, .ref 209)] dX5_needed_60 rfl rfl (by rw [e60]; rfl) (by decide) rfl ?_
          refine r_goto C 7 dX5_needed_63 (by decide) ?_
          exact Ws_pick [4, 2, 1, 0] rfl h
        · have h := h.2 c45
          refine r_lload (j := 0) C 50 dX5_needed_48 rfl rfl ?_
          refine r_lload_n (j := 2) C 51 dX5_needed_50 rfl rfl ?_
          refine r_lcmp_le C 52 58 55 dX5_needed_51 rfl dX5_needed_52 (by decide) rfl (fun c51 => ?_) (fun c51 => ?_)
          · have h := h.1 c51
            refine r_iconst C 59 (v := 1) dX5_needed_58 rfl (by decide) ?_
            refine r_istore_n C 60 [(3, .int 1), (5, .long r39), (0, .ref 209), (1, .long l1), (4, .int i4)] dX5_needed_59 rfl (by decide) rfl ?_
            obtain ⟨v60, e60⟩ : ∃ y : Int32, y = i4 + 1 := ⟨_, rfl⟩
            have h := h v60 e60
            refine r_iinc (j := 4) C 63 [(4, .int v60), (3, .int 1), (5, .long r39), (0, .ref 209), (1, .long l1)] dX5_needed_60 rfl rfl (by rw [e60]; rfl) (by decide) rfl ?_
            refine r_goto C 7 dX5_needed_63 (by decide) ?_
            exact Ws_pick [3, 4, 1, 0] rfl h
          · have h := h.2 c51
            refine r_lload (j := 0) C 57 dX5_needed_55 rfl rfl ?_
            refine r_lstore_n C 58 [(1, .long r39), (5, .long r39), (0, .ref 209), (3, .int i3), (4, .int i4)] dX5_needed_57 rfl (by decide) rfl ?_
            refine r_iconst C 59 (v := 1) dX5_needed_58 rfl (by decide) ?_
            refine r_istore_n C 60 [(3, .int 1), (1, .long r39), (5, .long r39), (0, .ref 209), (4, .int i4)] dX5_needed_59 rfl (by decide) rfl ?_
            obtain ⟨v60, e60⟩ : ∃ y : Int32, y = i4 + 1 := ⟨_, rfl⟩
            have h := h v60 e60
            refine r_iinc (j := 4) C 63 [(4, .int v60), (3, .int 1), (1, .long r39), (5, .long r39), (0, .ref 209)] dX5_needed_60 rfl rfl (by rw [e60]; rfl) (by decide) rfl ?_
            refine r_goto C 7 dX5_needed_63 (by decide) ?_
            exact Ws_pick [4, 2, 1, 0] rfl h
      · have h := h.2 c30
        refine r_goto C 60 dX5_needed_33 (by decide) ?_
        obtain ⟨v60, e60⟩ : ∃ y : Int32, y = i4 + 1 := ⟨_, rfl⟩
        have h := h v60 e60
        refine r_iinc (j := 3) C 63 [(4, .int v60), (0, .ref 209), (1, .long l1), (3, .int i3)] dX5_needed_60 rfl rfl (by rw [e60]; rfl) (by decide) rfl ?_
        refine r_goto C 7 dX5_needed_63 (by decide) ?_
        exact Ws_pick [1, 2, 3, 0] rfl h
theorem vc_X5_needed {x : Ctx} {K : Int64 → Mem → Prop} {X : String → Mem → Prop} (C : Cx x RX5 cX5_needed 7) (r : RtL x 4 0 (some .long) K X) (σ : Mem) (h : sp_X5_needed σ K X) : Ws x 0 0 [(0, .ref 209)] [] σ := by
  obtain ⟨w, g, c, R, dr, B, T, S, z, f, hw, hr, hLo, hB, hF, hdr, hK⟩ := h
  have hd := hF.2.2.1
  refine sg_X5_needed_0 C r σ ?_
  generalize hh : (fun n => zL (hdN w (bfs g 0) c B (lf g (bfs g 0) c dr B z) n)) = hf at hK
  have H := cnt 10 (fun k (s : Int64 × Int32) => GMx (fun n => n < k ∧ hasW w n ∧ dr n ≠ 0) hf s.1 ∧ ((s.2 = 0 ∧ ∀ n, ¬ (n < k ∧ hasW w n ∧ dr n ≠ 0)) ∨ (¬ s.2 = 0 ∧ ∃ n, n < k ∧ hasW w n ∧ dr n ≠ 0))) (fun k s => Ws x 0 7 [(0, .ref 209), (1, .long s.1), (3, .int s.2), (4, .int (nI k))] [] σ)
    (fun s ⟨j1, _⟩ => sg_X5_needed_7 C r _ _ (nI 10) σ ⟨fun _ => hK _ j1, fun q => (lit_lt (by decide) (Nat.le_refl 10) (by decide) q).elim⟩)
    (fun k s hk ⟨j1, j2⟩ ih => by
      have skip : ¬ (hasW w k ∧ dr k ≠ 0) → ∀ v60 : Int32, v60 = nI k + 1 → Ws x 0 7 [(0, .ref 209), (1, .long s.1), (3, .int s.2), (4, .int v60)] [] σ := fun hn v e => by
        rw [e, nI_1]
        have eS : ∀ n, (n < k ∧ hasW w n ∧ dr n ≠ 0) ↔ (n < k + 1 ∧ hasW w n ∧ dr n ≠ 0) := fun n => by
          refine ⟨fun y => ⟨by omega, y.2⟩, fun y => ⟨?_, y.2⟩⟩
          have : n ≠ k := fun q => hn (by rw [← q]; exact y.2)
          omega
        refine ih s ⟨j1.cg eS, ?_⟩
        rcases j2 with ⟨y1, y2⟩ | ⟨y1, n, y2⟩
        · exact .inl ⟨y1, fun n y => y2 n ((eS n).mpr y)⟩
        · exact .inr ⟨y1, n, (eS n).mp y2⟩
      refine sg_X5_needed_7 C r _ _ (nI k) σ ⟨fun q => (lit_ge (by decide) hk q).elim, fun _ => i_X5_hasStation hk ?_⟩
      rw [hr _ (by omega)]
      by_cases hs : hasW w k
      · have hs' : 1 ≤ k ∧ w (48 + 6 * k) = 1 := hs
        rw [if_pos hs']
        refine ⟨fun q => absurd q (by decide), fun _ => ⟨n_inR hk (by decide), ?_⟩⟩
        rw [n_cl (show k < 2147483648 by omega), hd k hk]
        obtain ⟨d1, d2⟩ := hdr k hk
        by_cases d0 : dr k = 0
        · rw [d0]
          exact ⟨fun q => absurd rfl q, fun _ => skip (fun q => q.2 d0)⟩
        · have nz : ¬ nI (dr k) = 0 := fun q => d0 ((nI_eq (a := dr k) (b := 0) (by omega) (by decide)).mp q)
          have eS : ∀ n, (n < k + 1 ∧ hasW w n ∧ dr n ≠ 0) ↔ (n < k ∧ hasW w n ∧ dr n ≠ 0) ∨ n = k := fun n => by
            refine ⟨fun y => ?_, fun y => ?_⟩
            · by_cases q : n = k
              · exact .inr q
              · exact .inl ⟨by omega, y.2⟩
            · rcases y with y | y
              · exact ⟨by omega, y.2⟩
              · rw [y]; exact ⟨by omega, hs, d0⟩
          have ek : zL (hdN w (bfs g 0) c B (lf g (bfs g 0) c dr B z) k) = hf k := by rw [← hh]
          refine ⟨fun _ => ⟨w, g, c, R, dr, B, T, S, z, f, k, hw, hr, hLo, hB, hF, rfl, d2 d0, ?_⟩, fun q => absurd q nz⟩
          rw [ek]
          refine ⟨fun q0 v60 e60 => ?_, fun q0 => ⟨fun q1 v60 e60 => ?_, fun q1 v60 e60 => ?_⟩⟩
          · rw [e60, nI_1]
            rcases j2 with ⟨y1, y2⟩ | ⟨y1, -⟩
            · exact ih (_, 1) ⟨GMx.one y2 eS, .inr ⟨(by decide : ¬ (1 : Int32) = 0), k, (eS _).mpr (.inr rfl)⟩⟩
            · exact absurd q0 y1
          · rw [e60, nI_1]
            have q2 : ¬ s.1 < hf k := fun y => by have a1 := Int64.lt_iff_toInt_lt.mp y; have a2 := Int64.le_iff_toInt_le.mp q1; omega
            rcases j2 with ⟨y1, -⟩ | ⟨-, n, y2⟩
            · exact absurd y1 q0
            · exact ih (_, 1) ⟨j1.add y2 eS (fun y => absurd y q2) (fun _ => rfl), .inr ⟨(by decide : ¬ (1 : Int32) = 0), k, (eS _).mpr (.inr rfl)⟩⟩
          · rw [e60, nI_1]
            have q2 : s.1 < hf k := Int64.lt_iff_toInt_lt.mpr (Int.not_le.mp (fun y => q1 (Int64.le_iff_toInt_le.mpr y)))
            rcases j2 with ⟨y1, -⟩ | ⟨-, n, y2⟩
            · exact absurd y1 q0
            · exact ih (_, 1) ⟨j1.add y2 eS (fun _ => rfl) (fun y => absurd q2 y), .inr ⟨(by decide : ¬ (1 : Int32) = 0), k, (eS _).mpr (.inr rfl)⟩⟩
      · have hs' : ¬ (1 ≤ k ∧ w (48 + 6 * k) = 1) := hs
        rw [if_neg hs']
        exact ⟨fun _ => skip (fun q => hs q.1), fun q => absurd rfl q⟩) 1 (0, 0) (by decide) ⟨GMx.nil (fun n y => by have := y.2.1.1; omega), .inl ⟨rfl, fun n y => by have := y.2.1.1; omega⟩⟩
  exact H
theorem ct_X5_needed  (σ : Mem) (K : Int64 → Mem → Prop) (X : String → Mem → Prop) (h : sp_X5_needed  σ K X) : CtL yX5_needed cX5_needed 7 (some .long) 4 0 [.ref 209] σ K X :=
  ctL_of (by decide +kernel) (Nat.le_of_ble_eq_true rfl) (fun x C r => vc_X5_needed C r  σ h)
/-! HeatNetworkModel.neededHead()J: level 7, exceptions 0 -/
def sp_X5_neededHead  (σ : Mem) (K : Int64 → Mem → Prop) (X : String → Mem → Prop) : Prop := (∀ σ2 : Mem, σ2 = wi σ 209 0 0 → sp_X5_looks  σ2 (fun σ6 => sp_X5_needed  σ6 (fun r10 σ10 => K r10 σ10) X) X)
set_option maxRecDepth 4000 in
theorem sg_X5_neededHead_0 {x : Ctx} {K : Int64 → Mem → Prop} {X : String → Mem → Prop} (C : Cx x RX5 cX5_neededHead 1) (r : RtL x 7 0 (some .long) K X)   (σ : Mem) (h : ∀ σ2 : Mem, σ2 = wi σ 209 0 0 → sp_X5_looks  σ2 (fun σ6 => sp_X5_needed  σ6 (fun r10 σ10 => K r10 σ10) X) X) : Ws x 0 0 [(0, .ref 209)] [] σ := by
  refine r_aload_n (j := 0) C 1 dX5_neededHead_0 rfl rfl ?_
  refine r_iconst C 2 (v := 0) dX5_neededHead_1 rfl (by decide) ?_
  refine r_putI (k := 0) C cl7 5 dX5_neededHead_2 rfl kd_209 (by decide) wd_1212 rfl rfl rfl rfl ?_
  refine r_nmS (fun σ2 e2 => ?_)
  have h := h σ2 e2
  refine r_aload_n (j := 0) C 6 dX5_neededHead_5 rfl rfl ?_
  refine r_cVV (as := []) (S := []) C r.px 9 (ct_X5_looks  _ _ _ h) dX5_neededHead_6 rfl cl7 kd_209 wd_56 wd_1428 rfl wd_1426 wd_1429 wd_95 yd_X5_looks ⟨Nat.le_of_ble_eq_true rfl, Nat.le_of_ble_eq_true rfl⟩ (Nat.le_of_ble_eq_true rfl) (by decide) (fun σ6 h => ?_)
  refine r_aload_n (j := 0) C 10 dX5_neededHead_9 rfl rfl ?_
  refine r_cVL (as := []) (S := []) C r.px 13 (ct_X5_needed  _ _ _ h) dX5_neededHead_10 rfl cl7 kd_209 wd_72 wd_1503 rfl wd_1501 wd_1504 wd_95 yd_X5_needed ⟨Nat.le_of_ble_eq_true rfl, Nat.le_of_ble_eq_true rfl⟩ (Nat.le_of_ble_eq_true rfl) (by decide) (fun r10 σ10 h => ?_)
  exact r_lret (S := []) C r dX5_neededHead_13 (by decide) h
theorem ct_X5_neededHead  (σ : Mem) (K : Int64 → Mem → Prop) (X : String → Mem → Prop) (h : sp_X5_neededHead  σ K X) : CtL yX5_neededHead cX5_neededHead 1 (some .long) 7 0 [.ref 209] σ K X := by
  have h := h
  exact ctL_of (by decide +kernel) (Nat.le_of_ble_eq_true rfl) (fun x C r => sg_X5_neededHead_0 C r   σ h)
