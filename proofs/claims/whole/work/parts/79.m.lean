/-! HeatNetworkModel.run()I: level 9, exceptions 0 -/
/-- the rows stand as before -/
def RmX (σ τ : Mem) : Prop := (∀ a k, a < 209 ∨ (211 < a ∧ a < 216) ∨ a = 218 ∨ 232 < a → τ.1 a k = σ.1 a k ∧ τ.2.1 a k = σ.2.1 a k) ∧ (∀ k, k < 108 → τ.1 210 k = σ.1 210 k) ∧ (∀ k, k < 34 → τ.2.1 211 k = σ.2.1 211 k) ∧ τ.1 209 5 = σ.1 209 5 ∧ τ.1 209 8 = σ.1 209 8
theorem rmX_w {σ τ : Mem} (h : RmX σ τ) {k : Nat} (v : Int32) (hk : k ≠ 5 ∧ k ≠ 8) : RmX σ (wi τ 209 k v) := by
  obtain ⟨h1, h2, h3, h4, h5⟩ := h
  exact ⟨fun a j q => ⟨by rw [wi_i, if_neg (by omega)]; exact (h1 a j q).1, (h1 a j q).2⟩, fun j hj => by rw [wi_i, if_neg (by omega)]; exact h2 j hj, h3, by rw [wi_i, if_neg (by omega)]; exact h4, by rw [wi_i, if_neg (by omega)]; exact h5⟩
/-- how far the definitions are done -/
def RnS (q : Nat) (w' : Nat → Int32) (g' : Gr) (u' : Nat → Int64) (r : Nat) (rest : List Df) (τ : Mem) : Prop := (r = 0 ∧ ∃ (w1 : Nat → Int32) (g1 : Gr) (u1 : Nat → Int64), WFw w1 g1 ∧ (∀ k, k < 108 → τ.1 210 k = w1 k) ∧ uEq w1 u1 (τ.2.1 211) ∧ ExL rest w1 g1 u1 q w' g' u') ∨ (r = q ∧ q ≠ 0)
theorem RnS.cg {q : Nat} {w' : Nat → Int32} {g' : Gr} {u' : Nat → Int64} {r : Nat} {rest : List Df} {σ τ : Mem} (h : RnS q w' g' u' r rest σ) (e1 : ∀ k, τ.1 210 k = σ.1 210 k) (e2 : ∀ k, τ.2.1 211 k = σ.2.1 211 k) : RnS q w' g' u' r rest τ := by
  rcases h with ⟨h0, w1, g1, u1, a1, a2, a3, a4⟩ | h
  · exact .inl ⟨h0, w1, g1, u1, a1, fun k hk => by rw [e1]; exact a2 k hk, a3.cg (fun _ _ hh => hh) e2, a4⟩
  · exact .inr h
def sp_X5_run (σ : Mem) (K : Int32 → Mem → Prop) (X : String → Mem → Prop) : Prop := ∃ (s : Nat → Nat) (m : Nat) (w : Nat → Int32) (g : Gr) (u : Nat → Int64) (n : Nat) (b : Bool) (j : Nat) (lt : List Df) (q : Nat) (w' : Nat → Int32) (g' : Gr) (u' : Nat → Int64), TxM s m σ ∧ WFw w g ∧ (∀ k, k < 108 → σ.1 210 k = w k) ∧ uEq w u (σ.2.1 211) ∧ σ.1 209 5 = nI n ∧ n ≤ 8 ∧ pT s m 20 0 [] = (b, j, lt) ∧ ExL lt w g u q w' g' u' ∧ q ≤ 7 ∧
  (b = false → ∀ τ : Mem, RmX σ τ → τ.1 209 0 = 1 → τ.1 209 14 = nI j → τ.1 209 12 = 0 → τ.1 209 15 = σ.1 209 15 → K 0 τ) ∧
  (b = true → q ≠ 0 → ∀ τ : Mem, RmX σ τ → τ.1 209 0 = 2 → τ.1 209 14 = -1 → τ.1 209 12 = 0 → τ.1 209 15 = nI q → K 0 τ) ∧
  (b = true → q = 0 → ∀ τ : Mem, MdK n (σ.1 210) (σ.2.1 211) σ τ → (∀ k, k < 108 → τ.1 210 k = w' k) → uEq w' u' (τ.2.1 211) → τ.1 209 0 = 0 → τ.1 209 14 = -1 → τ.1 209 12 = 0 → τ.1 209 15 = σ.1 209 15 → K (nI lt.length) τ)
set_option maxRecDepth 4000 in
theorem sg_X5_run_0 {x : Ctx} {K : Int32 → Mem → Prop} {X : String → Mem → Prop} (C : Cx x RX5 cX5_run 5) (r : RtI x 9 0 (some .int) K X)   (σ : Mem) (h : ∀ σ2 : Mem, σ2 = wi σ 209 0 0 → sp_X5_tries  σ2 (fun σ6 => ∀ σ11 : Mem, σ11 = wi σ6 209 13 0 → Ws x 0 20 [(0, .ref 209), (1, .int 0), (2, .int 0), (3, .int 1)] [] σ11) X) : Ws x 0 0 [(0, .ref 209)] [] σ := by
  refine r_aload_n (j := 0) C 1 dX5_run_0 rfl rfl ?_
  refine r_iconst C 2 (v := 0) dX5_run_1 rfl (by decide) ?_
  refine r_putI (k := 0) C cl7 5 dX5_run_2 rfl kd_209 (by decide) wd_1212 rfl rfl rfl rfl ?_
  refine r_nmS (fun σ2 e2 => ?_)
  have h := h σ2 e2
  refine r_aload_n (j := 0) C 6 dX5_run_5 rfl rfl ?_
  refine r_cVV (as := []) (S := []) C r.px 9 (ct_X5_tries  _ _ _ h) dX5_run_6 rfl cl7 kd_209 wd_42 wd_1337 rfl wd_1335 wd_1338 wd_95 yd_X5_tries ⟨Nat.le_of_ble_eq_true rfl, Nat.le_of_ble_eq_true rfl⟩ (Nat.le_of_ble_eq_true rfl) (by decide) (fun σ6 h => ?_)
  refine r_aload_n (j := 0) C 10 dX5_run_9 rfl rfl ?_
  refine r_iconst C 11 (v := 0) dX5_run_10 rfl (by decide) ?_
  refine r_putI (k := 13) C cl7 14 dX5_run_11 rfl kd_209 (by decide) wd_1225 rfl rfl rfl rfl ?_
  refine r_nmS (fun σ11 e11 => ?_)
  have h := h σ11 e11
  refine r_iconst C 15 (v := 0) dX5_run_14 rfl (by decide) ?_
  refine r_istore_n C 16 [(1, .int 0), (0, .ref 209)] dX5_run_15 rfl (by decide) rfl ?_
  refine r_iconst C 17 (v := 0) dX5_run_16 rfl (by decide) ?_
  refine r_istore_n C 18 [(2, .int 0), (1, .int 0), (0, .ref 209)] dX5_run_17 rfl (by decide) rfl ?_
  refine r_iconst C 19 (v := 1) dX5_run_18 rfl (by decide) ?_
  refine r_istore_n C 20 [(3, .int 1), (2, .int 0), (1, .int 0), (0, .ref 209)] dX5_run_19 rfl (by decide) rfl ?_
  exact Ws_pick [3, 2, 1, 0] rfl h
set_option maxRecDepth 4000 in
theorem sg_X5_run_20 {x : Ctx} {K : Int32 → Mem → Prop} {X : String → Mem → Prop} (C : Cx x RX5 cX5_run 5) (r : RtI x 9 0 (some .int) K X) (i1 : Int32) (i2 : Int32) (i3 : Int32)  (σ : Mem) (h : (i3 = 0 → ∀ σ99 : Mem, σ99 = wi σ 209 14 (-1) → ∀ σ104 : Mem, σ104 = wi σ99 209 12 0 → (i2 ≤ 0 → sp_X5_keeps  σ104 (fun σ123 => K i1 σ123) X) ∧ (¬ i2 ≤ 0 → sp_X5_comesBack  σ104 (fun σ112 => sp_X5_refuses i2 2 σ112 (fun r118 σ118 => K r118 σ118) X) X)) ∧ (¬ i3 = 0 → (¬ i2 = 0 → sp_X5_definition 0 σ (fun r34 σ34 => (0 ≤ r34 → (¬ i2 = 0 → ∀ v74 : Int32, v74 = i1 + 1 → ((σ34.1 209 12) ≤ (σ34.1 209 13) → Ws x 0 20 [(0, .ref 209), (1, .int v74), (2, .int i2), (3, .int 0)] [] σ34) ∧ (¬ (σ34.1 209 12) ≤ (σ34.1 209 13) → Ws x 0 20 [(0, .ref 209), (1, .int v74), (2, .int i2), (3, .int 1)] [] σ34)) ∧ (i2 = 0 → ∀ v74 : Int32, v74 = i1 + 1 → ((σ34.1 209 12) ≤ (σ34.1 209 13) → Ws x 0 20 [(0, .ref 209), (1, .int v74), (2, .int r34), (3, .int 0)] [] σ34) ∧ (¬ (σ34.1 209 12) ≤ (σ34.1 209 13) → Ws x 0 20 [(0, .ref 209), (1, .int v74), (2, .int r34), (3, .int 1)] [] σ34))) ∧ (¬ 0 ≤ r34 → ∀ σ49 : Mem, σ49 = wi σ34 209 14 (σ34.1 209 13) → ∀ σ54 : Mem, σ54 = wi σ49 209 12 0 → sp_X5_comesBack  σ54 (fun σ58 => sp_X5_raises 1 σ58 (fun r63 σ63 => K r63 σ63) X) X)) X) ∧ (i2 = 0 → sp_X5_definition 1 σ (fun r34 σ34 => (0 ≤ r34 → (¬ i2 = 0 → ∀ v74 : Int32, v74 = i1 + 1 → ((σ34.1 209 12) ≤ (σ34.1 209 13) → Ws x 0 20 [(0, .ref 209), (1, .int v74), (2, .int i2), (3, .int 0)] [] σ34) ∧ (¬ (σ34.1 209 12) ≤ (σ34.1 209 13) → Ws x 0 20 [(0, .ref 209), (1, .int v74), (2, .int i2), (3, .int 1)] [] σ34)) ∧ (i2 = 0 → ∀ v74 : Int32, v74 = i1 + 1 → ((σ34.1 209 12) ≤ (σ34.1 209 13) → Ws x 0 20 [(0, .ref 209), (1, .int v74), (2, .int r34), (3, .int 0)] [] σ34) ∧ (¬ (σ34.1 209 12) ≤ (σ34.1 209 13) → Ws x 0 20 [(0, .ref 209), (1, .int v74), (2, .int r34), (3, .int 1)] [] σ34))) ∧ (¬ 0 ≤ r34 → ∀ σ49 : Mem, σ49 = wi σ34 209 14 (σ34.1 209 13) → ∀ σ54 : Mem, σ54 = wi σ49 209 12 0 → sp_X5_comesBack  σ54 (fun σ58 => sp_X5_raises 1 σ58 (fun r63 σ63 => K r63 σ63) X) X)) X))) : Ws x 0 20 [(0, .ref 209), (1, .int i1), (2, .int i2), (3, .int i3)] [] σ := by
  refine r_iload_n (j := 3) C 21 dX5_run_20 rfl rfl ?_
  refine r_if_eq C 97 24 dX5_run_21 (by decide) rfl (fun c21 => ?_) (fun c21 => ?_)
  · have h := h.1 c21
    refine r_aload_n (j := 0) C 98 dX5_run_97 rfl rfl ?_
    refine r_iconst C 99 (v := (-1)) dX5_run_98 rfl (by decide) ?_
    refine r_putI (k := 14) C cl7 102 dX5_run_99 rfl kd_209 (by decide) wd_1226 rfl rfl rfl rfl ?_
    refine r_nmS (fun σ99 e99 => ?_)
    have h := h σ99 e99
    refine r_aload_n (j := 0) C 103 dX5_run_102 rfl rfl ?_
    refine r_iconst C 104 (v := 0) dX5_run_103 rfl (by decide) ?_
    refine r_putI (k := 12) C cl7 107 dX5_run_104 rfl kd_209 (by decide) wd_1224 rfl rfl rfl rfl ?_
    refine r_nmS (fun σ104 e104 => ?_)
    have h := h σ104 e104
    refine r_iload_n (j := 2) C 108 dX5_run_107 rfl rfl ?_
    refine r_if_le C 122 111 dX5_run_108 (by decide) rfl (fun c108 => ?_) (fun c108 => ?_)
    · have h := h.1 c108
      refine r_aload_n (j := 0) C 123 dX5_run_122 rfl rfl ?_
      refine r_cVV (as := []) (S := []) C r.px 126 (ct_X5_keeps  _ _ _ h) dX5_run_123 rfl cl7 kd_209 wd_43 wd_1341 rfl wd_1339 wd_1342 wd_95 yd_X5_keeps ⟨Nat.le_of_ble_eq_true rfl, Nat.le_of_ble_eq_true rfl⟩ (Nat.le_of_ble_eq_true rfl) (by decide) (fun σ123 h => ?_)
      refine r_iload_n (j := 1) C 127 dX5_run_126 rfl rfl ?_
      exact r_iret (S := []) C r dX5_run_127 (by decide) rfl h
    · have h := h.2 c108
      refine r_aload_n (j := 0) C 112 dX5_run_111 rfl rfl ?_
      refine r_cVV (as := []) (S := []) C r.px 115 (ct_X5_comesBack  _ _ _ h) dX5_run_112 rfl cl7 kd_209 wd_86 wd_1569 rfl wd_1567 wd_1570 wd_95 yd_X5_comesBack ⟨Nat.le_of_ble_eq_true rfl, Nat.le_of_ble_eq_true rfl⟩ (Nat.le_of_ble_eq_true rfl) (by decide) (fun σ112 h => ?_)
      refine r_aload_n (j := 0) C 116 dX5_run_115 rfl rfl ?_
      refine r_iload_n (j := 2) C 117 dX5_run_116 rfl rfl ?_
      refine r_iconst C 118 (v := 2) dX5_run_117 rfl (by decide) ?_
      refine r_cVI (as := [.int i2, .int 2]) (S := []) C r.px 121 (ct_X5_refuses _ _ _ _ _ h) dX5_run_118 rfl cl7 kd_209 wd_49 wd_1376 rfl wd_1374 wd_1377 wd_95 yd_X5_refuses ⟨Nat.le_of_ble_eq_true rfl, Nat.le_of_ble_eq_true rfl⟩ (Nat.le_of_ble_eq_true rfl) (by decide) (fun r118 σ118 h => ?_)
      exact r_iret (S := []) C r dX5_run_121 (by decide) rfl h
  · have h := h.2 c21
    refine r_aload_n (j := 0) C 25 dX5_run_24 rfl rfl ?_
    refine r_iload_n (j := 2) C 26 dX5_run_25 rfl rfl ?_
    refine r_if_ne C 33 29 dX5_run_26 (by decide) rfl (fun c26 => ?_) (fun c26 => ?_)
    · have h := h.1 c26
      refine r_iconst C 34 (v := 0) dX5_run_33 rfl (by decide) ?_
      refine r_cVI (as := [.int 0]) (S := []) C r.px 37 (ct_X5_definition _ _ _ _ h) dX5_run_34 rfl cl7 kd_209 wd_80 wd_1545 rfl wd_1543 wd_1546 wd_95 yd_X5_definition ⟨Nat.le_of_ble_eq_true rfl, Nat.le_of_ble_eq_true rfl⟩ (Nat.le_of_ble_eq_true rfl) (by decide) (fun r34 σ34 h => ?_)
      refine r_istore C 39 [(4, .int r34), (0, .ref 209), (1, .int i1), (2, .int i2), (3, .int i3)] dX5_run_37 rfl (by decide) rfl ?_
      refine r_iload (j := 0) C 41 dX5_run_39 rfl rfl ?_
      refine r_if_ge C 67 44 dX5_run_41 (by decide) rfl (fun c41 => ?_) (fun c41 => ?_)
      · have h := h.1 c41
        refine r_iload_n (j := 3) C 68 dX5_run_67 rfl rfl ?_
        refine r_if_ne C 74 71 dX5_run_68 (by decide) rfl (fun c68 => ?_) (fun c68 => ?_)
        · have h := h.1 c68
          obtain ⟨v74, e74⟩ : ∃ y : Int32, y = i1 + 1 := ⟨_, rfl⟩
          have h := h v74 e74
          refine r_iinc (j := 2) C 77 [(1, .int v74), (4, .int r34), (0, .ref 209), (2, .int i2), (3, .int i3)] dX5_run_74 rfl rfl (by rw [e74]; rfl) (by decide) rfl ?_
          refine r_aload_n (j := 2) C 78 dX5_run_77 rfl rfl ?_
          refine r_get (k := 13) C cl7 81 dX5_run_78 rfl kd_209 (by decide) wd_1225 (.int (σ34.1 209 13)) (fun _ => rfl) ?_
          refine r_aload_n (j := 2) C 82 dX5_run_81 rfl rfl ?_
          refine r_get (k := 12) C cl7 85 dX5_run_82 rfl kd_209 (by decide) wd_1224 (.int (σ34.1 209 12)) (fun _ => rfl) ?_
          refine r_icmp_ge C 92 88 dX5_run_85 (by decide) rfl (fun c85 => ?_) (fun c85 => ?_)
          · have h := h.1 c85
            refine r_iconst C 93 (v := 0) dX5_run_92 rfl (by decide) ?_
            refine r_istore_n C 94 [(3, .int 0), (1, .int v74), (4, .int r34), (0, .ref 209), (2, .int i2)] dX5_run_93 rfl (by decide) rfl ?_
            refine r_goto C 20 dX5_run_94 (by decide) ?_
            exact Ws_pick [3, 1, 4, 0] rfl h
          · have h := h.2 c85
            refine r_iconst C 89 (v := 1) dX5_run_88 rfl (by decide) ?_
            refine r_goto C 93 dX5_run_89 (by decide) ?_
            refine r_istore_n C 94 [(3, .int 1), (1, .int v74), (4, .int r34), (0, .ref 209), (2, .int i2)] dX5_run_93 rfl (by decide) rfl ?_
            refine r_goto C 20 dX5_run_94 (by decide) ?_
            exact Ws_pick [3, 1, 4, 0] rfl h
        · have h := h.2 c68
          refine r_iload (j := 0) C 73 dX5_run_71 rfl rfl ?_
          refine r_istore_n C 74 [(2, .int r34), (4, .int r34), (0, .ref 209), (1, .int i1), (3, .int i3)] dX5_run_73 rfl (by decide) rfl ?_
          obtain ⟨v74, e74⟩ : ∃ y : Int32, y = i1 + 1 := ⟨_, rfl⟩
          have h := h v74 e74
          refine r_iinc (j := 3) C 77 [(1, .int v74), (2, .int r34), (4, .int r34), (0, .ref 209), (3, .int i3)] dX5_run_74 rfl rfl (by rw [e74]; rfl) (by decide) rfl ?_
          refine r_aload_n (j := 3) C 78 dX5_run_77 rfl rfl ?_
          refine r_get (k := 13) C cl7 81 dX5_run_78 rfl kd_209 (by decide) wd_1225 (.int (σ34.1 209 13)) (fun _ => rfl) ?_
          refine r_aload_n (j := 3) C 82 dX5_run_81 rfl rfl ?_
          refine r_get (k := 12) C cl7 85 dX5_run_82 rfl kd_209 (by decide) wd_1224 (.int (σ34.1 209 12)) (fun _ => rfl) ?_
          refine r_icmp_ge C 92 88 dX5_run_85 (by decide) rfl (fun c85 => ?_) (fun c85 => ?_)
          · have h := h.1 c85
            refine r_iconst C 93 (v := 0) dX5_run_92 rfl (by decide) ?_
            refine r_istore_n C 94 [(3, .int 0), (1, .int v74), (2, .int r34), (4, .int r34), (0, .ref 209)] dX5_run_93 rfl (by decide) rfl ?_
            refine r_goto C 20 dX5_run_94 (by decide) ?_
            exact Ws_pick [4, 1, 2, 0] rfl h
          · have h := h.2 c85
            refine r_iconst C 89 (v := 1) dX5_run_88 rfl (by decide) ?_
            refine r_goto C 93 dX5_run_89 (by decide) ?_
            refine r_istore_n C 94 [(3, .int 1), (1, .int v74), (2, .int r34), (4, .int r34), (0, .ref 209)] dX5_run_93 rfl (by decide) rfl ?_
            refine r_goto C 20 dX5_run_94 (by decide) ?_
            exact Ws_pick [4, 1, 2, 0] rfl h
      · have h := h.2 c41
        refine r_aload_n (j := 1) C 45 dX5_run_44 rfl rfl ?_
        refine r_aload_n (j := 1) C 46 dX5_run_45 rfl rfl ?_
        refine r_get (k := 13) C cl7 49 dX5_run_46 rfl kd_209 (by decide) wd_1225 (.int (σ34.1 209 13)) (fun _ => rfl) ?_
        refine r_putI (k := 14) C cl7 52 dX5_run_49 rfl kd_209 (by decide) wd_1226 rfl rfl rfl rfl ?_
        refine r_nmS (fun σ49 e49 => ?_)
        have h := h σ49 e49
        refine r_aload_n (j := 1) C 53 dX5_run_52 rfl rfl ?_
        refine r_iconst C 54 (v := 0) dX5_run_53 rfl (by decide) ?_
        refine r_putI (k := 12) C cl7 57 dX5_run_54 rfl kd_209 (by decide) wd_1224 rfl rfl rfl rfl ?_
        refine r_nmS (fun σ54 e54 => ?_)
        have h := h σ54 e54
        refine r_aload_n (j := 1) C 58 dX5_run_57 rfl rfl ?_
        refine r_cVV (as := []) (S := []) C r.px 61 (ct_X5_comesBack  _ _ _ h) dX5_run_58 rfl cl7 kd_209 wd_86 wd_1569 rfl wd_1567 wd_1570 wd_95 yd_X5_comesBack ⟨Nat.le_of_ble_eq_true rfl, Nat.le_of_ble_eq_true rfl⟩ (Nat.le_of_ble_eq_true rfl) (by decide) (fun σ58 h => ?_)
        refine r_aload_n (j := 1) C 62 dX5_run_61 rfl rfl ?_
        refine r_iconst C 63 (v := 1) dX5_run_62 rfl (by decide) ?_
        refine r_cVI (as := [.int 1]) (S := []) C r.px 66 (ct_X5_raises _ _ _ _ h) dX5_run_63 rfl cl7 kd_209 wd_40 wd_1325 rfl wd_1323 wd_1326 wd_95 yd_X5_raises ⟨Nat.le_of_ble_eq_true rfl, Nat.le_of_ble_eq_true rfl⟩ (Nat.le_of_ble_eq_true rfl) (by decide) (fun r63 σ63 h => ?_)
        exact r_iret (S := []) C r dX5_run_66 (by decide) rfl h
    · have h := h.2 c26
      refine r_iconst C 30 (v := 1) dX5_run_29 rfl (by decide) ?_
      refine r_goto C 34 dX5_run_30 (by decide) ?_
      refine r_cVI (as := [.int 1]) (S := []) C r.px 37 (ct_X5_definition _ _ _ _ h) dX5_run_34 rfl cl7 kd_209 wd_80 wd_1545 rfl wd_1543 wd_1546 wd_95 yd_X5_definition ⟨Nat.le_of_ble_eq_true rfl, Nat.le_of_ble_eq_true rfl⟩ (Nat.le_of_ble_eq_true rfl) (by decide) (fun r34 σ34 h => ?_)
      refine r_istore C 39 [(4, .int r34), (0, .ref 209), (1, .int i1), (2, .int i2), (3, .int i3)] dX5_run_37 rfl (by decide) rfl ?_
      refine r_iload (j := 0) C 41 dX5_run_39 rfl rfl ?_
      refine r_if_ge C 67 44 dX5_run_41 (by decide) rfl (fun c41 => ?_) (fun c41 => ?_)
      · have h := h.1 c41
        refine r_iload_n (j := 3) C 68 dX5_run_67 rfl rfl ?_
        refine r_if_ne C 74 71 dX5_run_68 (by decide) rfl (fun c68 => ?_) (fun c68 => ?_)
        · have h := h.1 c68
          obtain ⟨v74, e74⟩ : ∃ y : Int32, y = i1 + 1 := ⟨_, rfl⟩
          have h := h v74 e74
          refine r_iinc (j := 2) C 77 [(1, .int v74), (4, .int r34), (0, .ref 209), (2, .int i2), (3, .int i3)] dX5_run_74 rfl rfl (by rw [e74]; rfl) (by decide) rfl ?_
          refine r_aload_n (j := 2) C 78 dX5_run_77 rfl rfl ?_
          refine r_get (k := 13) C cl7 81 dX5_run_78 rfl kd_209 (by decide) wd_1225 (.int (σ34.1 209 13)) (fun _ => rfl) ?_
          refine r_aload_n (j := 2) C 82 dX5_run_81 rfl rfl ?_
          refine r_get (k := 12) C cl7 85 dX5_run_82 rfl kd_209 (by decide) wd_1224 (.int (σ34.1 209 12)) (fun _ => rfl) ?_
          refine r_icmp_ge C 92 88 dX5_run_85 (by decide) rfl (fun c85 => ?_) (fun c85 => ?_)
          · have h := h.1 c85
            refine r_iconst C 93 (v := 0) dX5_run_92 rfl (by decide) ?_
            refine r_istore_n C 94 [(3, .int 0), (1, .int v74), (4, .int r34), (0, .ref 209), (2, .int i2)] dX5_run_93 rfl (by decide) rfl ?_
            refine r_goto C 20 dX5_run_94 (by decide) ?_
            exact Ws_pick [3, 1, 4, 0] rfl h
          · have h := h.2 c85
            refine r_iconst C 89 (v := 1) dX5_run_88 rfl (by decide) ?_
            refine r_goto C 93 dX5_run_89 (by decide) ?_
            refine r_istore_n C 94 [(3, .int 1), (1, .int v74), (4, .int r34), (0, .ref 209), (2, .int i2)] dX5_run_93 rfl (by decide) rfl ?_
            refine r_goto C 20 dX5_run_94 (by decide) ?_
            exact Ws_pick [3, 1, 4, 0] rfl h
        · have h := h.2 c68
          refine r_iload (j := 0) C 73 dX5_run_71 rfl rfl ?_
          refine r_istore_n C 74 [(2, .int r34), (4, .int r34), (0, .ref 209), (1, .int i1), (3, .int i3)] dX5_run_73 rfl (by decide) rfl ?_
          obtain ⟨v74, e74⟩ : ∃ y : Int32, y = i1 + 1 := ⟨_, rfl⟩
          have h := h v74 e74
          refine r_iinc (j := 3) C 77 [(1, .int v74), (2, .int r34), (4, .int r34), (0, .ref 209), (3, .int i3)] dX5_run_74 rfl rfl (by rw [e74]; rfl) (by decide) rfl ?_
          refine r_aload_n (j := 3) C 78 dX5_run_77 rfl rfl ?_
          refine r_get (k := 13) C cl7 81 dX5_run_78 rfl kd_209 (by decide) wd_1225 (.int (σ34.1 209 13)) (fun _ => rfl) ?_
          refine r_aload_n (j := 3) C 82 dX5_run_81 rfl rfl ?_
          refine r_get (k := 12) C cl7 85 dX5_run_82 rfl kd_209 (by decide) wd_1224 (.int (σ34.1 209 12)) (fun _ => rfl) ?_
          refine r_icmp_ge C 92 88 dX5_run_85 (by decide) rfl (fun c85 => ?_) (fun c85 => ?_)
          · have h := h.1 c85
            refine r_iconst C 93 (v := 0) dX5_run_92 rfl (by decide) ?_
            refine r_istore_n C 94 [(3, .int 0), (1, .int v74), (2, .int r34), (4, .int r34), (0, .ref 209)] dX5_run_93 rfl (by decide) rfl ?_
            refine r_goto C 20 dX5_run_94 (by decide) ?_
            exact Ws_pick [4, 1, 2, 0] rfl h
          · have h := h.2 c85
            refine r_iconst C 89 (v := 1) dX5_run_88 rfl (by decide) ?_
            refine r_goto C 93 dX5_run_89 (by decide) ?_
            refine r_istore_n C 94 [(3, .int 1), (1, .int v74), (2, .int r34), (4, .int r34), (0, .ref 209)] dX5_run_93 rfl (by decide) rfl ?_
            refine r_goto C 20 dX5_run_94 (by decide) ?_
            exact Ws_pick [4, 1, 2, 0] rfl h
      · have h := h.2 c41
        refine r_aload_n (j := 1) C 45 dX5_run_44 rfl rfl ?_
        refine r_aload_n (j := 1) C 46 dX5_run_45 rfl rfl ?_
        refine r_get (k := 13) C cl7 49 dX5_run_46 rfl kd_209 (by decide) wd_1225 (.int (σ34.1 209 13)) (fun _ => rfl) ?_
        refine r_putI (k := 14) C cl7 52 dX5_run_49 rfl kd_209 (by decide) wd_1226 rfl rfl rfl rfl ?_
        refine r_nmS (fun σ49 e49 => ?_)
        have h := h σ49 e49
        refine r_aload_n (j := 1) C 53 dX5_run_52 rfl rfl ?_
        refine r_iconst C 54 (v := 0) dX5_run_53 rfl (by decide) ?_
        refine r_putI (k := 12) C cl7 57 dX5_run_54 rfl kd_209 (by decide) wd_1224 rfl rfl rfl rfl ?_
        refine r_nmS (fun σ54 e54 => ?_)
        have h := h σ54 e54
        refine r_aload_n (j := 1) C 58 dX5_run_57 rfl rfl ?_
        refine r_cVV (as := []) (S := []) C r.px 61 (ct_X5_comesBack  _ _ _ h) dX5_run_58 rfl cl7 kd_209 wd_86 wd_1569 rfl wd_1567 wd_1570 wd_95 yd_X5_comesBack ⟨Nat.le_of_ble_eq_true rfl, Nat.le_of_ble_eq_true rfl⟩ (Nat.le_of_ble_eq_true rfl) (by decide) (fun σ58 h => ?_)
        refine r_aload_n (j := 1) C 62 dX5_run_61 rfl rfl ?_
        refine r_iconst C 63 (v := 1) dX5_run_62 rfl (by decide) ?_
        refine r_cVI (as := [.int 1]) (S := []) C r.px 66 (ct_X5_raises _ _ _ _ h) dX5_run_63 rfl cl7 kd_209 wd_40 wd_1325 rfl wd_1323 wd_1326 wd_95 yd_X5_raises ⟨Nat.le_of_ble_eq_true rfl, Nat.le_of_ble_eq_true rfl⟩ (Nat.le_of_ble_eq_true rfl) (by decide) (fun r63 σ63 h => ?_)
        exact r_iret (S := []) C r dX5_run_66 (by decide) rfl h
theorem vc_X5_run {x : Ctx} {K : Int32 → Mem → Prop} {X : String → Mem → Prop} (C : Cx x RX5 cX5_run 5) (r : RtI x 9 0 (some .int) K X) (σ : Mem) (h : sp_X5_run σ K X) : Ws x 0 0 [(0, .ref 209)] [] σ := by
  obtain ⟨s, m, w, g, u, n, b, j, lt, q, w', g', u', hT, hw, hr, hu, h5, hn, hp, hE, q7, hK1, hK2, hK3⟩ := h
  have h60 := hT.1
  refine sg_X5_run_0 C r σ (fun σ2 e2 => ?_)
  have s2 : ∀ a k, ¬ (a = 209 ∧ k = 0) → σ2.1 a k = σ.1 a k := fun a k z => by rw [e2, wi_i, if_neg z]
  have l2 : ∀ a k, σ2.2.1 a k = σ.2.1 a k := fun a k => by rw [e2]; rfl
  have b9 : ∀ {τ : Mem}, Op13 (trM σ2) τ → ∀ k, k ≠ 0 → k ≠ 13 → k ≠ 22 → k ≠ 32 → τ.1 209 k = σ.1 209 k := fun hO k z0 z1 z2 z3 => by rw [hO.2.1 k z1 z2 z3, trM_i _ (by omega), s2 _ _ (by omega)]
  have b90 : ∀ {τ : Mem}, Op13 (trM σ2) τ → τ.1 209 0 = 0 := fun hO => by rw [hO.2.1 0 (by omega) (by omega) (by omega), trM_i _ (by omega), e2, wi_at]
  have bc : ∀ {τ : Mem}, Op13 (trM σ2) τ → ∀ a k, a < 209 ∨ (211 < a ∧ a < 216) ∨ a = 218 ∨ 232 < a → τ.1 a k = σ.1 a k ∧ τ.2.1 a k = σ.2.1 a k := fun hO a k z => ⟨by rw [(hO.1 a k (by omega)).1, trM_i _ (by omega), s2 _ _ (by omega)], by rw [(hO.1 a k (by omega)).2, trM_l _ (by omega), l2]⟩
  -- the rows come back
  have back : ∀ (τ : Mem) (v1 v2 : Int32), Op13 (trM σ2) τ → RmX σ (cl (ci (wi (wi τ 209 14 v1) 209 12 v2) 216 210 0 0 108) 217 211 0 0 34) ∧ (cl (ci (wi (wi τ 209 14 v1) 209 12 v2) 216 210 0 0 108) 217 211 0 0 34).1 209 14 = v1 ∧ (cl (ci (wi (wi τ 209 14 v1) 209 12 v2) 216 210 0 0 108) 217 211 0 0 34).1 209 12 = v2 ∧ (cl (ci (wi (wi τ 209 14 v1) 209 12 v2) 216 210 0 0 108) 217 211 0 0 34).1 209 15 = σ.1 209 15 := by
    intro τ v1 v2 hO
    have i1 : ∀ a k, a ≠ 210 → (cl (ci (wi (wi τ 209 14 v1) 209 12 v2) 216 210 0 0 108) 217 211 0 0 34).1 a k = (wi (wi τ 209 14 v1) 209 12 v2).1 a k := fun a k z => by rw [cl_i, ci_i, if_neg (by omega)]
    refine ⟨⟨fun a k z => ⟨?_, ?_⟩, fun k hk => ?_, fun k hk => ?_, ?_, ?_⟩, ?_, ?_, ?_⟩
    · rw [i1 a k (by omega), wi_i, if_neg (by omega), wi_i, if_neg (by omega)]; exact (bc hO a k z).1
    · rw [cl_l, if_neg (by omega), ci_l, wi_l, wi_l]; exact (bc hO a k z).2
    · rw [cl_i, ci_i, if_pos (by omega), wi_i, if_neg (by omega), wi_i, if_neg (by omega), show 0 + (k - 0) = k by omega, (hO.1 216 k (by omega)).1, trM_w _ hk, s2 _ _ (by omega)]
    · rw [cl_l, if_pos (by omega), ci_l, wi_l, wi_l, show 0 + (k - 0) = k by omega, (hO.1 217 k (by omega)).2, trM_u _ hk, l2]
    · rw [i1 _ _ (by omega), wi_i, if_neg (by omega), wi_i, if_neg (by omega)]; exact b9 hO 5 (by omega) (by omega) (by omega) (by omega)
    · rw [i1 _ _ (by omega), wi_i, if_neg (by omega), wi_i, if_neg (by omega)]; exact b9 hO 8 (by omega) (by omega) (by omega) (by omega)
    · rw [i1 _ _ (by omega), wi_i, if_neg (by omega), wi_at]
    · rw [i1 _ _ (by omega), wi_at]
    · rw [i1 _ _ (by omega), wi_i, if_neg (by omega), wi_i, if_neg (by omega)]; exact b9 hO 15 (by omega) (by omega) (by omega) (by omega)
  have ne0 : ∀ {k : Nat}, k ≤ 7 → (nI k = 0 ↔ k = 0) := fun hk => nI_eq (a := _) (b := 0) (by omega) (by decide)
  -- the end
  have END : ∀ (i r' : Nat) (υ : Mem), r' ≤ 7 → Op13 (trM σ2) υ → RnS q w' g' u' r' [] υ → b = true → lt.length = i → Ws x 0 20 [(0, .ref 209), (1, .int (nI i)), (2, .int (nI r')), (3, .int 0)] [] υ := by
    intro i r' υ r7 hO hS hb hi
    refine sg_X5_run_20 C r _ _ _ υ ⟨fun _ σ99 e99 σ104 e104 => ⟨fun c => ?_, fun c => ?_⟩, fun z => absurd rfl z⟩
    · have r0 : r' = 0 := by rw [show (0 : Int32) = nI 0 from rfl, nI_leI (by omega) (by omega)] at c; omega
      rcases hS with ⟨-, w1, g1, u1, a1, a2, a3, a4⟩ | ⟨a, a'⟩
      · obtain ⟨c1, c2, c3, c4⟩ := a4
        have hO4 : OpR (trM σ2) σ104 := by
          rw [e104, e99]
          exact (hO.r.trans (opR_w9 υ (-1) (by omega))).trans (opR_w9 _ 0 (by omega))
        have h0 : OpR σ σ2 := by rw [e2]; exact opR_w9 σ 0 (by omega)
        refine MdK.mk1 hn h0 hO4 h5 (w := σ.1 210) (u := σ.2.1 211) (fun k _ => s2 210 k (by omega)) (fun k _ => l2 211 k) (fun ω hM hF => ?_)
        have f9 : ∀ k, k ≠ 5 → ω.1 209 k = σ104.1 209 k := fun k z => hF.1 209 k (by omega) (by omega)
        have f210 : ∀ k, ω.1 210 k = υ.1 210 k := fun k => by rw [hF.1 210 k (by omega) (by omega), e104, wi_i, if_neg (by omega), e99, wi_i, if_neg (by omega)]
        have f211 : ∀ k, ω.2.1 211 k = υ.2.1 211 k := fun k => by rw [hF.2.1 211 k (by omega), e104, wi_l, e99, wi_l]
        rw [← hi]
        refine hK3 hb c1 ω hM (fun k hk => by rw [f210, c2]; exact a2 k hk) (by rw [c2, c4]; exact a3.cg (fun _ _ hh => hh) f211) ?_ ?_ ?_ ?_
        · rw [f9 0 (by omega), e104, wi_i, if_neg (by omega), e99, wi_i, if_neg (by omega)]; exact b90 hO
        · rw [f9 14 (by omega), e104, wi_i, if_neg (by omega), e99, wi_at]
        · rw [f9 12 (by omega), e104, wi_at]
        · rw [f9 15 (by omega), e104, wi_i, if_neg (by omega), e99, wi_i, if_neg (by omega)]; exact b9 hO 15 (by omega) (by omega) (by omega) (by omega)
      · exact absurd (by rw [← a, r0]) a'
    · have r0 : r' ≠ 0 := fun z => c (by rw [z]; decide)
      rcases hS with ⟨a, -⟩ | ⟨a, a'⟩
      · exact absurd a r0
      · rw [e99] at e104
        rw [e104]
        obtain ⟨d1, d2, d3, d4⟩ := back υ (-1) 0 hO
        refine i_X5_refuses (hK2 hb a' _ (rmX_w (rmX_w d1 _ (by omega)) _ (by omega)) (wi_at _ _ _ _) ?_ ?_ ?_)
        · rw [wi_i, if_neg (by omega), wi_i, if_neg (by omega)]; exact d2
        · rw [wi_i, if_neg (by omega), wi_i, if_neg (by omega)]; exact d3
        · rw [wi_i, if_neg (by omega), wi_at, a]
  have H : ∀ (f i : Nat) (l rest : List Df) (r' : Nat) (τ : Mem), Op13 (trM σ2) τ → τ.1 209 13 = nI i → i ≤ m → lt = l ++ rest → pT s m (f + 1) i l = (b, j, lt) → 60 - i ≤ 3 * (f + 1) → r' ≤ 7 → RnS q w' g' u' r' rest τ → Ws x 0 20 [(0, .ref 209), (1, .int (nI l.length)), (2, .int (nI r')), (3, .int 1)] [] τ := by
    intro f
    induction f using Nat.strongRecOn with
    | ind f ih =>
      intro i l rest r' τ hO h13 him hlt hpt hfu r7 hS
      have hTx : TxM s m τ := hT.of (b9 hO 12 (by omega) (by omega) (by omega) (by omega)) (fun k => (bc hO 218 k (by omega)).1)
      obtain ⟨p1, p2, p3⟩ := pD_end (s := s) him
      have run1 : ∀ KK : Int32 → Mem → Prop, (∀ jj v, pD s m i = (false, jj, v) → KK (-1) (wi τ 209 13 (nI jj))) → (∀ jj v rest', pD s m i = (true, jj, v) → rest = dfO (chT s m i) v :: rest' → (r' ≠ 0 → KK 0 (wi τ 209 13 (nI jj))) ∧ (r' = 0 → ∀ r1 υ, r1 ≤ 7 → Op13 (trM σ2) υ → υ.1 209 13 = nI jj → RnS q w' g' u' r1 rest' υ → KK (nI r1) υ)) → (¬ nI r' = 0 → sp_X5_definition 0 τ (fun r34 σ34 => KK r34 σ34) X) ∧ (nI r' = 0 → sp_X5_definition 1 τ (fun r34 σ34 => KK r34 σ34) X) := by
        intro KK k0 k1
        have hrest : ∀ jj v, pD s m i = (true, jj, v) → ∃ rest', rest = dfO (chT s m i) v :: rest' := by
          intro jj v e
          have e3 : pT s m (f + 1) i l = if jj = m then (true, m, l ++ [dfO (chT s m i) v]) else pT s m f jj (l ++ [dfO (chT s m i) v]) := by rw [pT, e, if_pos rfl]
          rw [hpt] at e3
          by_cases c : jj = m
          · rw [if_pos c] at e3
            have e4 : lt = l ++ [dfO (chT s m i) v] := congrArg (fun z => z.2.2) e3
            rw [hlt] at e4
            exact ⟨[], List.append_cancel_left e4⟩
          · rw [if_neg c] at e3
            obtain ⟨r2, hr2⟩ := pT_pre (s := s) (n := m) f jj (l ++ [dfO (chT s m i) v])
            have e4 : lt = (l ++ [dfO (chT s m i) v]) ++ r2 := by rw [← hr2, ← e3]
            rw [hlt, List.append_assoc] at e4
            exact ⟨r2, List.append_cancel_left e4⟩
        refine ⟨fun c => ⟨s, m, i, hTx, h13, him, fun jj v e => k0 jj v e, fun jj v e => ⟨fun _ => ?_, fun z => absurd rfl z⟩⟩, fun c => ⟨s, m, i, hTx, h13, him, fun jj v e => k0 jj v e, fun jj v e => ⟨fun z => absurd z (by decide), fun _ => ?_⟩⟩⟩
        · obtain ⟨rest', hr'⟩ := hrest jj v e
          exact (k1 jj v rest' e hr').1 (fun z => c (by rw [z]; rfl))
        · obtain ⟨rest', hr'⟩ := hrest jj v e
          have r0 := (ne0 r7).mp c
          have k2 := (k1 jj v rest' e hr').2 r0
          have hkd : kdB (dfO (chT s m i) v).1 := by
            have := p3 (by rw [e])
            exact this.2.1
          rcases hS with ⟨-, w1, g1, u1, a1, a2, a3, a4⟩ | ⟨a, a'⟩
          · rw [hr'] at a4
            have rr : ∀ k, k < 108 → (wi τ 209 13 (nI jj)).1 210 k = w1 k := fun k hk => by rw [wi_i, if_neg (by omega)]; exact a2 k hk
            have aa : ∀ {υ : Mem}, OpM (wi τ 209 13 (nI jj)) υ → Op13 (trM σ2) υ ∧ υ.1 209 13 = nI jj := fun hv => ⟨(op13_w hO _).op hv, by rw [hv.2.1 13 (by omega) (by omega), wi_at]⟩
            rcases a4 with ⟨z, hx⟩ | ⟨w2, g2, u2, hx, hx2⟩
            · refine i_spBy (d := dfO (chT s m i) v) hkd a1 rr a3 hx (fun z' => absurd z' z) (fun _ υ hv => ?_)
              exact k2 q υ q7 (aa hv).1 (aa hv).2 (.inr ⟨rfl, z⟩)
            · refine i_spBy (d := dfO (chT s m i) v) hkd a1 rr a3 hx (fun _ υ hv hr2 hu2 => ?_) (fun z' => absurd rfl z')
              exact k2 0 υ (by decide) (aa hv).1 (aa hv).2 (.inl ⟨rfl, w2, g2, u2, hx.wf hkd a1, hr2, hu2, hx2⟩)
          · exact absurd (by rw [← a, r0]) a'
      refine sg_X5_run_20 C r _ _ _ τ ⟨fun z => absurd z (by decide), fun _ => run1 _ (fun jj v e => ⟨fun z => absurd z (by decide), fun _ σ49 e49 σ54 e54 => ?_⟩) (fun jj v rest' e hr' => ?_)⟩
      · -- a fault
        have e3 : pT s m (f + 1) i l = (false, jj, l) := by
          rw [pT, e]
          exact if_neg (fun z => by cases z)
        rw [hpt] at e3
        have eb : b = false := congrArg (fun z => z.1) e3
        have ej : j = jj := congrArg (fun z => z.2.1) e3
        rw [wi_at] at e49
        rw [e49] at e54
        rw [e54]
        obtain ⟨d1, d2, d3, d4⟩ := back (wi τ 209 13 (nI jj)) (nI jj) 0 (op13_w hO _)
        refine i_X5_raises (X := X) (hK1 eb _ (rmX_w d1 _ (by omega)) (wi_at _ _ _ _) ?_ ?_ ?_)
        · rw [wi_i, if_neg (by omega), ej]; exact d2
        · rw [wi_i, if_neg (by omega)]; exact d3
        · rw [wi_i, if_neg (by omega)]; exact d4
      · -- a definition
        rw [e] at p1 p2 p3
        have hjj : i + 3 ≤ jj := (p3 rfl).1
        have hjm : jj ≤ m := p2
        have hlen : (l ++ [dfO (chT s m i) v]).length = l.length + 1 := by simp
        have hlt' : lt = (l ++ [dfO (chT s m i) v]) ++ rest' := by rw [hlt, hr', List.append_assoc]; rfl
        have e3 : pT s m (f + 1) i l = if jj = m then (true, m, l ++ [dfO (chT s m i) v]) else pT s m f jj (l ++ [dfO (chT s m i) v]) := by rw [pT, e, if_pos rfl]
        have nxt : ∀ (r1 : Nat) (υ : Mem), r1 ≤ 7 → Op13 (trM σ2) υ → υ.1 209 13 = nI jj → RnS q w' g' u' r1 rest' υ → ∀ v74 : Int32, v74 = nI l.length + 1 → ((υ.1 209 12) ≤ (υ.1 209 13) → Ws x 0 20 [(0, .ref 209), (1, .int v74), (2, .int (nI r1)), (3, .int 0)] [] υ) ∧ (¬ (υ.1 209 12) ≤ (υ.1 209 13) → Ws x 0 20 [(0, .ref 209), (1, .int v74), (2, .int (nI r1)), (3, .int 1)] [] υ) := by
          intro r1 υ r17 hO' h13' hS' v74 e74
          rw [b9 hO' 12 (by omega) (by omega) (by omega) (by omega), hT.2.1, h13', nI_leI (by omega) (by omega)]
          rw [nI_1] at e74
          rw [e74]
          refine ⟨fun c => ?_, fun c => ?_⟩
          · have c' : jj = m := by omega
            rw [hpt, if_pos c'] at e3
            have eb : b = true := congrArg (fun z => z.1) e3
            have el : lt = l ++ [dfO (chT s m i) v] := congrArg (fun z => z.2.2) e3
            have er : rest' = [] := by
              rw [el] at hlt'
              have := congrArg List.length hlt'
              rw [List.length_append (as := l ++ [dfO (chT s m i) v]) (bs := rest')] at this
              exact List.eq_nil_of_length_eq_zero (by omega)
            rw [er] at hS'
            exact END (l.length + 1) r1 υ r17 hO' hS' eb (by rw [el, hlen])
          · have c' : ¬ jj = m := by omega
            rw [hpt, if_neg c'] at e3
            obtain ⟨f', hf'⟩ : ∃ f', f = f' + 1 := ⟨f - 1, by omega⟩
            have := ih f' (by omega) jj (l ++ [dfO (chT s m i) v]) rest' r1 υ hO' h13' hjm hlt' (by rw [← hf']; exact e3.symm) (by omega) r17 hS'
            rw [hlen] at this
            exact this
        refine ⟨fun c => ⟨fun _ => ⟨fun _ => ?_, fun z => absurd z (fun z => c ((ne0 r7).mp z))⟩, fun z => absurd (by decide) z⟩, fun c r1 υ r17 hO' h13' hS' => ⟨fun _ => ⟨fun z => absurd (by rw [c]; rfl) z, fun _ => nxt r1 υ r17 hO' h13' hS'⟩, fun z => absurd (nI_pos' (by omega)) z⟩⟩
        refine nxt r' _ r7 (op13_w hO _) (wi_at _ _ _ _) ?_
        rcases hS with ⟨a, -⟩ | a
        · exact absurd a c
        · exact .inr a
  show ∀ σ11 : Mem, σ11 = wi (trM σ2) 209 13 0 → _
  intro σ11 e11
  rw [e11]
  have hO0 := op13_w (Op13.rfl' (trM σ2)) 0
  refine H 19 0 [] lt 0 _ hO0 (wi_at _ _ _ _) (Nat.zero_le m) rfl hp (by omega) (by decide) (.inl ⟨rfl, w, g, u, hw, fun k hk => ?_, ?_, hE⟩)
  · rw [wi_i, if_neg (by omega), trM_i _ (by omega), s2 _ _ (by omega)]; exact hr k hk
  · exact hu.cg (fun _ _ hh => hh) (fun k => by rw [wi_l, trM_l _ (by omega), l2])
theorem ct_X5_run  (σ : Mem) (K : Int32 → Mem → Prop) (X : String → Mem → Prop) (h : sp_X5_run  σ K X) : CtI yX5_run cX5_run 5 (some .int) 9 0 [.ref 209] σ K X :=
  ctI_of (by decide +kernel) (Nat.le_of_ble_eq_true rfl) (fun x C r => vc_X5_run C r  σ h)
