/-! HeatNetwork$State.putLoopInOrder(LHeatNetwork$Shape;I)I: level 2, exceptions 0 -/
def sp_X2_putLoopInOrder (t : Nat) (p1 : Int32) (σ : Mem) (K : Int32 → Mem → Prop) (X : String → Mem → Prop) : Prop := StaA t ∧ ∃ (g : Gr) (c : Lp) (f : Nat → Int) (W : List Nat), WG g ∧ Shp g (bfs g 0) c σ ∧ Fall c f ∧ (∀ k, k < c.1 → σ.1 (t + 3) k = zI (f k)) ∧ 0 < c.1 ∧ W.Nodup ∧ (∀ n, n ∈ W → n < 10 ∧ ¬ inT c n) ∧ OrdW (bfs g 0) c f W ∧ c.2.1 0 ∈ W ∧ RowW (t + 5) W σ ∧ p1 = nI W.length ∧ ∀ (τ : Mem) (W' : List Nat), Ch (t + 5) (t + 5) σ τ → W'.Nodup → (∀ n, n ∈ W' ↔ n ∈ W ∨ inT c n) → OrdW (bfs g 0) c f W' → RowW (t + 5) W' τ → W'[0]? = W[0]? → K (nI W'.length) τ
set_option maxRecDepth 4000 in
theorem sg_X2_putLoopInOrder_0 {x : Ctx} {K : Int32 → Mem → Prop} {X : String → Mem → Prop} (C : Cx x RX2 cX2_putLoopInOrder 5) (r : RtI x 2 0 (some .int) K X) (t : Nat) (p1 : Int32) (ht : StaA t) (σ : Mem) (h : Ws x 0 5 [(0, .ref t), (1, .ref 44), (3, .int p1), (4, .int 1)] [] σ) : Ws x 0 0 [(0, .ref t), (1, .ref 44), (2, .int p1)] [] σ := by
  refine r_iload_n (j := 2) C 1 dX2_putLoopInOrder_0 rfl rfl ?_
  refine r_istore_n C 2 [(3, .int p1), (0, .ref t), (1, .ref 44), (2, .int p1)] dX2_putLoopInOrder_1 rfl (by decide) rfl ?_
  refine r_iconst C 3 (v := 1) dX2_putLoopInOrder_2 rfl (by decide) ?_
  refine r_istore C 5 [(4, .int 1), (3, .int p1), (0, .ref t), (1, .ref 44), (2, .int p1)] dX2_putLoopInOrder_3 rfl (by decide) rfl ?_
  exact Ws_pick [2, 3, 1, 0] rfl h
set_option maxRecDepth 4000 in
theorem sg_X2_putLoopInOrder_5 {x : Ctx} {K : Int32 → Mem → Prop} {X : String → Mem → Prop} (C : Cx x RX2 cX2_putLoopInOrder 5) (r : RtI x 2 0 (some .int) K X) (t : Nat) (i3 : Int32) (i4 : Int32) (ht : StaA t) (σ : Mem) (h : ((σ.1 44 8) ≤ i4 → ∀ v49 : Int32, v49 = ((σ.1 44 8) - 1) → Ws x 0 51 [(0, .ref t), (1, .ref 44), (3, .int i3), (4, .int v49)] [] σ) ∧ (¬ (σ.1 44 8) ≤ i4 → (vp_in i4 10) ∧ (((σ.1 (t + 3) i4.toNatClampNeg) < 0 → ∀ v37 : Int32, v37 = i4 + 1 → Ws x 0 5 [(0, .ref t), (1, .ref 44), (3, .int i3), (4, .int v37)] [] σ) ∧ (¬ (σ.1 (t + 3) i4.toNatClampNeg) < 0 → (vp_in i4 10) ∧ (sp_X2_putInOrder t (σ.1 50 i4.toNatClampNeg) i3 σ (fun r33 σ33 => ∀ v37 : Int32, v37 = i4 + 1 → Ws x 0 5 [(0, .ref t), (1, .ref 44), (3, .int r33), (4, .int v37)] [] σ33) X))))) : Ws x 0 5 [(0, .ref t), (1, .ref 44), (3, .int i3), (4, .int i4)] [] σ := by
  refine r_iload (j := 3) C 7 dX2_putLoopInOrder_5 rfl rfl ?_
  refine r_aload_n (j := 1) C 8 dX2_putLoopInOrder_7 rfl rfl ?_
  refine r_get (k := 8) C cl3 11 dX2_putLoopInOrder_8 rfl kd_44 (by decide) wd_244 (.int (σ.1 44 8)) (fun _ => rfl) ?_
  refine r_icmp_ge C 43 14 dX2_putLoopInOrder_11 (by decide) rfl (fun c11 => ?_) (fun c11 => ?_)
  · have h := h.1 c11
    refine r_aload_n (j := 1) C 44 dX2_putLoopInOrder_43 rfl rfl ?_
    refine r_get (k := 8) C cl3 47 dX2_putLoopInOrder_44 rfl kd_44 (by decide) wd_244 (.int (σ.1 44 8)) (fun _ => rfl) ?_
    refine r_iconst C 48 (v := 1) dX2_putLoopInOrder_47 rfl (by decide) ?_
    refine r_isub C 49 dX2_putLoopInOrder_48 rfl ?_
    refine r_nmI (fun v49 e49 => ?_)
    have h := h v49 e49
    refine r_istore C 51 [(4, .int v49), (0, .ref t), (1, .ref 44), (3, .int i3)] dX2_putLoopInOrder_49 rfl (by decide) rfl ?_
    exact Ws_pick [1, 2, 3, 0] rfl h
  · have h := h.2 c11
    refine r_aload_n (j := 0) C 15 dX2_putLoopInOrder_14 rfl rfl ?_
    refine r_get (k := 2) C cl4 18 dX2_putLoopInOrder_15 rfl (sta0 ht) (by decide) wd_280 (.ref (t + 3)) (fun _ => rfl) ?_
    refine r_iload (j := 3) C 20 dX2_putLoopInOrder_18 rfl rfl ?_
    obtain ⟨o20, h⟩ := h
    refine r_iald C 21 dX2_putLoopInOrder_20 rfl (sta3 ht) o20 ?_
    refine r_if_lt C 37 24 dX2_putLoopInOrder_21 (by decide) rfl (fun c21 => ?_) (fun c21 => ?_)
    · have h := h.1 c21
      obtain ⟨v37, e37⟩ : ∃ y : Int32, y = i4 + 1 := ⟨_, rfl⟩
      have h := h v37 e37
      refine r_iinc (j := 3) C 40 [(4, .int v37), (0, .ref t), (1, .ref 44), (3, .int i3)] dX2_putLoopInOrder_37 rfl rfl (by rw [e37]; rfl) (by decide) rfl ?_
      refine r_goto C 5 dX2_putLoopInOrder_40 (by decide) ?_
      exact Ws_pick [1, 2, 3, 0] rfl h
    · have h := h.2 c21
      refine r_aload_n (j := 0) C 25 dX2_putLoopInOrder_24 rfl rfl ?_
      refine r_aload_n (j := 1) C 26 dX2_putLoopInOrder_25 rfl rfl ?_
      refine r_get (k := 6) C cl3 29 dX2_putLoopInOrder_26 rfl kd_44 (by decide) wd_239 (.ref 50) (fun _ => rfl) ?_
      refine r_iload (j := 3) C 31 dX2_putLoopInOrder_29 rfl rfl ?_
      obtain ⟨o31, h⟩ := h
      refine r_iald C 32 dX2_putLoopInOrder_31 rfl kd_50 o31 ?_
      refine r_iload_n (j := 2) C 33 dX2_putLoopInOrder_32 rfl rfl ?_
      refine r_cVI (as := [.int (σ.1 50 i4.toNatClampNeg), .int i3]) (S := []) C r.px 36 (ct_X2_putInOrder _ _ _ _ _ _ h) dX2_putLoopInOrder_33 rfl cl4 (sta0 ht) wd_14 wd_519 rfl wd_517 wd_520 wd_93 yd_X2_putInOrder ⟨Nat.le_of_ble_eq_true rfl, Nat.le_of_ble_eq_true rfl⟩ (Nat.le_of_ble_eq_true rfl) (by decide) (fun r33 σ33 h => ?_)
      refine r_istore_n C 37 [(3, .int r33), (0, .ref t), (1, .ref 44), (4, .int i4)] dX2_putLoopInOrder_36 rfl (by decide) rfl ?_
      obtain ⟨v37, e37⟩ : ∃ y : Int32, y = i4 + 1 := ⟨_, rfl⟩
      have h := h v37 e37
      refine r_iinc (j := 3) C 40 [(4, .int v37), (3, .int r33), (0, .ref t), (1, .ref 44)] dX2_putLoopInOrder_37 rfl rfl (by rw [e37]; rfl) (by decide) rfl ?_
      refine r_goto C 5 dX2_putLoopInOrder_40 (by decide) ?_
      exact Ws_pick [2, 3, 1, 0] rfl h
set_option maxRecDepth 4000 in
theorem sg_X2_putLoopInOrder_51 {x : Ctx} {K : Int32 → Mem → Prop} {X : String → Mem → Prop} (C : Cx x RX2 cX2_putLoopInOrder 5) (r : RtI x 2 0 (some .int) K X) (t : Nat) (i3 : Int32) (i4 : Int32) (ht : StaA t) (σ : Mem) (h : (i4 ≤ 0 → K i3 σ) ∧ (¬ i4 ≤ 0 → (vp_in i4 10) ∧ ((0 ≤ (σ.1 (t + 3) i4.toNatClampNeg) → ∀ v79 : Int32, v79 = i4 + (-1) → Ws x 0 51 [(0, .ref t), (1, .ref 44), (3, .int i3), (4, .int v79)] [] σ) ∧ (¬ 0 ≤ (σ.1 (t + 3) i4.toNatClampNeg) → (vp_in i4 10) ∧ (sp_X2_putInOrder t (σ.1 50 i4.toNatClampNeg) i3 σ (fun r75 σ75 => ∀ v79 : Int32, v79 = i4 + (-1) → Ws x 0 51 [(0, .ref t), (1, .ref 44), (3, .int r75), (4, .int v79)] [] σ75) X))))) : Ws x 0 51 [(0, .ref t), (1, .ref 44), (3, .int i3), (4, .int i4)] [] σ := by
  refine r_iload (j := 3) C 53 dX2_putLoopInOrder_51 rfl rfl ?_
  refine r_if_le C 85 56 dX2_putLoopInOrder_53 (by decide) rfl (fun c53 => ?_) (fun c53 => ?_)
  · have h := h.1 c53
    refine r_iload_n (j := 2) C 86 dX2_putLoopInOrder_85 rfl rfl ?_
    exact r_iret (S := []) C r dX2_putLoopInOrder_86 (by decide) rfl h
  · have h := h.2 c53
    refine r_aload_n (j := 0) C 57 dX2_putLoopInOrder_56 rfl rfl ?_
    refine r_get (k := 2) C cl4 60 dX2_putLoopInOrder_57 rfl (sta0 ht) (by decide) wd_280 (.ref (t + 3)) (fun _ => rfl) ?_
    refine r_iload (j := 3) C 62 dX2_putLoopInOrder_60 rfl rfl ?_
    obtain ⟨o62, h⟩ := h
    refine r_iald C 63 dX2_putLoopInOrder_62 rfl (sta3 ht) o62 ?_
    refine r_if_ge C 79 66 dX2_putLoopInOrder_63 (by decide) rfl (fun c63 => ?_) (fun c63 => ?_)
    · have h := h.1 c63
      obtain ⟨v79, e79⟩ : ∃ y : Int32, y = i4 + (-1) := ⟨_, rfl⟩
      have h := h v79 e79
      refine r_iinc (j := 3) C 82 [(4, .int v79), (0, .ref t), (1, .ref 44), (3, .int i3)] dX2_putLoopInOrder_79 rfl rfl (by rw [e79]; rfl) (by decide) rfl ?_
      refine r_goto C 51 dX2_putLoopInOrder_82 (by decide) ?_
      exact Ws_pick [1, 2, 3, 0] rfl h
    · have h := h.2 c63
      refine r_aload_n (j := 0) C 67 dX2_putLoopInOrder_66 rfl rfl ?_
      refine r_aload_n (j := 1) C 68 dX2_putLoopInOrder_67 rfl rfl ?_
      refine r_get (k := 6) C cl3 71 dX2_putLoopInOrder_68 rfl kd_44 (by decide) wd_239 (.ref 50) (fun _ => rfl) ?_
      refine r_iload (j := 3) C 73 dX2_putLoopInOrder_71 rfl rfl ?_
      obtain ⟨o73, h⟩ := h
      refine r_iald C 74 dX2_putLoopInOrder_73 rfl kd_50 o73 ?_
      refine r_iload_n (j := 2) C 75 dX2_putLoopInOrder_74 rfl rfl ?_
      refine r_cVI (as := [.int (σ.1 50 i4.toNatClampNeg), .int i3]) (S := []) C r.px 78 (ct_X2_putInOrder _ _ _ _ _ _ h) dX2_putLoopInOrder_75 rfl cl4 (sta0 ht) wd_14 wd_519 rfl wd_517 wd_520 wd_93 yd_X2_putInOrder ⟨Nat.le_of_ble_eq_true rfl, Nat.le_of_ble_eq_true rfl⟩ (Nat.le_of_ble_eq_true rfl) (by decide) (fun r75 σ75 h => ?_)
      refine r_istore_n C 79 [(3, .int r75), (0, .ref t), (1, .ref 44), (4, .int i4)] dX2_putLoopInOrder_78 rfl (by decide) rfl ?_
      obtain ⟨v79, e79⟩ : ∃ y : Int32, y = i4 + (-1) := ⟨_, rfl⟩
      have h := h v79 e79
      refine r_iinc (j := 3) C 82 [(4, .int v79), (3, .int r75), (0, .ref t), (1, .ref 44)] dX2_putLoopInOrder_79 rfl rfl (by rw [e79]; rfl) (by decide) rfl ?_
      refine r_goto C 51 dX2_putLoopInOrder_82 (by decide) ?_
      exact Ws_pick [2, 3, 1, 0] rfl h
theorem vc_X2_putLoopInOrder {x : Ctx} {K : Int32 → Mem → Prop} {X : String → Mem → Prop} (C : Cx x RX2 cX2_putLoopInOrder 5) (r : RtI x 2 0 (some .int) K X) (t : Nat) (p1 : Int32) (σ : Mem) (h : sp_X2_putLoopInOrder t p1 σ K X) : Ws x 0 0 [(0, .ref t), (1, .ref 44), (2, .int p1)] [] σ := by
  obtain ⟨ht, g, c, f, W, hg, hS, hf, hrow, cpos, hW1, hW2, hW3, hW4, hW5, e1, hK⟩ := h
  have hP := hg.1
  have hT := bfs_tre hg (by decide : 0 < 10)
  have ht2 := staA_is ht
  have hL := hS.1.1
  generalize bfs g 0 = L at hT hS hL hW3 hK
  have hle := hL.le hT
  have n10 : ∀ i, i < c.1 → c.2.1 i < 10 := fun i hi => hT.lt (hL.2.2.2.1 i hi)
  have c44 : ∀ τ : Mem, Ch (t + 5) (t + 5) σ τ → τ.1 44 8 = nI c.1 ∧ (∀ k, k < c.1 → τ.1 50 k = nI (c.2.1 k) ∧ τ.1 (t + 3) k = zI (f k)) := fun τ hc => ⟨by rw [(hc.1 44 8 (by omega)).1]; exact hS.2.1.1, fun k hk => ⟨by rw [(hc.1 50 k (by omega)).1]; exact (hS.2.1.2 k hk).1, by rw [(hc.1 (t + 3) k (by omega)).1]; exact hrow k hk⟩⟩
  have lenLt : ∀ (V : List Nat) (n : Nat), V.Nodup → (∀ m, m ∈ V → m < 10) → n ∉ V → n < 10 → V.length < 10 := fun V n h1 h2 h3 h4 => by
    have := nodup_len 10 (V ++ [n]) (nodup_app h1 h3) (fun m hm => by
      rcases mem_app.mp hm with q | q
      · exact h2 m q
      · rw [q]; exact h4)
    rw [List.length_append] at this
    simp at this
    omega
  have notW : ∀ k, 0 < k → k < c.1 → c.2.1 k ∉ W := fun k k0 hk hm => (hW2 _ hm).2 ⟨k, k0, hk, rfl⟩
  have first : ∀ (V : List Nat) (n : Nat), V[0]? = W[0]? → V ≠ [] → (V ++ [n])[0]? = W[0]? := fun V n h0 hne => by
    have hp : 0 < V.length := by
      cases V with
      | nil => exact absurd rfl hne
      | cons a V => exact Nat.succ_pos _
    rw [List.getElem?_append_left hp]; exact h0
  have neW : ∀ V : List Nat, (∀ n, n ∈ W → n ∈ V) → V ≠ [] := fun V hv e => by
    have := hv _ hW4
    rw [e] at this
    exact absurd this (List.not_mem_nil)
  -- those that get water from the other side
  have H54 : ∀ (k : Nat) (τ : Mem) (V : List Nat), k < c.1 → Ch (t + 5) (t + 5) σ τ → V.Nodup → (∀ n, n ∈ V ↔ n ∈ W ∨ (∃ i, 0 < i ∧ i < c.1 ∧ 0 ≤ f i ∧ c.2.1 i = n) ∨ (∃ i, k < i ∧ i < c.1 ∧ f i < 0 ∧ c.2.1 i = n)) → OrdW L c f V → RowW (t + 5) V τ → V[0]? = W[0]? → Ws x 0 51 [(0, .ref t), (1, .ref 44), (3, .int (nI V.length)), (4, .int (nI k))] [] τ := by
    intro k
    induction k with
    | zero =>
      intro τ V hk hc v1 v2 v3 v4 v5
      refine sg_X2_putLoopInOrder_51 C r t _ _ ht τ ⟨fun _ => hK τ V hc v1 (fun n => ?_) v3 v4 v5, fun q => absurd (by decide) q⟩
      rw [v2]
      constructor
      · rintro (q | ⟨i, i0, i1, -, i2⟩ | ⟨i, i0, i1, -, i2⟩)
        · exact .inl q
        · exact .inr ⟨i, i0, i1, i2⟩
        · exact .inr ⟨i, i0, i1, i2⟩
      · rintro (q | ⟨i, i0, i1, i2⟩)
        · exact .inl q
        · by_cases q : 0 ≤ f i
          · exact .inr (.inl ⟨i, i0, i1, q, i2⟩)
          · exact .inr (.inr ⟨i, i0, i1, by omega, i2⟩)
    | succ k ih =>
      intro τ V hk hc v1 v2 v3 v4 v5
      obtain ⟨a1, a2⟩ := c44 τ hc
      obtain ⟨a3, a4⟩ := a2 (k + 1) hk
      have hfk := hf.2 (k + 1) hk
      have z0 : (0 : Int32) = zI 0 := rfl
      refine sg_X2_putLoopInOrder_51 C r t _ _ ht τ ⟨fun q => absurd (n_le (b := 0) (by omega) (by decide) q) (by omega), fun _ => ⟨n_inR (by omega) (by decide), ?_⟩⟩
      rw [n_cl (n := k + 1) (by omega), a4, z0, zI_le (by omega) (by omega) (by omega) (by omega), a3]
      refine ⟨fun q v85 e85 => ?_, fun q => ⟨n_inR (by omega) (by decide), ?_⟩⟩
      · rw [e85, pk_m1]
        refine ih τ V (by omega) hc v1 (fun n => ?_) v3 v4 v5
        rw [v2]
        constructor
        · rintro (z | z | ⟨i, i0, i1, i2, i3⟩)
          · exact .inl z
          · exact .inr (.inl z)
          · exact .inr (.inr ⟨i, by omega, i1, i2, i3⟩)
        · rintro (z | z | ⟨i, i0, i1, i2, i3⟩)
          · exact .inl z
          · exact .inr (.inl z)
          · refine .inr (.inr ⟨i, ?_, i1, i2, i3⟩)
            have : i ≠ k + 1 := fun e => by rw [e] at i2; omega
            omega
      · have hnot : c.2.1 (k + 1) ∉ V := fun hm => by
          rcases (v2 _).mp hm with z | ⟨i, i0, i1, i2, i3⟩ | ⟨i, i0, i1, i2, i3⟩
          · exact notW (k + 1) (by omega) hk z
          · have := hL.1 i (k + 1) i1 hk i3
            rw [this] at i2; omega
          · have := hL.1 i (k + 1) i1 hk i3
            omega
        have hlt : V.length < 10 := lenLt V _ v1 (fun m hm => by
          rcases (v2 m).mp hm with z | ⟨i, i0, i1, i2, i3⟩ | ⟨i, i0, i1, i2, i3⟩
          · exact (hW2 m z).1
          · rw [← i3]; exact n10 i i1
          · rw [← i3]; exact n10 i i1) hnot (n10 _ hk)
        refine i_X2_putInOrder ht hlt (fun v85 e85 => ?_)
        generalize e81' : wi τ (t + 5) V.length (nI (c.2.1 (k + 1))) = σ81
        have e81 := e81'.symm
        have := ih σ81 (V ++ [c.2.1 (k + 1)]) (by omega) (by rw [e81]; exact hc.wi (Nat.le_refl _) (Nat.le_refl _)) (nodup_app v1 hnot) (fun n => ?_) (v3.app (fun e he => ?_)) (by rw [e81]; exact v4.app _) (first V _ v5 (neW V (fun n hn => (v2 n).mpr (.inl hn))))
        · rw [List.length_append] at this
          rw [e85, pk_m1]
          exact this
        · rw [mem_app, v2]
          constructor
          · rintro ((z | z | ⟨i, i0, i1, i2, i3⟩) | z)
            · exact .inl z
            · exact .inr (.inl z)
            · exact .inr (.inr ⟨i, by omega, i1, i2, i3⟩)
            · exact .inr (.inr ⟨k + 1, by omega, hk, by omega, z.symm⟩)
          · rintro (z | z | ⟨i, i0, i1, i2, i3⟩)
            · exact .inl (.inl z)
            · exact .inl (.inr (.inl z))
            · by_cases d : i = k + 1
              · right; rw [← i3, d]
              · exact .inl (.inr (.inr ⟨i, by omega, i1, i2, i3⟩))
        · rw [v2]
          rcases he with ⟨-, -, z, -⟩ | ⟨i, i0, i1, i2, z⟩
          · exact absurd ⟨k + 1, by omega, hk, rfl⟩ z
          · have ei := hL.1 (k + 1) i hk i1 i2
            subst ei
            rcases z with ⟨z1, z2⟩ | ⟨z1, z2⟩
            · rw [Nat.add_sub_cancel] at z1 z2
              by_cases k0 : k = 0
              · rw [z2, k0]; exact .inl hW4
              · rw [z2]; exact .inr (.inl ⟨k, by omega, by omega, by omega, rfl⟩)
            · unfold nxt at z2
              by_cases d : k + 1 + 1 = c.1
              · rw [if_pos d] at z2; rw [z2]; exact .inl hW4
              · rw [if_neg d] at z2
                have := hf.1 (k + 1) (k + 1 + 1) (by omega) (by omega)
                rw [z2]; exact .inr (.inr ⟨k + 1 + 1, by omega, by omega, by omega, rfl⟩)
  -- those that get water from the first pipe's side
  rw [e1]
  refine sg_X2_putLoopInOrder_0 C r t _ ht σ ?_
  have H5 := cnt c.1 (fun k (s : Mem × List Nat) => 1 ≤ k ∧ Ch (t + 5) (t + 5) σ s.1 ∧ s.2.Nodup ∧ (∀ n, n ∈ s.2 ↔ n ∈ W ∨ (∃ i, 0 < i ∧ i < k ∧ 0 ≤ f i ∧ c.2.1 i = n)) ∧ OrdW L c f s.2 ∧ RowW (t + 5) s.2 s.1 ∧ s.2[0]? = W[0]?) (fun k s => Ws x 0 5 [(0, .ref t), (1, .ref 44), (3, .int (nI s.2.length)), (4, .int (nI k))] [] s.1)
    (fun s ⟨_, hc, v1, v2, v3, v4, v5⟩ => by
      refine sg_X2_putLoopInOrder_5 C r t _ _ ht s.1 ?_
      rw [(c44 s.1 hc).1]
      refine ⟨fun _ v52 e52 => ?_, fun q => absurd (nI_le (Nat.le_refl c.1) (by omega)) q⟩
      have e52 : v52 = nI (c.1 - 1) := by
        rw [e52]
        obtain ⟨j, hj⟩ : ∃ j, c.1 = j + 1 := ⟨c.1 - 1, by omega⟩
        rw [hj, nI_pred]; rfl
      rw [e52]
      refine H54 (c.1 - 1) s.1 s.2 (by omega) hc v1 (fun n => ?_) v3 v4 v5
      rw [v2]
      constructor
      · rintro (z | z)
        · exact .inl z
        · exact .inr (.inl z)
      · rintro (z | z | ⟨i, i0, i1, -, -⟩)
        · exact .inl z
        · exact .inr z
        · omega)
    (fun k s hk ⟨k1, hc, v1, v2, v3, v4, v5⟩ ih => by
      obtain ⟨τ, V⟩ := s
      have hc : Ch (t + 5) (t + 5) σ τ := hc
      have v1 : V.Nodup := v1
      have v2 : ∀ n, n ∈ V ↔ n ∈ W ∨ (∃ i, 0 < i ∧ i < k ∧ 0 ≤ f i ∧ c.2.1 i = n) := v2
      have v4 : RowW (t + 5) V τ := v4
      obtain ⟨a1, a2⟩ := c44 τ hc
      obtain ⟨a3, a4⟩ := a2 k hk
      have hfk := hf.2 k hk
      have z0 : (0 : Int32) = zI 0 := rfl
      refine sg_X2_putLoopInOrder_5 C r t _ _ ht τ ?_
      rw [a1, n_cl (n := k) (by omega), a4, z0, zI_lt (by omega) (by omega) (by omega) (by omega), a3]
      refine ⟨fun q => absurd (n_le (by omega) (by omega) q) (by omega), fun _ => ⟨n_inR (by omega) (by decide), fun q v40 e40 => ?_, fun q => ⟨n_inR (by omega) (by decide), ?_⟩⟩⟩
      · rw [e40, nI_1]
        refine ih (τ, V) ⟨by omega, hc, v1, fun n => ?_, v3, v4, v5⟩
        show n ∈ V ↔ _
        rw [v2]
        constructor
        · rintro (z | ⟨i, i0, i1, i2, i3⟩)
          · exact .inl z
          · exact .inr ⟨i, i0, by omega, i2, i3⟩
        · rintro (z | ⟨i, i0, i1, i2, i3⟩)
          · exact .inl z
          · refine .inr ⟨i, i0, ?_, i2, i3⟩
            have : i ≠ k := fun e => by rw [e] at i2; omega
            omega
      · have hnot : c.2.1 k ∉ V := fun hm => by
          rcases (v2 _).mp hm with z | ⟨i, i0, i1, i2, i3⟩
          · exact notW k (by omega) hk z
          · have := hL.1 i k (by omega) hk i3
            omega
        have hlt : V.length < 10 := lenLt V _ v1 (fun m hm => by
          rcases (v2 m).mp hm with z | ⟨i, i0, i1, i2, i3⟩
          · exact (hW2 m z).1
          · rw [← i3]; exact n10 i (by omega)) hnot (n10 _ hk)
        refine i_X2_putInOrder ht hlt (fun v40 e40 => ?_)
        generalize e36' : wi τ (t + 5) V.length (nI (c.2.1 k)) = σ36
        have e36 := e36'.symm
        have := ih (σ36, V ++ [c.2.1 k]) ⟨by omega, by show Ch _ _ σ σ36; rw [e36]; exact hc.wi (Nat.le_refl _) (Nat.le_refl _), nodup_app v1 hnot, fun n => ?_, OrdW.app v3 (fun e he => ?_), by show RowW (t + 5) (V ++ [c.2.1 k]) σ36; rw [e36]; exact v4.app _, first V _ v5 (neW V (fun n hn => (v2 n).mpr (.inl hn)))⟩
        · have this : Ws x 0 5 [(0, .ref t), (1, .ref 44), (3, .int (nI (V ++ [c.2.1 k]).length)), (4, .int (nI (k + 1)))] [] σ36 := this
          rw [List.length_append] at this
          rw [e40, nI_1]
          exact this
        · show n ∈ V ++ [c.2.1 k] ↔ _
          rw [mem_app, v2]
          constructor
          · rintro ((z | ⟨i, i0, i1, i2, i3⟩) | z)
            · exact .inl z
            · exact .inr ⟨i, i0, by omega, i2, i3⟩
            · exact .inr ⟨k, by omega, by omega, by omega, z.symm⟩
          · rintro (z | ⟨i, i0, i1, i2, i3⟩)
            · exact .inl (.inl z)
            · by_cases d : i = k
              · right; rw [← i3, d]
              · exact .inl (.inr ⟨i, i0, by omega, i2, i3⟩)
        · show e ∈ V
          rw [v2]
          rcases he with ⟨-, -, z, -⟩ | ⟨i, i0, i1, i2, z⟩
          · exact absurd ⟨k, by omega, hk, rfl⟩ z
          · have ei := hL.1 k i hk i1 i2
            subst ei
            rcases z with ⟨z1, z2⟩ | ⟨z1, -⟩
            · by_cases k0 : k - 1 = 0
              · rw [z2, k0]; exact .inl hW4
              · rw [z2]; exact .inr ⟨k - 1, by omega, by omega, by omega, rfl⟩
            · omega) 1 (σ, W) (by omega) ⟨Nat.le_refl 1, Ch.rfl' σ, hW1, fun n => ⟨fun q => .inl q, fun q => by
        rcases q with q | ⟨i, i0, i1, -⟩
        · exact q
        · omega⟩, hW3, hW5, rfl⟩
  exact H5
theorem ct_X2_putLoopInOrder (t : Nat) (p1 : Int32) (σ : Mem) (K : Int32 → Mem → Prop) (X : String → Mem → Prop) (h : sp_X2_putLoopInOrder t p1 σ K X) : CtI yX2_putLoopInOrder cX2_putLoopInOrder 5 (some .int) 2 0 [.ref t, .ref 44, .int p1] σ K X :=
  ctI_of (by decide +kernel) (Nat.le_of_ble_eq_true rfl) (fun x C r => vc_X2_putLoopInOrder C r t p1 σ h)
/-! HeatNetwork$State.findWaterOrder(LHeatNetwork$Shape;)V: level 3, exceptions 0 -/
def sp_X2_findWaterOrder (t : Nat) (σ : Mem) (K : Mem → Prop) (X : String → Mem → Prop) : Prop := StaA t ∧ ∃ (g : Gr) (c : Lp) (f : Nat → Int), WG g ∧ Shp g (bfs g 0) c σ ∧ Fall c f ∧ (∀ k, k < c.1 → σ.1 (t + 3) k = zI (f k)) ∧ ∀ (τ : Mem) (W : List Nat), Ch (t + 5) (t + 5) σ τ → W.Nodup → (∀ n, n ∈ W ↔ n ∈ nds (bfs g 0)) → OrdW (bfs g 0) c f W → RowW (t + 5) W τ → W[0]? = some 0 → K τ
set_option maxRecDepth 4000 in
theorem sg_X2_findWaterOrder_0 {x : Ctx} {K : Mem → Prop} {X : String → Mem → Prop} (C : Cx x RX2 cX2_findWaterOrder 5) (r : RtV x 3 0 none K X) (t : Nat) (ht : StaA t) (σ : Mem) (h : Ws x 0 4 [(0, .ref t), (1, .ref 44), (2, .int 0), (3, .int 0)] [] σ) : Ws x 0 0 [(0, .ref t), (1, .ref 44)] [] σ := by
  refine r_iconst C 1 (v := 0) dX2_findWaterOrder_0 rfl (by decide) ?_
  refine r_istore_n C 2 [(2, .int 0), (0, .ref t), (1, .ref 44)] dX2_findWaterOrder_1 rfl (by decide) rfl ?_
  refine r_iconst C 3 (v := 0) dX2_findWaterOrder_2 rfl (by decide) ?_
  refine r_istore_n C 4 [(3, .int 0), (2, .int 0), (0, .ref t), (1, .ref 44)] dX2_findWaterOrder_3 rfl (by decide) rfl ?_
  exact Ws_pick [2, 3, 1, 0] rfl h
set_option maxRecDepth 4000 in
theorem sg_X2_findWaterOrder_4 {x : Ctx} {K : Mem → Prop} {X : String → Mem → Prop} (C : Cx x RX2 cX2_findWaterOrder 5) (r : RtV x 3 0 none K X) (t : Nat) (i2 : Int32) (i3 : Int32) (ht : StaA t) (σ : Mem) (h : ((σ.1 44 2) ≤ i3 → K σ) ∧ (¬ (σ.1 44 2) ≤ i3 → (vp_in i3 10) ∧ (∀ v18 : Int32, v18 = (σ.1 46 i3.toNatClampNeg) → (vp_in v18 10) ∧ ((0 ≤ (σ.1 49 v18.toNatClampNeg) → sp_X1_isLoopBeginning v18 σ (fun r41 σ41 => (r41 = 0 → ∀ v54 : Int32, v54 = i3 + 1 → Ws x 0 4 [(0, .ref t), (1, .ref 44), (2, .int i2), (3, .int v54)] [] σ41) ∧ (¬ r41 = 0 → sp_X2_putLoopInOrder t i2 σ41 (fun r50 σ50 => ∀ v54 : Int32, v54 = i3 + 1 → Ws x 0 4 [(0, .ref t), (1, .ref 44), (2, .int r50), (3, .int v54)] [] σ50) X)) X) ∧ (¬ 0 ≤ (σ.1 49 v18.toNatClampNeg) → sp_X2_putInOrder t v18 i2 σ (fun r34 σ34 => sp_X1_isLoopBeginning v18 σ34 (fun r41 σ41 => (r41 = 0 → ∀ v54 : Int32, v54 = i3 + 1 → Ws x 0 4 [(0, .ref t), (1, .ref 44), (2, .int r34), (3, .int v54)] [] σ41) ∧ (¬ r41 = 0 → sp_X2_putLoopInOrder t r34 σ41 (fun r50 σ50 => ∀ v54 : Int32, v54 = i3 + 1 → Ws x 0 4 [(0, .ref t), (1, .ref 44), (2, .int r50), (3, .int v54)] [] σ50) X)) X) X))))) : Ws x 0 4 [(0, .ref t), (1, .ref 44), (2, .int i2), (3, .int i3)] [] σ := by
  refine r_iload_n (j := 3) C 5 dX2_findWaterOrder_4 rfl rfl ?_
  refine r_aload_n (j := 1) C 6 dX2_findWaterOrder_5 rfl rfl ?_
  refine r_get (k := 2) C cl3 9 dX2_findWaterOrder_6 rfl kd_44 (by decide) wd_230 (.int (σ.1 44 2)) (fun _ => rfl) ?_
  refine r_icmp_ge C 60 12 dX2_findWaterOrder_9 (by decide) rfl (fun c9 => ?_) (fun c9 => ?_)
  · have h := h.1 c9
    exact r_vret (S := []) C r dX2_findWaterOrder_60 (by decide) h
  · have h := h.2 c9
    refine r_aload_n (j := 1) C 13 dX2_findWaterOrder_12 rfl rfl ?_
    refine r_get (k := 1) C cl3 16 dX2_findWaterOrder_13 rfl kd_44 (by decide) wd_228 (.ref 46) (fun _ => rfl) ?_
    refine r_iload_n (j := 3) C 17 dX2_findWaterOrder_16 rfl rfl ?_
    obtain ⟨o17, h⟩ := h
    refine r_iald C 18 dX2_findWaterOrder_17 rfl kd_46 o17 ?_
    refine r_nmI (fun v18 e18 => ?_)
    have h := h v18 e18
    refine r_istore C 20 [(4, .int v18), (0, .ref t), (1, .ref 44), (2, .int i2), (3, .int i3)] dX2_findWaterOrder_18 rfl (by decide) rfl ?_
    refine r_aload_n (j := 2) C 21 dX2_findWaterOrder_20 rfl rfl ?_
    refine r_get (k := 5) C cl3 24 dX2_findWaterOrder_21 rfl kd_44 (by decide) wd_237 (.ref 49) (fun _ => rfl) ?_
    refine r_iload (j := 0) C 26 dX2_findWaterOrder_24 rfl rfl ?_
    obtain ⟨o26, h⟩ := h
    refine r_iald C 27 dX2_findWaterOrder_26 rfl kd_49 o26 ?_
    refine r_if_ge C 38 30 dX2_findWaterOrder_27 (by decide) rfl (fun c27 => ?_) (fun c27 => ?_)
    · have h := h.1 c27
      refine r_aload_n (j := 2) C 39 dX2_findWaterOrder_38 rfl rfl ?_
      refine r_iload (j := 0) C 41 dX2_findWaterOrder_39 rfl rfl ?_
      refine r_cVI (as := [.int v18]) (S := []) C r.px 44 (ct_X1_isLoopBeginning _ _ _ _ h) dX2_findWaterOrder_41 rfl cl3 kd_44 wd_523 wd_522 rfl wd_521 wd_524 wd_92 yd_X1_isLoopBeginning ⟨Nat.le_of_ble_eq_true rfl, Nat.le_of_ble_eq_true rfl⟩ (Nat.le_of_ble_eq_true rfl) (by decide) (fun r41 σ41 h => ?_)
      refine r_if_eq C 54 47 dX2_findWaterOrder_44 (by decide) rfl (fun c44 => ?_) (fun c44 => ?_)
      · have h := h.1 c44
        obtain ⟨v54, e54⟩ : ∃ y : Int32, y = i3 + 1 := ⟨_, rfl⟩
        have h := h v54 e54
        refine r_iinc (j := 4) C 57 [(3, .int v54), (4, .int v18), (0, .ref t), (1, .ref 44), (2, .int i2)] dX2_findWaterOrder_54 rfl rfl (by rw [e54]; rfl) (by decide) rfl ?_
        refine r_goto C 4 dX2_findWaterOrder_57 (by decide) ?_
        exact Ws_pick [2, 3, 4, 0] rfl h
      · have h := h.2 c44
        refine r_aload_n (j := 1) C 48 dX2_findWaterOrder_47 rfl rfl ?_
        refine r_aload_n (j := 2) C 49 dX2_findWaterOrder_48 rfl rfl ?_
        refine r_iload_n (j := 3) C 50 dX2_findWaterOrder_49 rfl rfl ?_
        refine r_cVI (as := [.ref 44, .int i2]) (S := []) C r.px 53 (ct_X2_putLoopInOrder _ _ _ _ _ h) dX2_findWaterOrder_50 rfl cl4 (sta0 ht) wd_15 wd_527 rfl wd_525 wd_528 wd_93 yd_X2_putLoopInOrder ⟨Nat.le_of_ble_eq_true rfl, Nat.le_of_ble_eq_true rfl⟩ (Nat.le_of_ble_eq_true rfl) (by decide) (fun r50 σ50 h => ?_)
        refine r_istore_n C 54 [(2, .int r50), (4, .int v18), (0, .ref t), (1, .ref 44), (3, .int i3)] dX2_findWaterOrder_53 rfl (by decide) rfl ?_
        obtain ⟨v54, e54⟩ : ∃ y : Int32, y = i3 + 1 := ⟨_, rfl⟩
        have h := h v54 e54
        refine r_iinc (j := 4) C 57 [(3, .int v54), (2, .int r50), (4, .int v18), (0, .ref t), (1, .ref 44)] dX2_findWaterOrder_54 rfl rfl (by rw [e54]; rfl) (by decide) rfl ?_
        refine r_goto C 4 dX2_findWaterOrder_57 (by decide) ?_
        exact Ws_pick [3, 4, 1, 0] rfl h
    · have h := h.2 c27
      refine r_aload_n (j := 1) C 31 dX2_findWaterOrder_30 rfl rfl ?_
      refine r_iload (j := 0) C 33 dX2_findWaterOrder_31 rfl rfl ?_
      refine r_iload_n (j := 3) C 34 dX2_findWaterOrder_33 rfl rfl ?_
      refine r_cVI (as := [.int v18, .int i2]) (S := []) C r.px 37 (ct_X2_putInOrder _ _ _ _ _ _ h) dX2_findWaterOrder_34 rfl cl4 (sta0 ht) wd_14 wd_519 rfl wd_517 wd_520 wd_93 yd_X2_putInOrder ⟨Nat.le_of_ble_eq_true rfl, Nat.le_of_ble_eq_true rfl⟩ (Nat.le_of_ble_eq_true rfl) (by decide) (fun r34 σ34 h => ?_)
      refine r_istore_n C 38 [(2, .int r34), (4, .int v18), (0, .ref t), (1, .ref 44), (3, .int i3)] dX2_findWaterOrder_37 rfl (by decide) rfl ?_
      refine r_aload_n (j := 3) C 39 dX2_findWaterOrder_38 rfl rfl ?_
      refine r_iload (j := 1) C 41 dX2_findWaterOrder_39 rfl rfl ?_
      refine r_cVI (as := [.int v18]) (S := []) C r.px 44 (ct_X1_isLoopBeginning _ _ _ _ h) dX2_findWaterOrder_41 rfl cl3 kd_44 wd_523 wd_522 rfl wd_521 wd_524 wd_92 yd_X1_isLoopBeginning ⟨Nat.le_of_ble_eq_true rfl, Nat.le_of_ble_eq_true rfl⟩ (Nat.le_of_ble_eq_true rfl) (by decide) (fun r41 σ41 h => ?_)
      refine r_if_eq C 54 47 dX2_findWaterOrder_44 (by decide) rfl (fun c44 => ?_) (fun c44 => ?_)
      · have h := h.1 c44
        obtain ⟨v54, e54⟩ : ∃ y : Int32, y = i3 + 1 := ⟨_, rfl⟩
        have h := h v54 e54
        refine r_iinc (j := 4) C 57 [(3, .int v54), (2, .int r34), (4, .int v18), (0, .ref t), (1, .ref 44)] dX2_findWaterOrder_54 rfl rfl (by rw [e54]; rfl) (by decide) rfl ?_
        refine r_goto C 4 dX2_findWaterOrder_57 (by decide) ?_
        exact Ws_pick [3, 4, 1, 0] rfl h
      · have h := h.2 c44
        refine r_aload_n (j := 2) C 48 dX2_findWaterOrder_47 rfl rfl ?_
        refine r_aload_n (j := 3) C 49 dX2_findWaterOrder_48 rfl rfl ?_
        refine r_iload_n (j := 0) C 50 dX2_findWaterOrder_49 rfl rfl ?_
        refine r_cVI (as := [.ref 44, .int r34]) (S := []) C r.px 53 (ct_X2_putLoopInOrder _ _ _ _ _ h) dX2_findWaterOrder_50 rfl cl4 (sta0 ht) wd_15 wd_527 rfl wd_525 wd_528 wd_93 yd_X2_putLoopInOrder ⟨Nat.le_of_ble_eq_true rfl, Nat.le_of_ble_eq_true rfl⟩ (Nat.le_of_ble_eq_true rfl) (by decide) (fun r50 σ50 h => ?_)
        refine r_istore_n C 54 [(2, .int r50), (4, .int v18), (0, .ref t), (1, .ref 44), (3, .int i3)] dX2_findWaterOrder_53 rfl (by decide) rfl ?_
        obtain ⟨v54, e54⟩ : ∃ y : Int32, y = i3 + 1 := ⟨_, rfl⟩
        have h := h v54 e54
        refine r_iinc (j := 4) C 57 [(3, .int v54), (2, .int r50), (4, .int v18), (0, .ref t), (1, .ref 44)] dX2_findWaterOrder_54 rfl rfl (by rw [e54]; rfl) (by decide) rfl ?_
        refine r_goto C 4 dX2_findWaterOrder_57 (by decide) ?_
        exact Ws_pick [3, 4, 1, 0] rfl h
theorem vc_X2_findWaterOrder {x : Ctx} {K : Mem → Prop} {X : String → Mem → Prop} (C : Cx x RX2 cX2_findWaterOrder 5) (r : RtV x 3 0 none K X) (t : Nat) (σ : Mem) (h : sp_X2_findWaterOrder t σ K X) : Ws x 0 0 [(0, .ref t), (1, .ref 44)] [] σ := by
  obtain ⟨ht, g, c, f, hg, hS, hf, hrow, hK⟩ := h
  have hP := hg.1
  have hT := bfs_tre hg (by decide : 0 < 10)
  have ht2 := staA_is ht
  have hL := hS.1.1
  generalize hLL : bfs g 0 = L at hT hS hL hK
  have hle := hL.le hT
  have hlen := hT.1.len
  have n10 : ∀ i, i < c.1 → c.2.1 i < 10 := fun i hi => hT.lt (hL.2.2.2.1 i hi)
  refine sg_X2_findWaterOrder_0 C r t ht σ ?_
  refine cnt L.length (fun k (s : Mem × List Nat) => Ch (t + 5) (t + 5) σ s.1 ∧ s.2.Nodup ∧ (∀ n, n ∈ s.2 ↔ n ∈ nds L ∧ ((¬ inT c n ∧ ixr L n < k) ∨ (inT c n ∧ ixr L (c.2.1 0) < k))) ∧ OrdW L c f s.2 ∧ RowW (t + 5) s.2 s.1 ∧ (0 < k → s.2[0]? = some 0)) (fun k s => Ws x 0 4 [(0, .ref t), (1, .ref 44), (2, .int (nI s.2.length)), (3, .int (nI k))] [] s.1) ?_ ?_ 0 (σ, []) (Nat.zero_le _) ⟨Ch.rfl' σ, List.nodup_nil, fun n => ⟨fun q => absurd q List.not_mem_nil, fun ⟨_, q⟩ => by
    rcases q with ⟨-, q⟩ | ⟨-, q⟩
    · exact absurd q (Nat.not_lt_zero _)
    · exact absurd q (Nat.not_lt_zero _)⟩, fun i n hi => by simp at hi, fun i v hi => by simp at hi, fun q => absurd q (Nat.not_lt_zero 0)⟩
  · rintro ⟨τ, V⟩ ⟨hc, v1, v2, v3, v4, v5⟩
    have hpos : 0 < L.length := (List.getElem?_eq_some_iff.mp hT.2.1.1).1
    refine sg_X2_findWaterOrder_4 C r t _ _ ht τ ?_
    have hc : Ch (t + 5) (t + 5) σ τ := hc
    rw [(hc.1 44 2 (by omega)).1, hS.2.2.2.1]
    refine ⟨fun _ => hK τ V hc v1 (fun n => ?_) v3 v4 (v5 hpos), fun q => absurd (nI_le (Nat.le_refl L.length) (by omega)) q⟩
    have v2 : ∀ n, n ∈ V ↔ n ∈ nds L ∧ ((¬ inT c n ∧ ixr L n < L.length) ∨ (inT c n ∧ ixr L (c.2.1 0) < L.length)) := v2
    rw [v2]
    refine ⟨fun q => q.1, fun q => ⟨q, ?_⟩⟩
    by_cases z : inT c n
    · exact .inr ⟨z, ixr_lt hT (chain_ix hT hL hg z).2.2.1⟩
    · exact .inl ⟨z, ixr_lt hT q⟩
  · rintro k ⟨τ, V⟩ hk ⟨hc, v1, v2, v3, v4, v5⟩ ih
    have hc : Ch (t + 5) (t + 5) σ τ := hc
    have v1 : V.Nodup := v1
    have v2 : ∀ n, n ∈ V ↔ n ∈ nds L ∧ ((¬ inT c n ∧ ixr L n < k) ∨ (inT c n ∧ ixr L (c.2.1 0) < k)) := v2
    have v3 : OrdW L c f V := v3
    have v4 : RowW (t + 5) V τ := v4
    have v5 : 0 < k → V[0]? = some 0 := v5
    have hm := ndAt_mem hk
    have him := ix_ndAt hT hk
    have e46 : τ.1 46 k = nI (ndAt L k) := by
      rw [(hc.1 46 _ (by omega)).1, hS.2.2.2.2.2.1 k _ (List.getElem?_eq_getElem hk), ndAt_some (List.getElem?_eq_getElem hk)]
    generalize ndAt L k = m at hm him e46
    have m10 := hT.lt hm
    have hS' := hS.ch hc (by omega)
    -- the loop's beginning
    have beg : ∀ (υ : Mem) (V' : List Nat), Ch (t + 5) (t + 5) σ υ → V'.Nodup → (∀ n, n ∈ V' ↔ n ∈ nds L ∧ ((¬ inT c n ∧ ixr L n < k + 1) ∨ (inT c n ∧ ixr L (c.2.1 0) < k))) → OrdW L c f V' → RowW (t + 5) V' υ → V'[0]? = some 0 → sp_X1_isLoopBeginning (nI m) υ (fun r44 σ44 => (r44 = 0 → ∀ v57 : Int32, v57 = nI k + 1 → Ws x 0 4 [(0, .ref t), (1, .ref 44), (2, .int (nI V'.length)), (3, .int v57)] [] σ44) ∧ (¬ r44 = 0 → sp_X2_putLoopInOrder t (nI V'.length) σ44 (fun r53 σ53 => ∀ v57 : Int32, v57 = nI k + 1 → Ws x 0 4 [(0, .ref t), (1, .ref 44), (2, .int r53), (3, .int v57)] [] σ53) X)) X := by
      intro υ V' hc' w1 w2 w3 w4 w5
      have hS2 := hS.ch hc' (by omega)
      have no : (¬ (0 < c.1 ∧ c.2.1 0 = m)) → ∀ v57 : Int32, v57 = nI k + 1 → Ws x 0 4 [(0, .ref t), (1, .ref 44), (2, .int (nI V'.length)), (3, .int v57)] [] υ := fun hno v e => by
        rw [e, nI_1]
        refine ih (υ, V') ⟨hc', w1, fun n => ?_, w3, w4, fun _ => w5⟩
        show n ∈ V' ↔ _
        rw [w2]
        refine and_congr_right (fun hn => or_congr_right (and_congr_right (fun z => ?_)))
        obtain ⟨i, i0, i1, -⟩ := id z
        have h0 := hL.2.2.2.1 0 (by omega)
        constructor
        · intro q; omega
        · intro q
          have : ixr L (c.2.1 0) ≠ k := fun e => hno ⟨by omega, ixr_inj hT h0 hm (by rw [e, him])⟩
          omega
      refine ⟨?_, ?_⟩
      · rw [hS2.2.1.1]
        intro q
        have c0 : c.1 = 0 := by have := n_le (b := 0) (by omega) (by decide) q; omega
        exact ⟨fun _ => no (fun w => by omega), fun w => absurd rfl w⟩
      · rw [hS2.2.1.1]
        intro q
        have cpos : 0 < c.1 := by
          apply Nat.pos_of_ne_zero
          intro e
          rw [e] at q
          exact q (by decide)
        rw [(hS2.2.1.2 0 cpos).1, nI_e10 (n10 0 cpos) m10]
        refine ⟨fun q2 => ⟨fun _ => no (fun w => q2 w.2), fun w => absurd rfl w⟩, fun q2 => ⟨fun w => absurd w (by decide), fun _ => ?_⟩⟩
        have noT : ∀ n, inT c n → n ∉ V' := fun n hn hv => by
          rcases ((w2 n).mp hv).2 with ⟨z, -⟩ | ⟨-, z⟩
          · exact z hn
          · rw [q2, him] at z; omega
        refine ⟨ht, g, c, f, V', hg, ?_, hf, fun j hj => by rw [(hc'.1 (t + 3) j (by omega)).1]; exact hrow j hj, cpos, w1, fun n hn => ⟨hT.lt ((w2 n).mp hn).1, fun z => noT n z hn⟩, ?_, ?_, w4, rfl, ?_⟩
        · rw [hLL]; exact hS2
        · rw [hLL]; exact w3
        · rw [w2]
          have h0 := hL.2.2.2.1 0 cpos
          refine ⟨h0, .inl ⟨fun ⟨i, i0, i1, i2⟩ => ?_, by rw [q2, him]; omega⟩⟩
          have := hL.1 0 i cpos i1 i2.symm
          omega
        · rw [hLL]
          intro τ' W' t1 t2 t3 t4 t5 t6 v57 e57
          rw [e57, nI_1]
          refine ih (τ', W') ⟨hc'.trans t1, t2, fun n => ?_, t4, t5, fun _ => by show W'[0]? = some 0; rw [t6]; exact w5⟩
          show n ∈ W' ↔ _
          rw [t3, w2]
          constructor
          · rintro (⟨z1, z2⟩ | z)
            · refine ⟨z1, ?_⟩
              rcases z2 with z2 | ⟨z2, z3⟩
              · exact .inl z2
              · exact .inr ⟨z2, by omega⟩
            · exact ⟨(chain_ix hT hL hg z).1, .inr ⟨z, by rw [q2, him]; omega⟩⟩
          · rintro ⟨z1, z2 | ⟨z2, -⟩⟩
            · exact .inl ⟨z1, .inl z2⟩
            · exact .inr z2
    refine sg_X2_findWaterOrder_4 C r t _ _ ht τ ?_
    rw [hS'.2.2.2.1]
    refine ⟨fun q => absurd (n_le (by omega) (by omega) q) (by omega), fun _ => ⟨n_inR (by omega) (by decide), fun v18 e18 => ?_⟩⟩
    rw [n_cl (by omega), e46] at e18
    subst e18
    rw [n_cl (n := m) (by omega)]
    have e49 : (0 ≤ τ.1 49 m) ↔ inT c m := by
      by_cases z : inT c m
      · refine ⟨fun _ => z, fun _ => ?_⟩
        obtain ⟨j, j0, j1, j2⟩ := z
        rw [← j2, (hS'.2.2.2.2.2.2.2.1 j j0 j1).2.2]
        have := (hL.2.1 j j1).1
        exact nI_pos' (by omega)
      · refine ⟨fun q => ?_, fun q => absurd q z⟩
        have : τ.1 49 m = -1 := by
          by_cases m0 : m = 0
          · rw [m0]; exact hS'.2.2.2.2.2.2.2.2.2.1
          · exact (hS'.2.2.2.2.2.2.1 m hm m0 z).2.2
        rw [this] at q
        exact absurd q (by decide)
    rw [e49]
    refine ⟨n_inR m10 (by decide), fun q => ?_, fun q => ?_⟩
    · have k0 : 0 < k := by
        obtain ⟨-, -, -, z⟩ := chain_ix hT hL hg q
        omega
      refine beg τ V hc v1 (fun n => ?_) v3 v4 (v5 k0)
      rw [v2]
      refine and_congr_right (fun hn => or_congr_left (and_congr_right (fun z => ?_)))
      constructor
      · intro w; omega
      · intro w
        have : ixr L n ≠ k := fun e => z (by rw [ixr_inj hT hn hm (by rw [e, him])]; exact q)
        omega
    · have hnot : m ∉ V := fun hv => by
        rcases ((v2 m).mp hv).2 with ⟨-, z⟩ | ⟨z, -⟩
        · omega
        · exact q z
      have hlt : V.length < 10 := by
        have := nodup_len 10 (V ++ [m]) (nodup_app v1 hnot) (fun n hn => by
          rcases mem_app.mp hn with z | z
          · exact hT.lt ((v2 n).mp z).1
          · rw [z]; exact m10)
        rw [List.length_append] at this
        simp at this
        omega
      refine i_X2_putInOrder ht hlt ?_
      generalize e37' : wi τ (t + 5) V.length (nI m) = σ37
      have e37 := e37'.symm
      rw [show V.length + 1 = (V ++ [m]).length by rw [List.length_append]; rfl]
      refine beg σ37 (V ++ [m]) (by rw [e37]; exact hc.wi (Nat.le_refl _) (Nat.le_refl _)) (nodup_app v1 hnot) (fun n => ?_) (v3.app (fun e he => ?_)) (by rw [e37]; exact v4.app m) ?_
      · rw [mem_app, v2]
        constructor
        · rintro (⟨z1, z2⟩ | z)
          · refine ⟨z1, ?_⟩
            rcases z2 with ⟨z2, z3⟩ | z2
            · exact .inl ⟨z2, by omega⟩
            · exact .inr z2
          · rw [z]; exact ⟨hm, .inl ⟨q, by omega⟩⟩
        · rintro ⟨z1, ⟨z2, z3⟩ | z2⟩
          · by_cases d : ixr L n = k
            · exact .inr (ixr_inj hT z1 hm (by rw [d, him]))
            · exact .inl ⟨z1, .inl ⟨z2, by omega⟩⟩
          · exact .inl ⟨z1, .inr z2⟩
      · rw [v2]
        rcases he with ⟨-, m0, -, z⟩ | ⟨i, i0, i1, i2, -⟩
        · have u := ixr_up hT hm m0
          rw [← z, him] at u
          have hfe := (hT.up hm m0).1
          rw [← z] at hfe
          refine ⟨hfe, ?_⟩
          by_cases y : inT c e
          · obtain ⟨-, -, -, y2⟩ := chain_ix hT hL hg y
            exact .inr ⟨y, by omega⟩
          · exact .inl ⟨y, u⟩
        · exact absurd ⟨i, i0, i1, i2.symm⟩ q
      · by_cases k0 : k = 0
        · have hV : V = [] := by
            apply List.eq_nil_iff_forall_not_mem.mpr
            intro n hn
            rcases ((v2 n).mp hn).2 with ⟨-, z⟩ | ⟨-, z⟩
            · omega
            · omega
          have : m = 0 := ixr_inj hT hm hT.src.1 (by rw [him, ixr_src hT, k0])
          rw [hV, this]; rfl
        · have h0 := v5 (by omega)
          exact get_app h0
theorem ct_X2_findWaterOrder (t : Nat) (σ : Mem) (K : Mem → Prop) (X : String → Mem → Prop) (h : sp_X2_findWaterOrder t σ K X) : CtV yX2_findWaterOrder cX2_findWaterOrder 5 none 3 0 [.ref t, .ref 44] σ K X :=
  ctV_of (by decide +kernel) (Nat.le_of_ble_eq_true rfl) (fun x C r => vc_X2_findWaterOrder C r t σ h)
