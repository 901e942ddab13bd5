/-! HeatNetwork$State.putLoopInOrder(LHeatNetwork$Shape;I)I: level 1, exceptions 0 -/
def sp_X2_putLoopInOrder (t : Nat) (p1 : Int32) (σ : Mem) (K : Int32 → Mem → Prop) (X : String → Mem → Prop) : Prop := StaA t ∧ ∃ (g : Gr) (c : Lp) (f : Nat → Int) (W : List Nat), WG g ∧ Shp g (bfs g 0) c σ ∧ Fall c f ∧ (∀ k, k < c.1 → σ.1 (t + 3) k = zI (f k)) ∧ 0 < c.1 ∧ W.Nodup ∧ (∀ n, n ∈ W → n < 10 ∧ ¬ inT c n) ∧ OrdW (bfs g 0) c f W ∧ c.2.1 0 ∈ W ∧ RowW (t + 5) W σ ∧ p1 = nI W.length ∧ ∀ (τ : Mem) (W' : List Nat), Ch (t + 5) (t + 5) σ τ → W'.Nodup → (∀ n, n ∈ W' ↔ n ∈ W ∨ inT c n) → OrdW (bfs g 0) c f W' → RowW (t + 5) W' τ → W'[0]? = W[0]? → K (nI W'.length) τ
set_option maxRecDepth 4000 in
theorem sg_X2_putLoopInOrder_0 {x : Ctx} {K : Int32 → Mem → Prop} {X : String → Mem → Prop} (C : Cx x RX2 cX2_putLoopInOrder 5) (r : RtI x 1 0 (some .int) K X) (t : Nat) (p1 : Int32) (ht : StaA t) (σ : Mem) (h : Ws x 0 5 [(0, .ref t), (1, .ref 44), (3, .int p1), (4, .int 1)] [] σ) : Ws x 0 0 [(0, .ref t), (1, .ref 44), (2, .int p1)] [] σ := by
  refine r_iload_n (j := 2) C 1 dX2_putLoopInOrder_0 rfl rfl ?_
  refine r_istore_n C 2 [(3, .int p1), (0, .ref t), (1, .ref 44), (2, .int p1)] dX2_putLoopInOrder_1 rfl (by decide) rfl ?_
  refine r_iconst C 3 (v := 1) dX2_putLoopInOrder_2 rfl (by decide) ?_
  refine r_istore C 5 [(4, .int 1), (3, .int p1), (0, .ref t), (1, .ref 44), (2, .int p1)] dX2_putLoopInOrder_3 rfl (by decide) rfl ?_
  exact Ws_pick [2, 3, 1, 0] rfl h
set_option maxRecDepth 4000 in
theorem sg_X2_putLoopInOrder_5 {x : Ctx} {K : Int32 → Mem → Prop} {X : String → Mem → Prop} (C : Cx x RX2 cX2_putLoopInOrder 5) (r : RtI x 1 0 (some .int) K X) (t : Nat) (i3 : Int32) (i4 : Int32) (ht : StaA t) (σ : Mem) (h : ((σ.1 44 8) ≤ i4 → ∀ v52 : Int32, v52 = ((σ.1 44 8) - 1) → Ws x 0 54 [(0, .ref t), (1, .ref 44), (3, .int i3), (4, .int v52)] [] σ) ∧ (¬ (σ.1 44 8) ≤ i4 → (vp_in i4 10) ∧ (((σ.1 (t + 3) i4.toNatClampNeg) < 0 → ∀ v40 : Int32, v40 = i4 + 1 → Ws x 0 5 [(0, .ref t), (1, .ref 44), (3, .int i3), (4, .int v40)] [] σ) ∧ (¬ (σ.1 (t + 3) i4.toNatClampNeg) < 0 → (vp_in i4 10) ∧ ((vp_in i3 10) ∧ (∀ σ36 : Mem, σ36 = wi σ (t + 5) i3.toNatClampNeg (σ.1 50 i4.toNatClampNeg) → ∀ v37 : Int32, v37 = i3 + 1 → ∀ v40 : Int32, v40 = i4 + 1 → Ws x 0 5 [(0, .ref t), (1, .ref 44), (3, .int v37), (4, .int v40)] [] σ36)))))) : Ws x 0 5 [(0, .ref t), (1, .ref 44), (3, .int i3), (4, .int i4)] [] σ := by
  refine r_iload (j := 3) C 7 dX2_putLoopInOrder_5 rfl rfl ?_
  refine r_aload_n (j := 1) C 8 dX2_putLoopInOrder_7 rfl rfl ?_
  refine r_get (k := 8) C cl3 11 dX2_putLoopInOrder_8 rfl kd_44 (by decide) wd_243 (.int (σ.1 44 8)) (fun _ => rfl) ?_
  refine r_icmp_ge C 46 14 dX2_putLoopInOrder_11 (by decide) rfl (fun c11 => ?_) (fun c11 => ?_)
  · have h := h.1 c11
    refine r_aload_n (j := 1) C 47 dX2_putLoopInOrder_46 rfl rfl ?_
    refine r_get (k := 8) C cl3 50 dX2_putLoopInOrder_47 rfl kd_44 (by decide) wd_243 (.int (σ.1 44 8)) (fun _ => rfl) ?_
    refine r_iconst C 51 (v := 1) dX2_putLoopInOrder_50 rfl (by decide) ?_
    refine r_isub C 52 dX2_putLoopInOrder_51 rfl ?_
    refine r_nmI (fun v52 e52 => ?_)
    have h := h v52 e52
    refine r_istore C 54 [(4, .int v52), (0, .ref t), (1, .ref 44), (3, .int i3)] dX2_putLoopInOrder_52 rfl (by decide) rfl ?_
    exact Ws_pick [1, 2, 3, 0] rfl h
  · have h := h.2 c11
    refine r_aload_n (j := 0) C 15 dX2_putLoopInOrder_14 rfl rfl ?_
    refine r_get (k := 2) C cl4 18 dX2_putLoopInOrder_15 rfl (sta0 ht) (by decide) wd_279 (.ref (t + 3)) (fun _ => rfl) ?_
    refine r_iload (j := 3) C 20 dX2_putLoopInOrder_18 rfl rfl ?_
    obtain ⟨o20, h⟩ := h
    refine r_iald C 21 dX2_putLoopInOrder_20 rfl (sta3 ht) o20 ?_
    refine r_if_lt C 40 24 dX2_putLoopInOrder_21 (by decide) rfl (fun c21 => ?_) (fun c21 => ?_)
    · have h := h.1 c21
      obtain ⟨v40, e40⟩ : ∃ y : Int32, y = i4 + 1 := ⟨_, rfl⟩
      have h := h v40 e40
      refine r_iinc (j := 3) C 43 [(4, .int v40), (0, .ref t), (1, .ref 44), (3, .int i3)] dX2_putLoopInOrder_40 rfl rfl (by rw [e40]; rfl) (by decide) rfl ?_
      refine r_goto C 5 dX2_putLoopInOrder_43 (by decide) ?_
      exact Ws_pick [1, 2, 3, 0] rfl h
    · have h := h.2 c21
      refine r_aload_n (j := 0) C 25 dX2_putLoopInOrder_24 rfl rfl ?_
      refine r_get (k := 4) C cl4 28 dX2_putLoopInOrder_25 rfl (sta0 ht) (by decide) wd_281 (.ref (t + 5)) (fun _ => rfl) ?_
      refine r_iload_n (j := 2) C 29 dX2_putLoopInOrder_28 rfl rfl ?_
      refine r_aload_n (j := 1) C 30 dX2_putLoopInOrder_29 rfl rfl ?_
      refine r_get (k := 6) C cl3 33 dX2_putLoopInOrder_30 rfl kd_44 (by decide) wd_238 (.ref 50) (fun _ => rfl) ?_
      refine r_iload (j := 3) C 35 dX2_putLoopInOrder_33 rfl rfl ?_
      obtain ⟨o35, h⟩ := h
      refine r_iald C 36 dX2_putLoopInOrder_35 rfl kd_50 o35 ?_
      obtain ⟨o36, h⟩ := h
      refine r_iast C 37 dX2_putLoopInOrder_36 rfl (sta5 ht) o36 ?_
      refine r_nmS (fun σ36 e36 => ?_)
      have h := h σ36 e36
      obtain ⟨v37, e37⟩ : ∃ y : Int32, y = i3 + 1 := ⟨_, rfl⟩
      have h := h v37 e37
      refine r_iinc (j := 2) C 40 [(3, .int v37), (0, .ref t), (1, .ref 44), (4, .int i4)] dX2_putLoopInOrder_37 rfl rfl (by rw [e37]; rfl) (by decide) rfl ?_
      obtain ⟨v40, e40⟩ : ∃ y : Int32, y = i4 + 1 := ⟨_, rfl⟩
      have h := h v40 e40
      refine r_iinc (j := 3) C 43 [(4, .int v40), (3, .int v37), (0, .ref t), (1, .ref 44)] dX2_putLoopInOrder_40 rfl rfl (by rw [e40]; rfl) (by decide) rfl ?_
      refine r_goto C 5 dX2_putLoopInOrder_43 (by decide) ?_
      exact Ws_pick [2, 3, 1, 0] rfl h
set_option maxRecDepth 4000 in
theorem sg_X2_putLoopInOrder_54 {x : Ctx} {K : Int32 → Mem → Prop} {X : String → Mem → Prop} (C : Cx x RX2 cX2_putLoopInOrder 5) (r : RtI x 1 0 (some .int) K X) (t : Nat) (i3 : Int32) (i4 : Int32) (ht : StaA t) (σ : Mem) (h : (i4 ≤ 0 → K i3 σ) ∧ (¬ i4 ≤ 0 → (vp_in i4 10) ∧ ((0 ≤ (σ.1 (t + 3) i4.toNatClampNeg) → ∀ v85 : Int32, v85 = i4 + (-1) → Ws x 0 54 [(0, .ref t), (1, .ref 44), (3, .int i3), (4, .int v85)] [] σ) ∧ (¬ 0 ≤ (σ.1 (t + 3) i4.toNatClampNeg) → (vp_in i4 10) ∧ ((vp_in i3 10) ∧ (∀ σ81 : Mem, σ81 = wi σ (t + 5) i3.toNatClampNeg (σ.1 50 i4.toNatClampNeg) → ∀ v82 : Int32, v82 = i3 + 1 → ∀ v85 : Int32, v85 = i4 + (-1) → Ws x 0 54 [(0, .ref t), (1, .ref 44), (3, .int v82), (4, .int v85)] [] σ81)))))) : Ws x 0 54 [(0, .ref t), (1, .ref 44), (3, .int i3), (4, .int i4)] [] σ := by
  refine r_iload (j := 3) C 56 dX2_putLoopInOrder_54 rfl rfl ?_
  refine r_if_le C 91 59 dX2_putLoopInOrder_56 (by decide) rfl (fun c56 => ?_) (fun c56 => ?_)
  · have h := h.1 c56
    refine r_iload_n (j := 2) C 92 dX2_putLoopInOrder_91 rfl rfl ?_
    exact r_iret (S := []) C r dX2_putLoopInOrder_92 (by decide) rfl h
  · have h := h.2 c56
    refine r_aload_n (j := 0) C 60 dX2_putLoopInOrder_59 rfl rfl ?_
    refine r_get (k := 2) C cl4 63 dX2_putLoopInOrder_60 rfl (sta0 ht) (by decide) wd_279 (.ref (t + 3)) (fun _ => rfl) ?_
    refine r_iload (j := 3) C 65 dX2_putLoopInOrder_63 rfl rfl ?_
    obtain ⟨o65, h⟩ := h
    refine r_iald C 66 dX2_putLoopInOrder_65 rfl (sta3 ht) o65 ?_
    refine r_if_ge C 85 69 dX2_putLoopInOrder_66 (by decide) rfl (fun c66 => ?_) (fun c66 => ?_)
    · have h := h.1 c66
      obtain ⟨v85, e85⟩ : ∃ y : Int32, y = i4 + (-1) := ⟨_, rfl⟩
      have h := h v85 e85
      refine r_iinc (j := 3) C 88 [(4, .int v85), (0, .ref t), (1, .ref 44), (3, .int i3)] dX2_putLoopInOrder_85 rfl rfl (by rw [e85]; rfl) (by decide) rfl ?_
      refine r_goto C 54 dX2_putLoopInOrder_88 (by decide) ?_
      exact Ws_pick [1, 2, 3, 0] rfl h
    · have h := h.2 c66
      refine r_aload_n (j := 0) C 70 dX2_putLoopInOrder_69 rfl rfl ?_
      refine r_get (k := 4) C cl4 73 dX2_putLoopInOrder_70 rfl (sta0 ht) (by decide) wd_281 (.ref (t + 5)) (fun _ => rfl) ?_
      refine r_iload_n (j := 2) C 74 dX2_putLoopInOrder_73 rfl rfl ?_
      refine r_aload_n (j := 1) C 75 dX2_putLoopInOrder_74 rfl rfl ?_
      refine r_get (k := 6) C cl3 78 dX2_putLoopInOrder_75 rfl kd_44 (by decide) wd_238 (.ref 50) (fun _ => rfl) ?_
      refine r_iload (j := 3) C 80 dX2_putLoopInOrder_78 rfl rfl ?_
      obtain ⟨o80, h⟩ := h
      refine r_iald C 81 dX2_putLoopInOrder_80 rfl kd_50 o80 ?_
      obtain ⟨o81, h⟩ := h
      refine r_iast C 82 dX2_putLoopInOrder_81 rfl (sta5 ht) o81 ?_
      refine r_nmS (fun σ81 e81 => ?_)
      have h := h σ81 e81
      obtain ⟨v82, e82⟩ : ∃ y : Int32, y = i3 + 1 := ⟨_, rfl⟩
      have h := h v82 e82
      refine r_iinc (j := 2) C 85 [(3, .int v82), (0, .ref t), (1, .ref 44), (4, .int i4)] dX2_putLoopInOrder_82 rfl rfl (by rw [e82]; rfl) (by decide) rfl ?_
      obtain ⟨v85, e85⟩ : ∃ y : Int32, y = i4 + (-1) := ⟨_, rfl⟩
      have h := h v85 e85
      refine r_iinc (j := 3) C 88 [(4, .int v85), (3, .int v82), (0, .ref t), (1, .ref 44)] dX2_putLoopInOrder_85 rfl rfl (by rw [e85]; rfl) (by decide) rfl ?_
      refine r_goto C 54 dX2_putLoopInOrder_88 (by decide) ?_
      exact Ws_pick [2, 3, 1, 0] rfl h
theorem vc_X2_putLoopInOrder {x : Ctx} {K : Int32 → Mem → Prop} {X : String → Mem → Prop} (C : Cx x RX2 cX2_putLoopInOrder 5) (r : RtI x 1 0 (some .int) K X) (t : Nat) (p1 : Int32) (σ : Mem) (h : sp_X2_putLoopInOrder t p1 σ K X) : Ws x 0 0 [(0, .ref t), (1, .ref 44), (2, .int p1)] [] σ := by
  obtain ⟨ht, g, c, f, W, hg, hS, hf, hrow, cpos, hW1, hW2, hW3, hW4, hW5, e1, hK⟩ := h
  have hP := hg.1
  have hT := bfs_tre hg (by decide : 0 < 10)
  have ht2 := staA_is ht
  have hL := hS.1.1
  generalize bfs g 0 = L at hT hS hL hW3 hK
  have hle := hL.le hT
  have n10 : ∀ i, i < c.1 → c.2.1 i < 10 := fun i hi => hT.lt (hL.2.2.2.1 i hi)
  have c44 : ∀ τ : Mem, Ch (t + 5) (t + 5) σ τ → τ.1 44 8 = nI c.1 ∧ (∀ k, k < c.1 → τ.1 50 k = nI (c.2.1 k) ∧ τ.1 (t + 3) k = zI (f k)) := fun τ hc => ⟨by rw [(hc.1 44 8 (by omega)).1]; exact hS.2.1.1, fun k hk => ⟨by rw [(hc.1 50 k (by omega)).1]; exact (hS.2.1.2 k hk).1, by rw [(hc.1 (t + 3) k (by omega)).1]; exact hrow k hk⟩⟩
  have lenLt : ∀ (V : List Nat) (n : Nat), V.Nodup → (∀ m, m ∈ V → m < 10) → n ∉ V → n < 10 → V.length < 10 := fun V n h1 h2 h3 h4 => by
    have := nodup_len 10 (V ++ [n]) (nodup_app h1 h3) (fun m hm => by
      rcases mem_app.mp hm with q | q
      · exact h2 m q
      · rw [q]; exact h4)
    rw [List.length_append] at this
    simp at this
    omega
  have notW : ∀ k, 0 < k → k < c.1 → c.2.1 k ∉ W := fun k k0 hk hm => (hW2 _ hm).2 ⟨k, k0, hk, rfl⟩
  have first : ∀ (V : List Nat) (n : Nat), V[0]? = W[0]? → V ≠ [] → (V ++ [n])[0]? = W[0]? := fun V n h0 hne => by
    have hp : 0 < V.length := by
      cases V with
      | nil => exact absurd rfl hne
      | cons a V => exact Nat.succ_pos _
    rw [List.getElem?_append_left hp]; exact h0
  have neW : ∀ V : List Nat, (∀ n, n ∈ W → n ∈ V) → V ≠ [] := fun V hv e => by
    have := hv _ hW4
    rw [e] at this
    exact absurd this (List.not_mem_nil)
  -- those that get water from the other side
  have H54 : ∀ (k : Nat) (τ : Mem) (V : List Nat), k < c.1 → Ch (t + 5) (t + 5) σ τ → V.Nodup → (∀ n, n ∈ V ↔ n ∈ W ∨ (∃ i, 0 < i ∧ i < c.1 ∧ 0 ≤ f i ∧ c.2.1 i = n) ∨ (∃ i, k < i ∧ i < c.1 ∧ f i < 0 ∧ c.2.1 i = n)) → OrdW L c f V → RowW (t + 5) V τ → V[0]? = W[0]? → Ws x 0 54 [(0, .ref t), (1, .ref 44), (3, .int (nI V.length)), (4, .int (nI k))] [] τ := by
    intro k
    induction k with
    | zero =>
      intro τ V hk hc v1 v2 v3 v4 v5
      refine sg_X2_putLoopInOrder_54 C r t _ _ ht τ ⟨fun _ => hK τ V hc v1 (fun n => ?_) v3 v4 v5, fun q => absurd (by decide) q⟩
      rw [v2]
      constructor
      · rintro (q | ⟨i, i0, i1, -, i2⟩ | ⟨i, i0, i1, -, i2⟩)
        · exact .inl q
        · exact .inr ⟨i, i0, i1, i2⟩
        · exact .inr ⟨i, i0, i1, i2⟩
      · rintro (q | ⟨i, i0, i1, i2⟩)
        · exact .inl q
        · by_cases q : 0 ≤ f i
          · exact .inr (.inl ⟨i, i0, i1, q, i2⟩)
          · exact .inr (.inr ⟨i, i0, i1, by omega, i2⟩)
    | succ k ih =>
      intro τ V hk hc v1 v2 v3 v4 v5
      obtain ⟨a1, a2⟩ := c44 τ hc
      obtain ⟨a3, a4⟩ := a2 (k + 1) hk
      have hfk := hf.2 (k + 1) hk
      have z0 : (0 : Int32) = zI 0 := rfl
      refine sg_X2_putLoopInOrder_54 C r t _ _ ht τ ⟨fun q => absurd (n_le (b := 0) (by omega) (by decide) q) (by omega), fun _ => ⟨n_inR (by omega) (by decide), ?_⟩⟩
      rw [n_cl (n := k + 1) (by omega), a4, z0, zI_le (by omega) (by omega) (by omega) (by omega), a3]
      refine ⟨fun q v85 e85 => ?_, fun q => ⟨n_inR (by omega) (by decide), ?_⟩⟩
      · rw [e85, pk_m1]
        refine ih τ V (by omega) hc v1 (fun n => ?_) v3 v4 v5
        rw [v2]
        constructor
        · rintro (z | z | ⟨i, i0, i1, i2, i3⟩)
          · exact .inl z
          · exact .inr (.inl z)
          · exact .inr (.inr ⟨i, by omega, i1, i2, i3⟩)
        · rintro (z | z | ⟨i, i0, i1, i2, i3⟩)
          · exact .inl z
          · exact .inr (.inl z)
          · refine .inr (.inr ⟨i, ?_, i1, i2, i3⟩)
            have : i ≠ k + 1 := fun e => by rw [e] at i2; omega
            omega
      · have hnot : c.2.1 (k + 1) ∉ V := fun hm => by
          rcases (v2 _).mp hm with z | ⟨i, i0, i1, i2, i3⟩ | ⟨i, i0, i1, i2, i3⟩
          · exact notW (k + 1) (by omega) hk z
          · have := hL.1 i (k + 1) i1 hk i3
            rw [this] at i2; omega
          · have := hL.1 i (k + 1) i1 hk i3
            omega
        have hlt : V.length < 10 := lenLt V _ v1 (fun m hm => by
          rcases (v2 m).mp hm with z | ⟨i, i0, i1, i2, i3⟩ | ⟨i, i0, i1, i2, i3⟩
          · exact (hW2 m z).1
          · rw [← i3]; exact n10 i i1
          · rw [← i3]; exact n10 i i1) hnot (n10 _ hk)
        refine ⟨n_inR hlt (by decide), fun σ81 e81 v82 e82 v85 e85 => ?_⟩
        rw [n_cl (by omega)] at e81
        have := ih σ81 (V ++ [c.2.1 (k + 1)]) (by omega) (by rw [e81]; exact hc.wi (Nat.le_refl _) (Nat.le_refl _)) (nodup_app v1 hnot) (fun n => ?_) (v3.app (fun e he => ?_)) (by rw [e81]; exact v4.app _) (first V _ v5 (neW V (fun n hn => (v2 n).mpr (.inl hn))))
        · rw [List.length_append] at this
          rw [e82, e85, pk_m1, nI_1]
          exact this
        · rw [mem_app, v2]
          constructor
          · rintro ((z | z | ⟨i, i0, i1, i2, i3⟩) | z)
            · exact .inl z
            · exact .inr (.inl z)
            · exact .inr (.inr ⟨i, by omega, i1, i2, i3⟩)
            · exact .inr (.inr ⟨k + 1, by omega, hk, by omega, z.symm⟩)
          · rintro (z | z | ⟨i, i0, i1, i2, i3⟩)
            · exact .inl (.inl z)
            · exact .inl (.inr (.inl z))
            · by_cases d : i = k + 1
              · right; rw [← i3, d]
              · exact .inl (.inr (.inr ⟨i, by omega, i1, i2, i3⟩))
        · rw [v2]
          rcases he with ⟨-, -, z, -⟩ | ⟨i, i0, i1, i2, z⟩
          · exact absurd ⟨k + 1, by omega, hk, rfl⟩ z
          · have ei := hL.1 (k + 1) i hk i1 i2
            subst ei
            rcases z with ⟨z1, z2⟩ | ⟨z1, z2⟩
            · rw [Nat.add_sub_cancel] at z1 z2
              by_cases k0 : k = 0
              · rw [z2, k0]; exact .inl hW4
              · rw [z2]; exact .inr (.inl ⟨k, by omega, by omega, by omega, rfl⟩)
            · unfold nxt at z2
              by_cases d : k + 1 + 1 = c.1
              · rw [if_pos d] at z2; rw [z2]; exact .inl hW4
              · rw [if_neg d] at z2
                have := hf.1 (k + 1) (k + 1 + 1) (by omega) (by omega)
                rw [z2]; exact .inr (.inr ⟨k + 1 + 1, by omega, by omega, by omega, rfl⟩)
  -- those that get water from the first pipe's side
  rw [e1]
  refine sg_X2_putLoopInOrder_0 C r t _ ht σ ?_
  have H5 := cnt c.1 (fun k (s : Mem × List Nat) => 1 ≤ k ∧ Ch (t + 5) (t + 5) σ s.1 ∧ s.2.Nodup ∧ (∀ n, n ∈ s.2 ↔ n ∈ W ∨ (∃ i, 0 < i ∧ i < k ∧ 0 ≤ f i ∧ c.2.1 i = n)) ∧ OrdW L c f s.2 ∧ RowW (t + 5) s.2 s.1 ∧ s.2[0]? = W[0]?) (fun k s => Ws x 0 5 [(0, .ref t), (1, .ref 44), (3, .int (nI s.2.length)), (4, .int (nI k))] [] s.1)
    (fun s ⟨_, hc, v1, v2, v3, v4, v5⟩ => by
      refine sg_X2_putLoopInOrder_5 C r t _ _ ht s.1 ?_
      rw [(c44 s.1 hc).1]
      refine ⟨fun _ v52 e52 => ?_, fun q => absurd (nI_le (Nat.le_refl c.1) (by omega)) q⟩
      have e52 : v52 = nI (c.1 - 1) := by
        rw [e52]
        obtain ⟨j, hj⟩ : ∃ j, c.1 = j + 1 := ⟨c.1 - 1, by omega⟩
        rw [hj, nI_pred]; rfl
      rw [e52]
      refine H54 (c.1 - 1) s.1 s.2 (by omega) hc v1 (fun n => ?_) v3 v4 v5
      rw [v2]
      constructor
      · rintro (z | z)
        · exact .inl z
        · exact .inr (.inl z)
      · rintro (z | z | ⟨i, i0, i1, -, -⟩)
        · exact .inl z
        · exact .inr z
        · omega)
    (fun k s hk ⟨k1, hc, v1, v2, v3, v4, v5⟩ ih => by
      obtain ⟨τ, V⟩ := s
      have hc : Ch (t + 5) (t + 5) σ τ := hc
      have v1 : V.Nodup := v1
      have v2 : ∀ n, n ∈ V ↔ n ∈ W ∨ (∃ i, 0 < i ∧ i < k ∧ 0 ≤ f i ∧ c.2.1 i = n) := v2
      have v4 : RowW (t + 5) V τ := v4
      obtain ⟨a1, a2⟩ := c44 τ hc
      obtain ⟨a3, a4⟩ := a2 k hk
      have hfk := hf.2 k hk
      have z0 : (0 : Int32) = zI 0 := rfl
      refine sg_X2_putLoopInOrder_5 C r t _ _ ht τ ?_
      rw [a1, n_cl (n := k) (by omega), a4, z0, zI_lt (by omega) (by omega) (by omega) (by omega), a3]
      refine ⟨fun q => absurd (n_le (by omega) (by omega) q) (by omega), fun _ => ⟨n_inR (by omega) (by decide), fun q v40 e40 => ?_, fun q => ⟨n_inR (by omega) (by decide), ?_⟩⟩⟩
      · rw [e40, nI_1]
        refine ih (τ, V) ⟨by omega, hc, v1, fun n => ?_, v3, v4, v5⟩
        show n ∈ V ↔ _
        rw [v2]
        constructor
        · rintro (z | ⟨i, i0, i1, i2, i3⟩)
          · exact .inl z
          · exact .inr ⟨i, i0, by omega, i2, i3⟩
        · rintro (z | ⟨i, i0, i1, i2, i3⟩)
          · exact .inl z
          · refine .inr ⟨i, i0, ?_, i2, i3⟩
            have : i ≠ k := fun e => by rw [e] at i2; omega
            omega
      · have hnot : c.2.1 k ∉ V := fun hm => by
          rcases (v2 _).mp hm with z | ⟨i, i0, i1, i2, i3⟩
          · exact notW k (by omega) hk z
          · have := hL.1 i k (by omega) hk i3
            omega
        have hlt : V.length < 10 := lenLt V _ v1 (fun m hm => by
          rcases (v2 m).mp hm with z | ⟨i, i0, i1, i2, i3⟩
          · exact (hW2 m z).1
          · rw [← i3]; exact n10 i (by omega)) hnot (n10 _ hk)
        refine ⟨n_inR hlt (by decide), fun σ36 e36 v37 e37 v40 e40 => ?_⟩
        have e36 : σ36 = wi τ (t + 5) V.length (nI (c.2.1 k)) := by
          rw [e36]
          show wi τ (t + 5) (nI V.length).toNatClampNeg _ = _
          rw [n_cl (by omega)]
        have := ih (σ36, V ++ [c.2.1 k]) ⟨by omega, by show Ch _ _ σ σ36; rw [e36]; exact hc.wi (Nat.le_refl _) (Nat.le_refl _), nodup_app v1 hnot, fun n => ?_, OrdW.app v3 (fun e he => ?_), by show RowW (t + 5) (V ++ [c.2.1 k]) σ36; rw [e36]; exact v4.app _, first V _ v5 (neW V (fun n hn => (v2 n).mpr (.inl hn)))⟩
        · have this : Ws x 0 5 [(0, .ref t), (1, .ref 44), (3, .int (nI (V ++ [c.2.1 k]).length)), (4, .int (nI (k + 1)))] [] σ36 := this
          rw [List.length_append] at this
          rw [e37, e40, nI_1, nI_1]
          exact this
        · show n ∈ V ++ [c.2.1 k] ↔ _
          rw [mem_app, v2]
          constructor
          · rintro ((z | ⟨i, i0, i1, i2, i3⟩) | z)
            · exact .inl z
            · exact .inr ⟨i, i0, by omega, i2, i3⟩
            · exact .inr ⟨k, by omega, by omega, by omega, z.symm⟩
          · rintro (z | ⟨i, i0, i1, i2, i3⟩)
            · exact .inl (.inl z)
            · by_cases d : i = k
              · right; rw [← i3, d]
              · exact .inl (.inr ⟨i, i0, by omega, i2, i3⟩)
        · show e ∈ V
          rw [v2]
          rcases he with ⟨-, -, z, -⟩ | ⟨i, i0, i1, i2, z⟩
          · exact absurd ⟨k, by omega, hk, rfl⟩ z
          · have ei := hL.1 k i hk i1 i2
            subst ei
            rcases z with ⟨z1, z2⟩ | ⟨z1, -⟩
            · by_cases k0 : k - 1 = 0
              · rw [z2, k0]; exact .inl hW4
              · rw [z2]; exact .inr ⟨k - 1, by omega, by omega, by omega, rfl⟩
            · omega) 1 (σ, W) (by omega) ⟨Nat.le_refl 1, Ch.rfl' σ, hW1, fun n => ⟨fun q => .inl q, fun q => by
        rcases q with q | ⟨i, i0, i1, -⟩
        · exact q
        · omega⟩, hW3, hW5, rfl⟩
  exact H5
theorem ct_X2_putLoopInOrder (t : Nat) (p1 : Int32) (σ : Mem) (K : Int32 → Mem → Prop) (X : String → Mem → Prop) (h : sp_X2_putLoopInOrder t p1 σ K X) : CtI yX2_putLoopInOrder cX2_putLoopInOrder 5 (some .int) 1 0 [.ref t, .ref 44, .int p1] σ K X :=
  ctI_of (by decide +kernel) (Nat.le_of_ble_eq_true rfl) (fun x C r => vc_X2_putLoopInOrder C r t p1 σ h)
/-! HeatNetwork$State.findWaterOrder(LHeatNetwork$Shape;)V: level 2, exceptions 0 -/
def sp_X2_findWaterOrder (t : Nat) (σ : Mem) (K : Mem → Prop) (X : String → Mem → Prop) : Prop := StaA t ∧ ∃ (g : Gr) (c : Lp) (f : Nat → Int), WG g ∧ Shp g (bfs g 0) c σ ∧ Fall c f ∧ (∀ k, k < c.1 → σ.1 (t + 3) k = zI (f k)) ∧ ∀ (τ : Mem) (W : List Nat), Ch (t + 5) (t + 5) σ τ → W.Nodup → (∀ n, n ∈ W ↔ n ∈ nds (bfs g 0)) → OrdW (bfs g 0) c f W → RowW (t + 5) W τ → W[0]? = some 0 → K τ
set_option maxRecDepth 4000 in
theorem sg_X2_findWaterOrder_0 {x : Ctx} {K : Mem → Prop} {X : String → Mem → Prop} (C : Cx x RX2 cX2_findWaterOrder 5) (r : RtV x 2 0 none K X) (t : Nat) (ht : StaA t) (σ : Mem) (h : Ws x 0 4 [(0, .ref t), (1, .ref 44), (2, .int 0), (3, .int 0)] [] σ) : Ws x 0 0 [(0, .ref t), (1, .ref 44)] [] σ := by
  refine r_iconst C 1 (v := 0) dX2_findWaterOrder_0 rfl (by decide) ?_
  refine r_istore_n C 2 [(2, .int 0), (0, .ref t), (1, .ref 44)] dX2_findWaterOrder_1 rfl (by decide) rfl ?_
  refine r_iconst C 3 (v := 0) dX2_findWaterOrder_2 rfl (by decide) ?_
  refine r_istore_n C 4 [(3, .int 0), (2, .int 0), (0, .ref t), (1, .ref 44)] dX2_findWaterOrder_3 rfl (by decide) rfl ?_
  exact Ws_pick [2, 3, 1, 0] rfl h
set_option maxRecDepth 4000 in
theorem sg_X2_findWaterOrder_4 {x : Ctx} {K : Mem → Prop} {X : String → Mem → Prop} (C : Cx x RX2 cX2_findWaterOrder 5) (r : RtV x 2 0 none K X) (t : Nat) (i2 : Int32) (i3 : Int32) (ht : StaA t) (σ : Mem) (h : ((σ.1 44 2) ≤ i3 → K σ) ∧ (¬ (σ.1 44 2) ≤ i3 → (vp_in i3 10) ∧ (∀ v18 : Int32, v18 = (σ.1 46 i3.toNatClampNeg) → (vp_in v18 10) ∧ ((0 ≤ (σ.1 49 v18.toNatClampNeg) → sp_X1_isLoopBeginning v18 σ (fun r44 σ44 => (r44 = 0 → ∀ v57 : Int32, v57 = i3 + 1 → Ws x 0 4 [(0, .ref t), (1, .ref 44), (2, .int i2), (3, .int v57)] [] σ44) ∧ (¬ r44 = 0 → sp_X2_putLoopInOrder t i2 σ44 (fun r53 σ53 => ∀ v57 : Int32, v57 = i3 + 1 → Ws x 0 4 [(0, .ref t), (1, .ref 44), (2, .int r53), (3, .int v57)] [] σ53) X)) X) ∧ (¬ 0 ≤ (σ.1 49 v18.toNatClampNeg) → (vp_in i2 10) ∧ (∀ σ37 : Mem, σ37 = wi σ (t + 5) i2.toNatClampNeg v18 → ∀ v38 : Int32, v38 = i2 + 1 → sp_X1_isLoopBeginning v18 σ37 (fun r44 σ44 => (r44 = 0 → ∀ v57 : Int32, v57 = i3 + 1 → Ws x 0 4 [(0, .ref t), (1, .ref 44), (2, .int v38), (3, .int v57)] [] σ44) ∧ (¬ r44 = 0 → sp_X2_putLoopInOrder t v38 σ44 (fun r53 σ53 => ∀ v57 : Int32, v57 = i3 + 1 → Ws x 0 4 [(0, .ref t), (1, .ref 44), (2, .int r53), (3, .int v57)] [] σ53) X)) X)))))) : Ws x 0 4 [(0, .ref t), (1, .ref 44), (2, .int i2), (3, .int i3)] [] σ := by
  refine r_iload_n (j := 3) C 5 dX2_findWaterOrder_4 rfl rfl ?_
  refine r_aload_n (j := 1) C 6 dX2_findWaterOrder_5 rfl rfl ?_
  refine r_get (k := 2) C cl3 9 dX2_findWaterOrder_6 rfl kd_44 (by decide) wd_229 (.int (σ.1 44 2)) (fun _ => rfl) ?_
  refine r_icmp_ge C 63 12 dX2_findWaterOrder_9 (by decide) rfl (fun c9 => ?_) (fun c9 => ?_)
  · have h := h.1 c9
    exact r_vret (S := []) C r dX2_findWaterOrder_63 (by decide) h
  · have h := h.2 c9
    refine r_aload_n (j := 1) C 13 dX2_findWaterOrder_12 rfl rfl ?_
    refine r_get (k := 1) C cl3 16 dX2_findWaterOrder_13 rfl kd_44 (by decide) wd_227 (.ref 46) (fun _ => rfl) ?_
    refine r_iload_n (j := 3) C 17 dX2_findWaterOrder_16 rfl rfl ?_
    obtain ⟨o17, h⟩ := h
    refine r_iald C 18 dX2_findWaterOrder_17 rfl kd_46 o17 ?_
    refine r_nmI (fun v18 e18 => ?_)
    have h := h v18 e18
    refine r_istore C 20 [(4, .int v18), (0, .ref t), (1, .ref 44), (2, .int i2), (3, .int i3)] dX2_findWaterOrder_18 rfl (by decide) rfl ?_
    refine r_aload_n (j := 2) C 21 dX2_findWaterOrder_20 rfl rfl ?_
    refine r_get (k := 5) C cl3 24 dX2_findWaterOrder_21 rfl kd_44 (by decide) wd_236 (.ref 49) (fun _ => rfl) ?_
    refine r_iload (j := 0) C 26 dX2_findWaterOrder_24 rfl rfl ?_
    obtain ⟨o26, h⟩ := h
    refine r_iald C 27 dX2_findWaterOrder_26 rfl kd_49 o26 ?_
    refine r_if_ge C 41 30 dX2_findWaterOrder_27 (by decide) rfl (fun c27 => ?_) (fun c27 => ?_)
    · have h := h.1 c27
      refine r_aload_n (j := 2) C 42 dX2_findWaterOrder_41 rfl rfl ?_
      refine r_iload (j := 0) C 44 dX2_findWaterOrder_42 rfl rfl ?_
      refine r_cVI (as := [.int v18]) (S := []) C r.px 47 (ct_X1_isLoopBeginning _ _ _ _ h) dX2_findWaterOrder_44 rfl cl3 kd_44 wd_512 wd_511 rfl wd_510 wd_513 wd_91 yd_X1_isLoopBeginning ⟨Nat.le_of_ble_eq_true rfl, Nat.le_of_ble_eq_true rfl⟩ (Nat.le_of_ble_eq_true rfl) (by decide) (fun r44 σ44 h => ?_)
      refine r_if_eq C 57 50 dX2_findWaterOrder_47 (by decide) rfl (fun c47 => ?_) (fun c47 => ?_)
      · have h := h.1 c47
        obtain ⟨v57, e57⟩ : ∃ y : Int32, y = i3 + 1 := ⟨_, rfl⟩
        have h := h v57 e57
        refine r_iinc (j := 4) C 60 [(3, .int v57), (4, .int v18), (0, .ref t), (1, .ref 44), (2, .int i2)] dX2_findWaterOrder_57 rfl rfl (by rw [e57]; rfl) (by decide) rfl ?_
        refine r_goto C 4 dX2_findWaterOrder_60 (by decide) ?_
        exact Ws_pick [2, 3, 4, 0] rfl h
      · have h := h.2 c47
        refine r_aload_n (j := 1) C 51 dX2_findWaterOrder_50 rfl rfl ?_
        refine r_aload_n (j := 2) C 52 dX2_findWaterOrder_51 rfl rfl ?_
        refine r_iload_n (j := 3) C 53 dX2_findWaterOrder_52 rfl rfl ?_
        refine r_cVI (as := [.ref 44, .int i2]) (S := []) C r.px 56 (ct_X2_putLoopInOrder _ _ _ _ _ h) dX2_findWaterOrder_53 rfl cl4 (sta0 ht) wd_14 wd_516 rfl wd_514 wd_517 wd_92 yd_X2_putLoopInOrder ⟨Nat.le_of_ble_eq_true rfl, Nat.le_of_ble_eq_true rfl⟩ (Nat.le_of_ble_eq_true rfl) (by decide) (fun r53 σ53 h => ?_)
        refine r_istore_n C 57 [(2, .int r53), (4, .int v18), (0, .ref t), (1, .ref 44), (3, .int i3)] dX2_findWaterOrder_56 rfl (by decide) rfl ?_
        obtain ⟨v57, e57⟩ : ∃ y : Int32, y = i3 + 1 := ⟨_, rfl⟩
        have h := h v57 e57
        refine r_iinc (j := 4) C 60 [(3, .int v57), (2, .int r53), (4, .int v18), (0, .ref t), (1, .ref 44)] dX2_findWaterOrder_57 rfl rfl (by rw [e57]; rfl) (by decide) rfl ?_
        refine r_goto C 4 dX2_findWaterOrder_60 (by decide) ?_
        exact Ws_pick [3, 4, 1, 0] rfl h
    · have h := h.2 c27
      refine r_aload_n (j := 1) C 31 dX2_findWaterOrder_30 rfl rfl ?_
      refine r_get (k := 4) C cl4 34 dX2_findWaterOrder_31 rfl (sta0 ht) (by decide) wd_281 (.ref (t + 5)) (fun _ => rfl) ?_
      refine r_iload_n (j := 3) C 35 dX2_findWaterOrder_34 rfl rfl ?_
      refine r_iload (j := 0) C 37 dX2_findWaterOrder_35 rfl rfl ?_
      obtain ⟨o37, h⟩ := h
      refine r_iast C 38 dX2_findWaterOrder_37 rfl (sta5 ht) o37 ?_
      refine r_nmS (fun σ37 e37 => ?_)
      have h := h σ37 e37
      obtain ⟨v38, e38⟩ : ∃ y : Int32, y = i2 + 1 := ⟨_, rfl⟩
      have h := h v38 e38
      refine r_iinc (j := 3) C 41 [(2, .int v38), (4, .int v18), (0, .ref t), (1, .ref 44), (3, .int i3)] dX2_findWaterOrder_38 rfl rfl (by rw [e38]; rfl) (by decide) rfl ?_
      refine r_aload_n (j := 3) C 42 dX2_findWaterOrder_41 rfl rfl ?_
      refine r_iload (j := 1) C 44 dX2_findWaterOrder_42 rfl rfl ?_
      refine r_cVI (as := [.int v18]) (S := []) C r.px 47 (ct_X1_isLoopBeginning _ _ _ _ h) dX2_findWaterOrder_44 rfl cl3 kd_44 wd_512 wd_511 rfl wd_510 wd_513 wd_91 yd_X1_isLoopBeginning ⟨Nat.le_of_ble_eq_true rfl, Nat.le_of_ble_eq_true rfl⟩ (Nat.le_of_ble_eq_true rfl) (by decide) (fun r44 σ44 h => ?_)
      refine r_if_eq C 57 50 dX2_findWaterOrder_47 (by decide) rfl (fun c47 => ?_) (fun c47 => ?_)
      · have h := h.1 c47
        obtain ⟨v57, e57⟩ : ∃ y : Int32, y = i3 + 1 := ⟨_, rfl⟩
        have h := h v57 e57
        refine r_iinc (j := 4) C 60 [(3, .int v57), (2, .int v38), (4, .int v18), (0, .ref t), (1, .ref 44)] dX2_findWaterOrder_57 rfl rfl (by rw [e57]; rfl) (by decide) rfl ?_
        refine r_goto C 4 dX2_findWaterOrder_60 (by decide) ?_
        exact Ws_pick [3, 4, 1, 0] rfl h
      · have h := h.2 c47
        refine r_aload_n (j := 2) C 51 dX2_findWaterOrder_50 rfl rfl ?_
        refine r_aload_n (j := 3) C 52 dX2_findWaterOrder_51 rfl rfl ?_
        refine r_iload_n (j := 0) C 53 dX2_findWaterOrder_52 rfl rfl ?_
        refine r_cVI (as := [.ref 44, .int v38]) (S := []) C r.px 56 (ct_X2_putLoopInOrder _ _ _ _ _ h) dX2_findWaterOrder_53 rfl cl4 (sta0 ht) wd_14 wd_516 rfl wd_514 wd_517 wd_92 yd_X2_putLoopInOrder ⟨Nat.le_of_ble_eq_true rfl, Nat.le_of_ble_eq_true rfl⟩ (Nat.le_of_ble_eq_true rfl) (by decide) (fun r53 σ53 h => ?_)
        refine r_istore_n C 57 [(2, .int r53), (4, .int v18), (0, .ref t), (1, .ref 44), (3, .int i3)] dX2_findWaterOrder_56 rfl (by decide) rfl ?_
        obtain ⟨v57, e57⟩ : ∃ y : Int32, y = i3 + 1 := ⟨_, rfl⟩
        have h := h v57 e57
        refine r_iinc (j := 4) C 60 [(3, .int v57), (2, .int r53), (4, .int v18), (0, .ref t), (1, .ref 44)] dX2_findWaterOrder_57 rfl rfl (by rw [e57]; rfl) (by decide) rfl ?_
        refine r_goto C 4 dX2_findWaterOrder_60 (by decide) ?_
        exact Ws_pick [3, 4, 1, 0] rfl h
theorem vc_X2_findWaterOrder {x : Ctx} {K : Mem → Prop} {X : String → Mem → Prop} (C : Cx x RX2 cX2_findWaterOrder 5) (r : RtV x 2 0 none K X) (t : Nat) (σ : Mem) (h : sp_X2_findWaterOrder t σ K X) : Ws x 0 0 [(0, .ref t), (1, .ref 44)] [] σ := by
  obtain ⟨ht, g, c, f, hg, hS, hf, hrow, hK⟩ := h
  have hP := hg.1
  have hT := bfs_tre hg (by decide : 0 < 10)
  have ht2 := staA_is ht
  have hL := hS.1.1
  generalize hLL : bfs g 0 = L at hT hS hL hK
  have hle := hL.le hT
  have hlen := hT.1.len
  have n10 : ∀ i, i < c.1 → c.2.1 i < 10 := fun i hi => hT.lt (hL.2.2.2.1 i hi)
  refine sg_X2_findWaterOrder_0 C r t ht σ ?_
  refine cnt L.length (fun k (s : Mem × List Nat) => Ch (t + 5) (t + 5) σ s.1 ∧ s.2.Nodup ∧ (∀ n, n ∈ s.2 ↔ n ∈ nds L ∧ ((¬ inT c n ∧ ixr L n < k) ∨ (inT c n ∧ ixr L (c.2.1 0) < k))) ∧ OrdW L c f s.2 ∧ RowW (t + 5) s.2 s.1 ∧ (0 < k → s.2[0]? = some 0)) (fun k s => Ws x 0 4 [(0, .ref t), (1, .ref 44), (2, .int (nI s.2.length)), (3, .int (nI k))] [] s.1) ?_ ?_ 0 (σ, []) (Nat.zero_le _) ⟨Ch.rfl' σ, List.nodup_nil, fun n => ⟨fun q => absurd q List.not_mem_nil, fun ⟨_, q⟩ => by
    rcases q with ⟨-, q⟩ | ⟨-, q⟩
    · exact absurd q (Nat.not_lt_zero _)
    · exact absurd q (Nat.not_lt_zero _)⟩, fun i n hi => by simp at hi, fun i v hi => by simp at hi, fun q => absurd q (Nat.not_lt_zero 0)⟩
  · rintro ⟨τ, V⟩ ⟨hc, v1, v2, v3, v4, v5⟩
    have hpos : 0 < L.length := (List.getElem?_eq_some_iff.mp hT.2.1.1).1
    refine sg_X2_findWaterOrder_4 C r t _ _ ht τ ?_
    have hc : Ch (t + 5) (t + 5) σ τ := hc
    rw [(hc.1 44 2 (by omega)).1, hS.2.2.2.1]
    refine ⟨fun _ => hK τ V hc v1 (fun n => ?_) v3 v4 (v5 hpos), fun q => absurd (nI_le (Nat.le_refl L.length) (by omega)) q⟩
    have v2 : ∀ n, n ∈ V ↔ n ∈ nds L ∧ ((¬ inT c n ∧ ixr L n < L.length) ∨ (inT c n ∧ ixr L (c.2.1 0) < L.length)) := v2
    rw [v2]
    refine ⟨fun q => q.1, fun q => ⟨q, ?_⟩⟩
    by_cases z : inT c n
    · exact .inr ⟨z, ixr_lt hT (chain_ix hT hL hg z).2.2.1⟩
    · exact .inl ⟨z, ixr_lt hT q⟩
  · rintro k ⟨τ, V⟩ hk ⟨hc, v1, v2, v3, v4, v5⟩ ih
    have hc : Ch (t + 5) (t + 5) σ τ := hc
    have v1 : V.Nodup := v1
    have v2 : ∀ n, n ∈ V ↔ n ∈ nds L ∧ ((¬ inT c n ∧ ixr L n < k) ∨ (inT c n ∧ ixr L (c.2.1 0) < k)) := v2
    have v3 : OrdW L c f V := v3
    have v4 : RowW (t + 5) V τ := v4
    have v5 : 0 < k → V[0]? = some 0 := v5
    have hm := ndAt_mem hk
    have him := ix_ndAt hT hk
    have e46 : τ.1 46 k = nI (ndAt L k) := by
      rw [(hc.1 46 _ (by omega)).1, hS.2.2.2.2.2.1 k _ (List.getElem?_eq_getElem hk), ndAt_some (List.getElem?_eq_getElem hk)]
    generalize ndAt L k = m at hm him e46
    have m10 := hT.lt hm
    have hS' := hS.ch hc (by omega)
    -- the loop's beginning
    have beg : ∀ (υ : Mem) (V' : List Nat), Ch (t + 5) (t + 5) σ υ → V'.Nodup → (∀ n, n ∈ V' ↔ n ∈ nds L ∧ ((¬ inT c n ∧ ixr L n < k + 1) ∨ (inT c n ∧ ixr L (c.2.1 0) < k))) → OrdW L c f V' → RowW (t + 5) V' υ → V'[0]? = some 0 → sp_X1_isLoopBeginning (nI m) υ (fun r44 σ44 => (r44 = 0 → ∀ v57 : Int32, v57 = nI k + 1 → Ws x 0 4 [(0, .ref t), (1, .ref 44), (2, .int (nI V'.length)), (3, .int v57)] [] σ44) ∧ (¬ r44 = 0 → sp_X2_putLoopInOrder t (nI V'.length) σ44 (fun r53 σ53 => ∀ v57 : Int32, v57 = nI k + 1 → Ws x 0 4 [(0, .ref t), (1, .ref 44), (2, .int r53), (3, .int v57)] [] σ53) X)) X := by
      intro υ V' hc' w1 w2 w3 w4 w5
      have hS2 := hS.ch hc' (by omega)
      have no : (¬ (0 < c.1 ∧ c.2.1 0 = m)) → ∀ v57 : Int32, v57 = nI k + 1 → Ws x 0 4 [(0, .ref t), (1, .ref 44), (2, .int (nI V'.length)), (3, .int v57)] [] υ := fun hno v e => by
        rw [e, nI_1]
        refine ih (υ, V') ⟨hc', w1, fun n => ?_, w3, w4, fun _ => w5⟩
        show n ∈ V' ↔ _
        rw [w2]
        refine and_congr_right (fun hn => or_congr_right (and_congr_right (fun z => ?_)))
        obtain ⟨i, i0, i1, -⟩ := id z
        have h0 := hL.2.2.2.1 0 (by omega)
        constructor
        · intro q; omega
        · intro q
          have : ixr L (c.2.1 0) ≠ k := fun e => hno ⟨by omega, ixr_inj hT h0 hm (by rw [e, him])⟩
          omega
      refine ⟨?_, ?_⟩
      · rw [hS2.2.1.1]
        intro q
        have c0 : c.1 = 0 := by have := n_le (b := 0) (by omega) (by decide) q; omega
        exact ⟨fun _ => no (fun w => by omega), fun w => absurd rfl w⟩
      · rw [hS2.2.1.1]
        intro q
        have cpos : 0 < c.1 := by
          apply Nat.pos_of_ne_zero
          intro e
          rw [e] at q
          exact q (by decide)
        rw [(hS2.2.1.2 0 cpos).1, nI_e10 (n10 0 cpos) m10]
        refine ⟨fun q2 => ⟨fun _ => no (fun w => q2 w.2), fun w => absurd rfl w⟩, fun q2 => ⟨fun w => absurd w (by decide), fun _ => ?_⟩⟩
        have noT : ∀ n, inT c n → n ∉ V' := fun n hn hv => by
          rcases ((w2 n).mp hv).2 with ⟨z, -⟩ | ⟨-, z⟩
          · exact z hn
          · rw [q2, him] at z; omega
        refine ⟨ht, g, c, f, V', hg, ?_, hf, fun j hj => by rw [(hc'.1 (t + 3) j (by omega)).1]; exact hrow j hj, cpos, w1, fun n hn => ⟨hT.lt ((w2 n).mp hn).1, fun z => noT n z hn⟩, ?_, ?_, w4, rfl, ?_⟩
        · rw [hLL]; exact hS2
        · rw [hLL]; exact w3
        · rw [w2]
          have h0 := hL.2.2.2.1 0 cpos
          refine ⟨h0, .inl ⟨fun ⟨i, i0, i1, i2⟩ => ?_, by rw [q2, him]; omega⟩⟩
          have := hL.1 0 i cpos i1 i2.symm
          omega
        · rw [hLL]
          intro τ' W' t1 t2 t3 t4 t5 t6 v57 e57
          rw [e57, nI_1]
          refine ih (τ', W') ⟨hc'.trans t1, t2, fun n => ?_, t4, t5, fun _ => by show W'[0]? = some 0; rw [t6]; exact w5⟩
          show n ∈ W' ↔ _
          rw [t3, w2]
          constructor
          · rintro (⟨z1, z2⟩ | z)
            · refine ⟨z1, ?_⟩
              rcases z2 with z2 | ⟨z2, z3⟩
              · exact .inl z2
              · exact .inr ⟨z2, by omega⟩
            · exact ⟨(chain_ix hT hL hg z).1, .inr ⟨z, by rw [q2, him]; omega⟩⟩
          · rintro ⟨z1, z2 | ⟨z2, -⟩⟩
            · exact .inl ⟨z1, .inl z2⟩
            · exact .inr z2
    refine sg_X2_findWaterOrder_4 C r t _ _ ht τ ?_
    rw [hS'.2.2.2.1]
    refine ⟨fun q => absurd (n_le (by omega) (by omega) q) (by omega), fun _ => ⟨n_inR (by omega) (by decide), fun v18 e18 => ?_⟩⟩
    rw [n_cl (by omega), e46] at e18
    subst e18
    rw [n_cl (n := m) (by omega)]
    have e49 : (0 ≤ τ.1 49 m) ↔ inT c m := by
      by_cases z : inT c m
      · refine ⟨fun _ => z, fun _ => ?_⟩
        obtain ⟨j, j0, j1, j2⟩ := z
        rw [← j2, (hS'.2.2.2.2.2.2.2.1 j j0 j1).2.2]
        have := (hL.2.1 j j1).1
        exact nI_pos' (by omega)
      · refine ⟨fun q => ?_, fun q => absurd q z⟩
        have : τ.1 49 m = -1 := by
          by_cases m0 : m = 0
          · rw [m0]; exact hS'.2.2.2.2.2.2.2.2.2.1
          · exact (hS'.2.2.2.2.2.2.1 m hm m0 z).2.2
        rw [this] at q
        exact absurd q (by decide)
    rw [e49]
    refine ⟨n_inR m10 (by decide), fun q => ?_, fun q => ?_⟩
    · have k0 : 0 < k := by
        obtain ⟨-, -, -, z⟩ := chain_ix hT hL hg q
        omega
      refine beg τ V hc v1 (fun n => ?_) v3 v4 (v5 k0)
      rw [v2]
      refine and_congr_right (fun hn => or_congr_left (and_congr_right (fun z => ?_)))
      constructor
      · intro w; omega
      · intro w
        have : ixr L n ≠ k := fun e => z (by rw [ixr_inj hT hn hm (by rw [e, him])]; exact q)
        omega
    · have hnot : m ∉ V := fun hv => by
        rcases ((v2 m).mp hv).2 with ⟨-, z⟩ | ⟨z, -⟩
        · omega
        · exact q z
      have hlt : V.length < 10 := by
        have := nodup_len 10 (V ++ [m]) (nodup_app v1 hnot) (fun n hn => by
          rcases mem_app.mp hn with z | z
          · exact hT.lt ((v2 n).mp z).1
          · rw [z]; exact m10)
        rw [List.length_append] at this
        simp at this
        omega
      refine ⟨n_inR hlt (by decide), fun σ37 e37 v38 e38 => ?_⟩
      have e37 : σ37 = wi τ (t + 5) V.length (nI m) := by
        rw [e37]
        show wi τ (t + 5) (nI V.length).toNatClampNeg _ = _
        rw [n_cl (by omega)]
      have e38 : v38 = nI (V ++ [m]).length := by
        rw [e38, List.length_append]
        show nI V.length + 1 = _
        rw [nI_1]; rfl
      rw [e38]
      refine beg σ37 (V ++ [m]) (by rw [e37]; exact hc.wi (Nat.le_refl _) (Nat.le_refl _)) (nodup_app v1 hnot) (fun n => ?_) (v3.app (fun e he => ?_)) (by rw [e37]; exact v4.app m) ?_
      · rw [mem_app, v2]
        constructor
        · rintro (⟨z1, z2⟩ | z)
          · refine ⟨z1, ?_⟩
            rcases z2 with ⟨z2, z3⟩ | z2
            · exact .inl ⟨z2, by omega⟩
            · exact .inr z2
          · rw [z]; exact ⟨hm, .inl ⟨q, by omega⟩⟩
        · rintro ⟨z1, ⟨z2, z3⟩ | z2⟩
          · by_cases d : ixr L n = k
            · exact .inr (ixr_inj hT z1 hm (by rw [d, him]))
            · exact .inl ⟨z1, .inl ⟨z2, by omega⟩⟩
          · exact .inl ⟨z1, .inr z2⟩
      · rw [v2]
        rcases he with ⟨-, m0, -, z⟩ | ⟨i, i0, i1, i2, -⟩
        · have u := ixr_up hT hm m0
          rw [← z, him] at u
          have hfe := (hT.up hm m0).1
          rw [← z] at hfe
          refine ⟨hfe, ?_⟩
          by_cases y : inT c e
          · obtain ⟨-, -, -, y2⟩ := chain_ix hT hL hg y
            exact .inr ⟨y, by omega⟩
          · exact .inl ⟨y, u⟩
        · exact absurd ⟨i, i0, i1, i2.symm⟩ q
      · by_cases k0 : k = 0
        · have hV : V = [] := by
            apply List.eq_nil_iff_forall_not_mem.mpr
            intro n hn
            rcases ((v2 n).mp hn).2 with ⟨-, z⟩ | ⟨-, z⟩
            · omega
            · omega
          have : m = 0 := ixr_inj hT hm hT.src.1 (by rw [him, ixr_src hT, k0])
          rw [hV, this]; rfl
        · have h0 := v5 (by omega)
          exact get_app h0
theorem ct_X2_findWaterOrder (t : Nat) (σ : Mem) (K : Mem → Prop) (X : String → Mem → Prop) (h : sp_X2_findWaterOrder t σ K X) : CtV yX2_findWaterOrder cX2_findWaterOrder 5 none 2 0 [.ref t, .ref 44] σ K X :=
  ctV_of (by decide +kernel) (Nat.le_of_ble_eq_true rfl) (fun x C r => vc_X2_findWaterOrder C r t σ h)
