/-! HeatNetwork$Shape.follow(LHeatNetwork$Network;)V: level 6, exceptions 0 -/
/-- the shape, as the rest of the class reads it -/
def Shp (g : Gr) (L : List Rec) (c : Lp) (τ : Mem) : Prop := LPo g L c ∧ ShL c τ ∧ (∀ p, p < 10 → (τ.1 52 p ≠ 0 ↔ inQ c p)) ∧ τ.1 44 2 = nI L.length ∧ (∀ j, j < 10 → τ.1 45 j = fI (dOf L j)) ∧ (∀ (i : Nat) (r : Rec), L[i]? = some r → τ.1 46 i = nI r.1) ∧ (∀ n, n ∈ nds L → n ≠ 0 → ¬ inT c n → τ.1 47 n = nI (fe L n) ∧ τ.1 48 n = nI (fp L n) ∧ τ.1 49 n = -1) ∧ (∀ i, 0 < i → i < c.1 → τ.1 47 (c.2.1 i) = nI (c.2.1 0) ∧ τ.1 48 (c.2.1 i) = nI (c.2.2 (i - 1)) ∧ τ.1 49 (c.2.1 i) = nI (c.2.2 i)) ∧ τ.1 48 0 = -1 ∧ τ.1 49 0 = -1 ∧ τ.1 47 0 = -1
def sp_X1_follow (a : Nat) (σ : Mem) (K : Mem → Prop) (X : String → Mem → Prop) : Prop := NetA a ∧ ∃ g : Gr, WG g ∧ Own g ∧ NoPar g ∧ GC σ a g ∧ ∀ (τ : Mem) (c : Lp), Ch 44 52 σ τ → Shp g (bfs g 0) c τ → K τ
set_option maxRecDepth 4000 in
theorem sg_X1_follow_0 {x : Ctx} {K : Mem → Prop} {X : String → Mem → Prop} (C : Cx x RX1 cX1_follow 3) (r : RtV x 6 0 none K X) (a : Nat) (ha : NetA a) (σ : Mem) (h : sp_X1_findDistances a σ (fun σ2 => sp_X1_findLoop a σ2 (fun σ7 => Ws x 0 12 [(0, .ref 44), (2, .int 1)] [] σ7) X) X) : Ws x 0 0 [(0, .ref 44), (1, .ref a)] [] σ := by
  refine r_aload_n (j := 0) C 1 dX1_follow_0 rfl rfl ?_
  refine r_aload_n (j := 1) C 2 dX1_follow_1 rfl rfl ?_
  refine r_cVV (as := [.ref a]) (S := []) C r.px 5 (ct_X1_findDistances _ _ _ _ h) dX1_follow_2 rfl cl3 kd_44 wd_1 wd_419 rfl wd_417 wd_420 wd_92 yd_X1_findDistances ⟨Nat.le_of_ble_eq_true rfl, Nat.le_of_ble_eq_true rfl⟩ (Nat.le_of_ble_eq_true rfl) (by decide) (fun σ2 h => ?_)
  refine r_aload_n (j := 0) C 6 dX1_follow_5 rfl rfl ?_
  refine r_aload_n (j := 1) C 7 dX1_follow_6 rfl rfl ?_
  refine r_cVV (as := [.ref a]) (S := []) C r.px 10 (ct_X1_findLoop _ _ _ _ h) dX1_follow_7 rfl cl3 kd_44 wd_2 wd_436 rfl wd_434 wd_437 wd_92 yd_X1_findLoop ⟨Nat.le_of_ble_eq_true rfl, Nat.le_of_ble_eq_true rfl⟩ (Nat.le_of_ble_eq_true rfl) (by decide) (fun σ7 h => ?_)
  refine r_iconst C 11 (v := 1) dX1_follow_10 rfl (by decide) ?_
  refine r_istore_n C 12 [(2, .int 1), (0, .ref 44), (1, .ref a)] dX1_follow_11 rfl (by decide) rfl ?_
  exact Ws_pick [1, 0] rfl h
set_option maxRecDepth 4000 in
theorem sg_X1_follow_12 {x : Ctx} {K : Mem → Prop} {X : String → Mem → Prop} (C : Cx x RX1 cX1_follow 3) (r : RtV x 6 0 none K X) (a : Nat) (i2 : Int32) (ha : NetA a) (σ : Mem) (h : ((σ.1 44 8) ≤ i2 → K σ) ∧ (¬ (σ.1 44 8) ≤ i2 → (vp_in i2 10) ∧ ((vp_in (σ.1 50 i2.toNatClampNeg) 10) ∧ (∀ σ36 : Mem, σ36 = wi σ 47 ((σ.1 50 i2.toNatClampNeg)).toNatClampNeg (σ.1 50 0) → (vp_in i2 10) ∧ ((vp_in (i2 - 1) 10) ∧ ((vp_in (σ36.1 50 i2.toNatClampNeg) 10) ∧ (∀ σ55 : Mem, σ55 = wi σ36 48 ((σ36.1 50 i2.toNatClampNeg)).toNatClampNeg (σ36.1 51 ((i2 - 1)).toNatClampNeg) → (vp_in i2 10) ∧ ((vp_in i2 10) ∧ ((vp_in (σ55.1 50 i2.toNatClampNeg) 10) ∧ (∀ σ72 : Mem, σ72 = wi σ55 49 ((σ55.1 50 i2.toNatClampNeg)).toNatClampNeg (σ55.1 51 i2.toNatClampNeg) → ∀ v73 : Int32, v73 = i2 + 1 → Ws x 0 12 [(0, .ref 44), (2, .int v73)] [] σ72)))))))))) : Ws x 0 12 [(0, .ref 44), (2, .int i2)] [] σ := by
  refine r_iload_n (j := 1) C 13 dX1_follow_12 rfl rfl ?_
  refine r_aload_n (j := 0) C 14 dX1_follow_13 rfl rfl ?_
  refine r_get (k := 8) C cl3 17 dX1_follow_14 rfl kd_44 (by decide) wd_243 (.int (σ.1 44 8)) (fun _ => rfl) ?_
  refine r_icmp_ge C 79 20 dX1_follow_17 (by decide) rfl (fun c17 => ?_) (fun c17 => ?_)
  · have h := h.1 c17
    exact r_vret (S := []) C r dX1_follow_79 (by decide) h
  · have h := h.2 c17
    refine r_aload_n (j := 0) C 21 dX1_follow_20 rfl rfl ?_
    refine r_get (k := 3) C cl3 24 dX1_follow_21 rfl kd_44 (by decide) wd_232 (.ref 47) (fun _ => rfl) ?_
    refine r_aload_n (j := 0) C 25 dX1_follow_24 rfl rfl ?_
    refine r_get (k := 6) C cl3 28 dX1_follow_25 rfl kd_44 (by decide) wd_238 (.ref 50) (fun _ => rfl) ?_
    refine r_iload_n (j := 1) C 29 dX1_follow_28 rfl rfl ?_
    obtain ⟨o29, h⟩ := h
    refine r_iald C 30 dX1_follow_29 rfl kd_50 o29 ?_
    refine r_aload_n (j := 0) C 31 dX1_follow_30 rfl rfl ?_
    refine r_get (k := 6) C cl3 34 dX1_follow_31 rfl kd_44 (by decide) wd_238 (.ref 50) (fun _ => rfl) ?_
    refine r_iconst C 35 (v := 0) dX1_follow_34 rfl (by decide) ?_
    refine r_iald C 36 dX1_follow_35 rfl kd_50 (n_inR (n := 0) (by decide) (by decide)) ?_
    obtain ⟨o36, h⟩ := h
    refine r_iast C 37 dX1_follow_36 rfl kd_47 o36 ?_
    refine r_nmS (fun σ36 e36 => ?_)
    have h := h σ36 e36
    refine r_aload_n (j := 0) C 38 dX1_follow_37 rfl rfl ?_
    refine r_get (k := 4) C cl3 41 dX1_follow_38 rfl kd_44 (by decide) wd_234 (.ref 48) (fun _ => rfl) ?_
    refine r_aload_n (j := 0) C 42 dX1_follow_41 rfl rfl ?_
    refine r_get (k := 6) C cl3 45 dX1_follow_42 rfl kd_44 (by decide) wd_238 (.ref 50) (fun _ => rfl) ?_
    refine r_iload_n (j := 1) C 46 dX1_follow_45 rfl rfl ?_
    obtain ⟨o46, h⟩ := h
    refine r_iald C 47 dX1_follow_46 rfl kd_50 o46 ?_
    refine r_aload_n (j := 0) C 48 dX1_follow_47 rfl rfl ?_
    refine r_get (k := 7) C cl3 51 dX1_follow_48 rfl kd_44 (by decide) wd_241 (.ref 51) (fun _ => rfl) ?_
    refine r_iload_n (j := 1) C 52 dX1_follow_51 rfl rfl ?_
    refine r_iconst C 53 (v := 1) dX1_follow_52 rfl (by decide) ?_
    refine r_isub C 54 dX1_follow_53 rfl ?_
    obtain ⟨o54, h⟩ := h
    refine r_iald C 55 dX1_follow_54 rfl kd_51 o54 ?_
    obtain ⟨o55, h⟩ := h
    refine r_iast C 56 dX1_follow_55 rfl kd_48 o55 ?_
    refine r_nmS (fun σ55 e55 => ?_)
    have h := h σ55 e55
    refine r_aload_n (j := 0) C 57 dX1_follow_56 rfl rfl ?_
    refine r_get (k := 5) C cl3 60 dX1_follow_57 rfl kd_44 (by decide) wd_236 (.ref 49) (fun _ => rfl) ?_
    refine r_aload_n (j := 0) C 61 dX1_follow_60 rfl rfl ?_
    refine r_get (k := 6) C cl3 64 dX1_follow_61 rfl kd_44 (by decide) wd_238 (.ref 50) (fun _ => rfl) ?_
    refine r_iload_n (j := 1) C 65 dX1_follow_64 rfl rfl ?_
    obtain ⟨o65, h⟩ := h
    refine r_iald C 66 dX1_follow_65 rfl kd_50 o65 ?_
    refine r_aload_n (j := 0) C 67 dX1_follow_66 rfl rfl ?_
    refine r_get (k := 7) C cl3 70 dX1_follow_67 rfl kd_44 (by decide) wd_241 (.ref 51) (fun _ => rfl) ?_
    refine r_iload_n (j := 1) C 71 dX1_follow_70 rfl rfl ?_
    obtain ⟨o71, h⟩ := h
    refine r_iald C 72 dX1_follow_71 rfl kd_51 o71 ?_
    obtain ⟨o72, h⟩ := h
    refine r_iast C 73 dX1_follow_72 rfl kd_49 o72 ?_
    refine r_nmS (fun σ72 e72 => ?_)
    have h := h σ72 e72
    obtain ⟨v73, e73⟩ : ∃ y : Int32, y = i2 + 1 := ⟨_, rfl⟩
    have h := h v73 e73
    refine r_iinc (j := 1) C 76 [(2, .int v73), (0, .ref 44)] dX1_follow_73 rfl rfl (by rw [e73]; rfl) (by decide) rfl ?_
    refine r_goto C 12 dX1_follow_76 (by decide) ?_
    exact Ws_pick [1, 0] rfl h
theorem vc_X1_follow {x : Ctx} {K : Mem → Prop} {X : String → Mem → Prop} (C : Cx x RX1 cX1_follow 3) (r : RtV x 6 0 none K X) (a : Nat) (σ : Mem) (h : sp_X1_follow a σ K X) : Ws x 0 0 [(0, .ref 44), (1, .ref a)] [] σ := by
  obtain ⟨ha, g, hg, ho, hn, hG, hK⟩ := h
  have hP := hg.1
  have hT := bfs_tre hg (by decide : 0 < 10)
  have hfar := netA_far ha
  refine sg_X1_follow_0 C r a ha σ ⟨ha, g, hg, hG, fun σ2 c2 s2 => ⟨ha, g, hg, ho, hn, hG.ch c2 (by omega), s2, fun σ7 c c7 s7 hc l7 q7 => ?_⟩⟩
  generalize hLL : bfs g 0 = L at *
  have hle := hc.1.le hT
  have n10 : ∀ i, i < c.1 → c.2.1 i < 10 := fun i hi => hT.lt (hc.1.2.2.2.1 i hi)
  have p10 : ∀ i, i < c.1 → c.2.2 i < 10 := fun i hi => by have := (hc.1.2.1 i hi).1; omega
  have hC7 : Ch 44 52 σ σ7 := (c2.wider (by decide) (by decide)).trans c7
  have fin : ∀ τ : Mem, Ch 44 52 σ τ → (∀ b k, b ≠ 47 → b ≠ 48 → b ≠ 49 → τ.1 b k = σ7.1 b k) → (∀ n, n < 10 → ¬ inT c n → τ.1 47 n = σ7.1 47 n ∧ τ.1 48 n = σ7.1 48 n ∧ τ.1 49 n = σ7.1 49 n) → (∀ i, 0 < i → i < c.1 → τ.1 47 (c.2.1 i) = nI (c.2.1 0) ∧ τ.1 48 (c.2.1 i) = nI (c.2.2 (i - 1)) ∧ τ.1 49 (c.2.1 i) = nI (c.2.2 i)) → K τ := by
    intro τ h1 h2 h3 h4
    have h0T : ¬ inT c 0 := fun ⟨i, i0, i1, i2⟩ => by
      have := hc.1.2.2.2.2.1 i i0 i1
      rw [i2, hT.src.2] at this
      omega
    refine hK τ c h1 ⟨hc, ⟨by rw [h2 44 8 (by decide) (by decide) (by decide)]; exact l7.1, fun i hi => by rw [h2 50 i (by decide) (by decide) (by decide), h2 51 i (by decide) (by decide) (by decide)]; exact l7.2 i hi⟩, fun p hp => by rw [h2 52 p (by decide) (by decide) (by decide)]; exact q7 p hp, by rw [h2 44 2 (by decide) (by decide) (by decide)]; exact s7.1, fun j hj => by rw [h2 45 j (by decide) (by decide) (by decide)]; exact s7.2.1 j hj, fun i r hr => by rw [h2 46 i (by decide) (by decide) (by decide)]; exact s7.2.2.1 i r hr, fun n hn h0 ht => ?_, h4, ?_, ?_, ?_⟩
    · have n1 := hT.lt hn
      obtain ⟨a1, a2, a3⟩ := h3 n n1 ht
      rw [a1, a2, a3, s7.2.2.2.1 n n1, s7.2.2.2.2.1 n n1, s7.2.2.2.2.2 n n1, (fOf_in hT hn h0).1, (fOf_in hT hn h0).2]
      exact ⟨rfl, rfl, rfl⟩
    · rw [(h3 0 (by decide) h0T).2.1, s7.2.2.2.2.1 0 (by decide)]
      unfold pOf
      rw [if_pos rfl]; rfl
    · rw [(h3 0 (by decide) h0T).2.2]; exact s7.2.2.2.2.2 0 (by decide)
    · rw [(h3 0 (by decide) h0T).1, s7.2.2.2.1 0 (by decide)]
      unfold fOf
      rw [if_pos rfl]; rfl
  by_cases hz : c.1 = 0
  · refine sg_X1_follow_12 C r a _ ha σ7 ⟨fun _ => fin σ7 hC7 (fun _ _ _ _ _ => rfl) (fun _ _ _ => ⟨rfl, rfl, rfl⟩) (fun i _ hi => by omega), fun c => ?_⟩
    rw [l7.1, hz] at c
    exact absurd (by decide) c
  have key := cnt c.1 (fun k τ => 1 ≤ k ∧ Ch 44 52 σ τ ∧ (∀ b k, b ≠ 47 → b ≠ 48 → b ≠ 49 → τ.1 b k = σ7.1 b k) ∧ (∀ n, n < 10 → ¬ inT c n → τ.1 47 n = σ7.1 47 n ∧ τ.1 48 n = σ7.1 48 n ∧ τ.1 49 n = σ7.1 49 n) ∧ (∀ i, 0 < i → i < k → τ.1 47 (c.2.1 i) = nI (c.2.1 0) ∧ τ.1 48 (c.2.1 i) = nI (c.2.2 (i - 1)) ∧ τ.1 49 (c.2.1 i) = nI (c.2.2 i))) (fun k τ => Ws x 0 12 [(0, .ref 44), (2, .int (nI k))] [] τ)
    (fun τ hI => by
      refine sg_X1_follow_12 C r a _ ha τ ⟨fun _ => fin τ hI.2.1 hI.2.2.1 hI.2.2.2.1 hI.2.2.2.2, fun q => ?_⟩
      rw [hI.2.2.1 44 8 (by decide) (by decide) (by decide), l7.1] at q
      exact absurd (nI_le (Nat.le_refl c.1) (by omega)) q)
    (fun k τ hk hI ih => by
      obtain ⟨k1, i1, i2, i3, i4⟩ := hI
      have f50 : ∀ i, i < c.1 → τ.1 50 i = nI (c.2.1 i) := fun i hi => by rw [i2 50 i (by decide) (by decide) (by decide)]; exact (l7.2 i hi).1
      have f51 : ∀ i, i < c.1 → τ.1 51 i = nI (c.2.2 i) := fun i hi => by rw [i2 51 i (by decide) (by decide) (by decide)]; exact (l7.2 i hi).2
      have nk := n10 k hk
      have em : (nI k - 1) = nI (k - 1) := by
        obtain ⟨j, rfl⟩ : ∃ j, k = j + 1 := ⟨k - 1, by omega⟩
        rw [nI_pred]; rfl
      refine sg_X1_follow_12 C r a _ ha τ ⟨fun q => ?_, fun _ => ?_⟩
      · rw [i2 44 8 (by decide) (by decide) (by decide), l7.1] at q
        exact absurd (n_le (by omega) (by omega) q) (by omega)
      rw [n_cl (n := k) (by omega), em, n_cl (n := k - 1) (by omega), f50 k hk, n_cl (n := c.2.1 k) (by omega), f50 0 (by omega)]
      refine ⟨n_inR (by omega) (by decide), n_inR nk (by decide), fun σ36 e36 => ⟨n_inR (by omega) (by decide), n_inR (by omega) (by decide), ?_⟩⟩
      have g50 : σ36.1 50 k = nI (c.2.1 k) := by rw [e36, wi_i, if_neg (fun q => absurd q.1 (by decide))]; exact f50 k hk
      have g51 : ∀ i, i < c.1 → σ36.1 51 i = nI (c.2.2 i) := fun i hi => by rw [e36, wi_i, if_neg (fun q => absurd q.1 (by decide))]; exact f51 i hi
      rw [g50, n_cl (n := c.2.1 k) (by omega), g51 (k - 1) (by omega)]
      refine ⟨n_inR nk (by decide), fun σ55 e55 => ⟨n_inR (by omega) (by decide), n_inR (by omega) (by decide), ?_⟩⟩
      have h50 : σ55.1 50 k = nI (c.2.1 k) := by rw [e55, wi_i, if_neg (fun q => absurd q.1 (by decide))]; exact g50
      have h51 : σ55.1 51 k = nI (c.2.2 k) := by rw [e55, wi_i, if_neg (fun q => absurd q.1 (by decide))]; exact g51 k hk
      rw [h50, n_cl (n := c.2.1 k) (by omega), h51]
      refine ⟨n_inR nk (by decide), fun σ72 e72 v73 e73 => ?_⟩
      have v47 : ∀ n, σ72.1 47 n = if n = c.2.1 k then nI (c.2.1 0) else τ.1 47 n := fun n => by
        rw [e72, e55, e36, wi_i, if_neg (fun q => absurd q.1 (by decide)), wi_i, if_neg (fun q => absurd q.1 (by decide)), wi_i]
        by_cases d : n = c.2.1 k
        · rw [if_pos ⟨rfl, d⟩, if_pos d]
        · rw [if_neg (fun q => d q.2), if_neg d]
      have v48 : ∀ n, σ72.1 48 n = if n = c.2.1 k then nI (c.2.2 (k - 1)) else τ.1 48 n := fun n => by
        rw [e72, e55, e36, wi_i, if_neg (fun q => absurd q.1 (by decide)), wi_i]
        by_cases d : n = c.2.1 k
        · rw [if_pos ⟨rfl, d⟩, if_pos d]
        · rw [if_neg (fun q => d q.2), if_neg d, wi_i, if_neg (fun q => absurd q.1 (by decide))]
      have v49 : ∀ n, σ72.1 49 n = if n = c.2.1 k then nI (c.2.2 k) else τ.1 49 n := fun n => by
        rw [e72, e55, e36, wi_i]
        by_cases d : n = c.2.1 k
        · rw [if_pos ⟨rfl, d⟩, if_pos d]
        · rw [if_neg (fun q => d q.2), if_neg d, wi_i, if_neg (fun q => absurd q.1 (by decide)), wi_i, if_neg (fun q => absurd q.1 (by decide))]
      rw [e73, nI_1]
      refine ih σ72 ⟨by omega, ?_, fun b j b1 b2 b3 => ?_, fun n hn' ht => ?_, fun i hi0 hi => ?_⟩
      · rw [e72, e55, e36]
        exact ((i1.wi (by decide) (by decide)).wi (by decide) (by decide)).wi (by decide) (by decide)
      · rw [e72, e55, e36, wi_i, if_neg (fun q => b3 q.1), wi_i, if_neg (fun q => b2 q.1), wi_i, if_neg (fun q => b1 q.1)]
        exact i2 b j b1 b2 b3
      · have : n ≠ c.2.1 k := fun e => ht ⟨k, by omega, hk, e.symm⟩
        rw [v47, v48, v49, if_neg this, if_neg this, if_neg this]
        exact i3 n hn' ht
      · rw [v47, v48, v49]
        by_cases d : i = k
        · rw [d, if_pos rfl, if_pos rfl, if_pos rfl]; exact ⟨rfl, rfl, rfl⟩
        · have : c.2.1 i ≠ c.2.1 k := fun e => d (hc.1.1 i k (by omega) hk e)
          rw [if_neg this, if_neg this, if_neg this]
          exact i4 i hi0 (by omega)) 1 σ7 (by omega) ⟨Nat.le_refl 1, hC7, fun _ _ _ _ _ => rfl, fun _ _ _ => ⟨rfl, rfl, rfl⟩, fun i h0 h1 => by omega⟩
  exact key
theorem ct_X1_follow (a : Nat) (σ : Mem) (K : Mem → Prop) (X : String → Mem → Prop) (h : sp_X1_follow a σ K X) : CtV yX1_follow cX1_follow 3 none 6 0 [.ref 44, .ref a] σ K X :=
  ctV_of (by decide +kernel) (Nat.le_of_ble_eq_true rfl) (fun x C r => vc_X1_follow C r a σ h)
