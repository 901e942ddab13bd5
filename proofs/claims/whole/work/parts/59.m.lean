/-! HeatNetworkModel.removePipe(I)I: level 3, exceptions 0 -/
/-- the model's pipes from place 8 + 4 p on, one pipe down, up to place k - 1 -/
def shR (σ : Mem) (p k : Nat) : Mem := (fun b j => if b = 210 ∧ 8 + 4 * p ≤ j ∧ j < k then σ.1 b (j + 4) else σ.1 b j, σ.2)
def sp_X5_removePipe (p0 : Int32) (σ : Mem) (K : Int32 → Mem → Prop) (X : String → Mem → Prop) : Prop := (¬ (¬ p0 < 0 ∧ ¬ σ.1 210 7 - 1 < p0) → K 0 (wi (wi σ 209 0 0) 209 0 1)) ∧ (¬ p0 < 0 ∧ ¬ σ.1 210 7 - 1 < p0 → sp_X5_changes (wi σ 209 0 0) (fun τ => ∃ p P : Nat, p0 = nI p ∧ p ≤ P ∧ P < 10 ∧ τ.1 210 7 = nI (P + 1) ∧ K (nI P) (wi (shR τ p (8 + 4 * P)) 210 7 (nI P))) X)
set_option maxRecDepth 4000 in
theorem sg_X5_removePipe_0 {x : Ctx} {K : Int32 → Mem → Prop} {X : String → Mem → Prop} (C : Cx x RX5 cX5_removePipe 3) (r : RtI x 3 0 (some .int) K X) (p0 : Int32)  (σ : Mem) (h : ∀ σ2 : Mem, σ2 = wi σ 209 0 0 → sp_X5_isPipe p0 σ2 (fun r7 σ7 => (¬ r7 = 0 → sp_X5_changes  σ7 (fun σ20 => ∀ v29 : Int32, v29 = (8 + (4 * p0)) → Ws x 0 30 [(0, .ref 209), (2, .int v29)] [] σ20) X) ∧ (r7 = 0 → sp_X5_raises 1 σ7 (fun r15 σ15 => K r15 σ15) X)) X) : Ws x 0 0 [(0, .ref 209), (1, .int p0)] [] σ := by
  refine r_aload_n (j := 0) C 1 dX5_removePipe_0 rfl rfl ?_
  refine r_iconst C 2 (v := 0) dX5_removePipe_1 rfl (by decide) ?_
  refine r_putI (k := 0) C cl7 5 dX5_removePipe_2 rfl kd_209 (by decide) wd_1212 rfl rfl rfl rfl ?_
  refine r_nmS (fun σ2 e2 => ?_)
  have h := h σ2 e2
  refine r_aload_n (j := 0) C 6 dX5_removePipe_5 rfl rfl ?_
  refine r_iload_n (j := 1) C 7 dX5_removePipe_6 rfl rfl ?_
  refine r_cVI (as := [.int p0]) (S := []) C r.px 10 (ct_X5_isPipe _ _ _ _ h) dX5_removePipe_7 rfl cl7 kd_209 wd_50 wd_1384 rfl wd_1382 wd_1385 wd_95 yd_X5_isPipe ⟨Nat.le_of_ble_eq_true rfl, Nat.le_of_ble_eq_true rfl⟩ (Nat.le_of_ble_eq_true rfl) (by decide) (fun r7 σ7 h => ?_)
  refine r_if_ne C 19 13 dX5_removePipe_10 (by decide) rfl (fun c10 => ?_) (fun c10 => ?_)
  · have h := h.1 c10
    refine r_aload_n (j := 0) C 20 dX5_removePipe_19 rfl rfl ?_
    refine r_cVV (as := []) (S := []) C r.px 23 (ct_X5_changes  _ _ _ h) dX5_removePipe_20 rfl cl7 kd_209 wd_41 wd_1333 rfl wd_1331 wd_1334 wd_95 yd_X5_changes ⟨Nat.le_of_ble_eq_true rfl, Nat.le_of_ble_eq_true rfl⟩ (Nat.le_of_ble_eq_true rfl) (by decide) (fun σ20 h => ?_)
    refine r_bipush C 25 (v := 8) dX5_removePipe_23 rfl (by decide) ?_
    refine r_iconst C 26 (v := 4) dX5_removePipe_25 rfl (by decide) ?_
    refine r_iload_n (j := 1) C 27 dX5_removePipe_26 rfl rfl ?_
    refine r_imul C 28 dX5_removePipe_27 rfl ?_
    refine r_iadd C 29 dX5_removePipe_28 rfl ?_
    refine r_nmI (fun v29 e29 => ?_)
    have h := h v29 e29
    refine r_istore_n C 30 [(2, .int v29), (0, .ref 209), (1, .int p0)] dX5_removePipe_29 rfl (by decide) rfl ?_
    exact Ws_pick [1, 0] rfl h
  · have h := h.2 c10
    refine r_aload_n (j := 0) C 14 dX5_removePipe_13 rfl rfl ?_
    refine r_iconst C 15 (v := 1) dX5_removePipe_14 rfl (by decide) ?_
    refine r_cVI (as := [.int 1]) (S := []) C r.px 18 (ct_X5_raises _ _ _ _ h) dX5_removePipe_15 rfl cl7 kd_209 wd_40 wd_1325 rfl wd_1323 wd_1326 wd_95 yd_X5_raises ⟨Nat.le_of_ble_eq_true rfl, Nat.le_of_ble_eq_true rfl⟩ (Nat.le_of_ble_eq_true rfl) (by decide) (fun r15 σ15 h => ?_)
    exact r_iret (S := []) C r dX5_removePipe_18 (by decide) rfl h
set_option maxRecDepth 4000 in
theorem sg_X5_removePipe_30 {x : Ctx} {K : Int32 → Mem → Prop} {X : String → Mem → Prop} (C : Cx x RX5 cX5_removePipe 3) (r : RtI x 3 0 (some .int) K X) (i2 : Int32)  (σ : Mem) (h : sp_X5_pipes  σ (fun r35 σ35 => ((8 + (4 * (r35 - 1))) ≤ i2 → ∀ σ76 : Mem, σ76 = wi σ35 210 7 ((σ35.1 210 7) - 1) → K ((σ35.1 210 7) - 1) σ76) ∧ (¬ (8 + (4 * (r35 - 1))) ≤ i2 → (vp_in (i2 + 4) 108) ∧ ((vp_in i2 108) ∧ (∀ σ58 : Mem, σ58 = wi σ35 210 i2.toNatClampNeg (σ35.1 210 ((i2 + 4)).toNatClampNeg) → ∀ v59 : Int32, v59 = i2 + 1 → Ws x 0 30 [(0, .ref 209), (2, .int v59)] [] σ58)))) X) : Ws x 0 30 [(0, .ref 209), (2, .int i2)] [] σ := by
  refine r_iload_n (j := 1) C 31 dX5_removePipe_30 rfl rfl ?_
  refine r_bipush C 33 (v := 8) dX5_removePipe_31 rfl (by decide) ?_
  refine r_iconst C 34 (v := 4) dX5_removePipe_33 rfl (by decide) ?_
  refine r_aload_n (j := 0) C 35 dX5_removePipe_34 rfl rfl ?_
  refine r_cVI (as := []) (S := [.int 4, .int 8, .int i2]) C r.px 38 (ct_X5_pipes  _ _ _ h) dX5_removePipe_35 rfl cl7 kd_209 wd_45 wd_1360 rfl wd_1358 wd_1361 wd_95 yd_X5_pipes ⟨Nat.le_of_ble_eq_true rfl, Nat.le_of_ble_eq_true rfl⟩ (Nat.le_of_ble_eq_true rfl) (by decide) (fun r35 σ35 h => ?_)
  refine r_iconst C 39 (v := 1) dX5_removePipe_38 rfl (by decide) ?_
  refine r_isub C 40 dX5_removePipe_39 rfl ?_
  refine r_imul C 41 dX5_removePipe_40 rfl ?_
  refine r_iadd C 42 dX5_removePipe_41 rfl ?_
  refine r_icmp_ge C 65 45 dX5_removePipe_42 (by decide) rfl (fun c42 => ?_) (fun c42 => ?_)
  · have h := h.1 c42
    refine r_aload_n (j := 0) C 66 dX5_removePipe_65 rfl rfl ?_
    refine r_get (k := 1) C cl7 69 dX5_removePipe_66 rfl kd_209 (by decide) wd_1213 (.ref 210) (fun _ => rfl) ?_
    refine r_bipush C 71 (v := 7) dX5_removePipe_69 rfl (by decide) ?_
    refine r_dup2 C 72 dX5_removePipe_71 rfl rfl rfl ?_
    refine r_iald C 73 dX5_removePipe_72 rfl kd_210 (n_inR (n := 7) (by decide) (by decide)) ?_
    refine r_iconst C 74 (v := 1) dX5_removePipe_73 rfl (by decide) ?_
    refine r_isub C 75 dX5_removePipe_74 rfl ?_
    refine r_dup_x2 C 76 dX5_removePipe_75 rfl rfl rfl rfl ?_
    refine r_iast C 77 dX5_removePipe_76 rfl kd_210 (n_inR (n := 7) (by decide) (by decide)) ?_
    refine r_nmS (fun σ76 e76 => ?_)
    have h := h σ76 e76
    exact r_iret (S := []) C r dX5_removePipe_77 (by decide) rfl h
  · have h := h.2 c42
    refine r_aload_n (j := 0) C 46 dX5_removePipe_45 rfl rfl ?_
    refine r_get (k := 1) C cl7 49 dX5_removePipe_46 rfl kd_209 (by decide) wd_1213 (.ref 210) (fun _ => rfl) ?_
    refine r_iload_n (j := 1) C 50 dX5_removePipe_49 rfl rfl ?_
    refine r_aload_n (j := 0) C 51 dX5_removePipe_50 rfl rfl ?_
    refine r_get (k := 1) C cl7 54 dX5_removePipe_51 rfl kd_209 (by decide) wd_1213 (.ref 210) (fun _ => rfl) ?_
    refine r_iload_n (j := 1) C 55 dX5_removePipe_54 rfl rfl ?_
    refine r_iconst C 56 (v := 4) dX5_removePipe_55 rfl (by decide) ?_
    refine r_iadd C 57 dX5_removePipe_56 rfl ?_
    obtain ⟨o57, h⟩ := h
    refine r_iald C 58 dX5_removePipe_57 rfl kd_210 o57 ?_
    obtain ⟨o58, h⟩ := h
    refine r_iast C 59 dX5_removePipe_58 rfl kd_210 o58 ?_
    refine r_nmS (fun σ58 e58 => ?_)
    have h := h σ58 e58
    obtain ⟨v59, e59⟩ : ∃ y : Int32, y = i2 + 1 := ⟨_, rfl⟩
    have h := h v59 e59
    refine r_iinc (j := 1) C 62 [(2, .int v59), (0, .ref 209)] dX5_removePipe_59 rfl rfl (by rw [e59]; rfl) (by decide) rfl ?_
    refine r_goto C 30 dX5_removePipe_62 (by decide) ?_
    exact Ws_pick [1, 0] rfl h
theorem shR_i (σ : Mem) (p k b j : Nat) : (shR σ p k).1 b j = if b = 210 ∧ 8 + 4 * p ≤ j ∧ j < k then σ.1 b (j + 4) else σ.1 b j := rfl
theorem shR_s (σ : Mem) (p k : Nat) (hp : 8 + 4 * p ≤ k) : wi (shR σ p k) 210 k (σ.1 210 (k + 4)) = shR σ p (k + 1) := by
  refine Prod.ext (funext fun b => funext fun j => ?_) rfl
  show (wi (shR σ p k) 210 k (σ.1 210 (k + 4))).1 b j = (shR σ p (k + 1)).1 b j
  rw [wi_i, shR_i, shR_i]
  by_cases q : b = 210 ∧ j = k
  · rw [if_pos q, if_pos ⟨q.1, by omega, by omega⟩, q.1, q.2]
  · rw [if_neg q]
    by_cases q2 : b = 210 ∧ 8 + 4 * p ≤ j ∧ j < k
    · rw [if_pos q2, if_pos ⟨q2.1, q2.2.1, by omega⟩]
    · rw [if_neg q2, if_neg (fun z => by omega)]
theorem shR_0 (σ : Mem) (p : Nat) : shR σ p (8 + 4 * p) = σ := by
  refine Prod.ext (funext fun b => funext fun j => ?_) rfl
  show (shR σ p (8 + 4 * p)).1 b j = σ.1 b j
  rw [shR_i, if_neg (fun z => by omega)]
theorem sp_ch_mono {σ : Mem} {K K' : Mem → Prop} {X : String → Mem → Prop} (h : sp_X5_changes σ K X) (f : ∀ τ, K τ → K' τ) : sp_X5_changes σ K' X := by
  unfold sp_X5_changes sp_X5_tries at h ⊢
  obtain ⟨u, h1, h2, h3⟩ := h
  exact ⟨u, h1, h2, f _ h3⟩
theorem vc_X5_removePipe {x : Ctx} {K : Int32 → Mem → Prop} {X : String → Mem → Prop} (C : Cx x RX5 cX5_removePipe 3) (r : RtI x 3 0 (some .int) K X) (p0 : Int32) (σ : Mem) (h : sp_X5_removePipe p0 σ K X) : Ws x 0 0 [(0, .ref 209), (1, .int p0)] [] σ := by
  obtain ⟨h0, h1⟩ := h
  refine sg_X5_removePipe_0 C r p0 σ (fun σ2 e2 => i_X5_isPipe ?_)
  have e7 : σ2.1 210 7 = σ.1 210 7 := by rw [e2, wi_i, if_neg (by decide)]
  rw [e7]
  refine ⟨fun c => ?_, fun c => i_X5_raises (by rw [e2]; exact h0 (ite00 c))⟩
  rw [e2]
  refine sp_ch_mono (h1 (ite01 c)) (fun τ hτ v29 e29 => ?_)
  obtain ⟨p, P, rfl, hpP, hP, eP, h⟩ := hτ
  rw [show (8 : Int32) + 4 * nI p = nI (8 + 4 * p) from by rw [show (8 : Int32) = nI 8 from rfl, show (4 : Int32) = nI 4 from rfl, nI_mul, nI_add]] at e29
  rw [e29]
  have er : ∀ k, (shR τ p k).1 210 7 = nI (P + 1) := fun k => by rw [shR_i, if_neg (fun z => by omega)]; exact eP
  have eE : (8 : Int32) + 4 * (nI (P + 1) - 1) = nI (8 + 4 * P) := by rw [nI_pred, show (8 : Int32) = nI 8 from rfl, show (4 : Int32) = nI 4 from rfl, nI_mul, nI_add]
  have H := cnt (8 + 4 * P) (fun k (_ : Unit) => 8 + 4 * p ≤ k) (fun k _ => Ws x 0 30 [(0, .ref 209), (2, .int (nI k))] [] (shR τ p k))
    (fun _ _ => by
      refine sg_X5_removePipe_30 C r _ _ ?_
      show ((8 + (4 * ((shR τ p (8 + 4 * P)).1 210 7 - 1))) ≤ nI (8 + 4 * P) → _) ∧ (¬ (8 + (4 * ((shR τ p (8 + 4 * P)).1 210 7 - 1))) ≤ nI (8 + 4 * P) → _)
      rw [er, eE]
      refine ⟨fun _ σ76 e76 => ?_, fun q => absurd (nI_le (Nat.le_refl _) (by omega)) q⟩
      rw [e76, nI_pred]
      exact h)
    (fun k _ hk hp ih => by
      refine sg_X5_removePipe_30 C r _ _ ?_
      show ((8 + (4 * ((shR τ p k).1 210 7 - 1))) ≤ nI k → _) ∧ (¬ (8 + (4 * ((shR τ p k).1 210 7 - 1))) ≤ nI k → _)
      rw [er, eE]
      refine ⟨fun q => absurd hk (by have := n_le (by omega) (by omega) q; omega), fun _ => ?_⟩
      rw [show nI k + 4 = nI (k + 4) from nI_add k 4, n_cl (show k < 2147483648 by omega), n_cl (show k + 4 < 2147483648 by omega)]
      refine ⟨n_inR (by omega) (by decide), n_inR (by omega) (by decide), fun σ58 e58 v e => ?_⟩
      rw [shR_i, if_neg (fun z => by omega), shR_s τ p k hp] at e58
      rw [e58, e, nI_1]
      exact ih () (by omega)) (8 + 4 * p) () (by omega) (Nat.le_refl _)
  rw [shR_0] at H
  exact H
theorem ct_X5_removePipe (p0 : Int32) (σ : Mem) (K : Int32 → Mem → Prop) (X : String → Mem → Prop) (h : sp_X5_removePipe p0 σ K X) : CtI yX5_removePipe cX5_removePipe 3 (some .int) 3 0 [.ref 209, .int p0] σ K X :=
  ctI_of (by decide +kernel) (Nat.le_of_ble_eq_true rfl) (fun x C r => vc_X5_removePipe C r p0 σ h)
