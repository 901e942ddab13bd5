/-! HeatNetwork$Network.pipesWithin(I)I: level 1, exceptions 0 -/
def pwB (σ : Mem) (a : Nat) (s : Int32) (p : Nat) : Bool := decide (¬ (s &&& (1 <<< (σ.1 (a + 2) p &&& 31))) = 0)
def sp_X0_pipesWithin (a : Nat) (p0 : Int32) (σ : Mem) (K : Int32 → Mem → Prop) (X : String → Mem → Prop) : Prop := NetA a ∧ ∃ n : Nat, n ≤ 10 ∧ σ.1 a 1 = nI n ∧ K (nI (ctB (pwB σ a p0) n)) σ
set_option maxRecDepth 4000 in
theorem sg_X0_pipesWithin_0 {x : Ctx} {K : Int32 → Mem → Prop} {X : String → Mem → Prop} (C : Cx x RX0 cX0_pipesWithin 4) (r : RtI x 1 0 (some .int) K X) (a : Nat) (p0 : Int32) (ha : NetA a) (σ : Mem) (h : Ws x 0 4 [(0, .ref a), (1, .int p0), (2, .int 0), (3, .int 0)] [] σ) : Ws x 0 0 [(0, .ref a), (1, .int p0)] [] σ := by
  refine r_iconst C 1 (v := 0) dX0_pipesWithin_0 rfl (by decide) ?_
  refine r_istore_n C 2 [(2, .int 0), (0, .ref a), (1, .int p0)] dX0_pipesWithin_1 rfl (by decide) rfl ?_
  refine r_iconst C 3 (v := 0) dX0_pipesWithin_2 rfl (by decide) ?_
  refine r_istore_n C 4 [(3, .int 0), (2, .int 0), (0, .ref a), (1, .int p0)] dX0_pipesWithin_3 rfl (by decide) rfl ?_
  exact Ws_pick [2, 3, 1, 0] rfl h
set_option maxRecDepth 4000 in
theorem sg_X0_pipesWithin_4 {x : Ctx} {K : Int32 → Mem → Prop} {X : String → Mem → Prop} (C : Cx x RX0 cX0_pipesWithin 4) (r : RtI x 1 0 (some .int) K X) (a : Nat) (i1 : Int32) (i2 : Int32) (i3 : Int32) (ha : NetA a) (σ : Mem) (h : ((σ.1 a 1) ≤ i3 → K i2 σ) ∧ (¬ (σ.1 a 1) ≤ i3 → (vp_in i3 10) ∧ (((i1 &&& (1 <<< ((σ.1 (a + 2) i3.toNatClampNeg) &&& 31))) = 0 → ∀ v28 : Int32, v28 = i3 + 1 → Ws x 0 4 [(0, .ref a), (1, .int i1), (2, .int i2), (3, .int v28)] [] σ) ∧ (¬ (i1 &&& (1 <<< ((σ.1 (a + 2) i3.toNatClampNeg) &&& 31))) = 0 → ∀ v25 : Int32, v25 = i2 + 1 → ∀ v28 : Int32, v28 = i3 + 1 → Ws x 0 4 [(0, .ref a), (1, .int i1), (2, .int v25), (3, .int v28)] [] σ)))) : Ws x 0 4 [(0, .ref a), (1, .int i1), (2, .int i2), (3, .int i3)] [] σ := by
  refine r_iload_n (j := 3) C 5 dX0_pipesWithin_4 rfl rfl ?_
  refine r_aload_n (j := 0) C 6 dX0_pipesWithin_5 rfl rfl ?_
  refine r_get (k := 1) C cl2 9 dX0_pipesWithin_6 rfl (net0 ha) (by decide) wd_137 (.int (σ.1 a 1)) (fun _ => rfl) ?_
  refine r_icmp_ge C 34 12 dX0_pipesWithin_9 (by decide) rfl (fun c9 => ?_) (fun c9 => ?_)
  · have h := h.1 c9
    refine r_iload_n (j := 2) C 35 dX0_pipesWithin_34 rfl rfl ?_
    exact r_iret (S := []) C r dX0_pipesWithin_35 (by decide) rfl h
  · have h := h.2 c9
    refine r_iload_n (j := 1) C 13 dX0_pipesWithin_12 rfl rfl ?_
    refine r_iconst C 14 (v := 1) dX0_pipesWithin_13 rfl (by decide) ?_
    refine r_aload_n (j := 0) C 15 dX0_pipesWithin_14 rfl rfl ?_
    refine r_get (k := 2) C cl2 18 dX0_pipesWithin_15 rfl (net0 ha) (by decide) wd_140 (.ref (a + 2)) (fun _ => rfl) ?_
    refine r_iload_n (j := 3) C 19 dX0_pipesWithin_18 rfl rfl ?_
    obtain ⟨o19, h⟩ := h
    refine r_iald C 20 dX0_pipesWithin_19 rfl (net2 ha) o19 ?_
    refine r_ishl C 21 dX0_pipesWithin_20 rfl ?_
    refine r_iand C 22 dX0_pipesWithin_21 rfl ?_
    refine r_if_eq C 28 25 dX0_pipesWithin_22 (by decide) rfl (fun c22 => ?_) (fun c22 => ?_)
    · have h := h.1 c22
      obtain ⟨v28, e28⟩ : ∃ y : Int32, y = i3 + 1 := ⟨_, rfl⟩
      have h := h v28 e28
      refine r_iinc (j := 3) C 31 [(3, .int v28), (0, .ref a), (1, .int i1), (2, .int i2)] dX0_pipesWithin_28 rfl rfl (by rw [e28]; rfl) (by decide) rfl ?_
      refine r_goto C 4 dX0_pipesWithin_31 (by decide) ?_
      exact Ws_pick [1, 2, 3, 0] rfl h
    · have h := h.2 c22
      obtain ⟨v25, e25⟩ : ∃ y : Int32, y = i2 + 1 := ⟨_, rfl⟩
      have h := h v25 e25
      refine r_iinc (j := 2) C 28 [(2, .int v25), (0, .ref a), (1, .int i1), (3, .int i3)] dX0_pipesWithin_25 rfl rfl (by rw [e25]; rfl) (by decide) rfl ?_
      obtain ⟨v28, e28⟩ : ∃ y : Int32, y = i3 + 1 := ⟨_, rfl⟩
      have h := h v28 e28
      refine r_iinc (j := 3) C 31 [(3, .int v28), (2, .int v25), (0, .ref a), (1, .int i1)] dX0_pipesWithin_28 rfl rfl (by rw [e28]; rfl) (by decide) rfl ?_
      refine r_goto C 4 dX0_pipesWithin_31 (by decide) ?_
      exact Ws_pick [2, 3, 1, 0] rfl h
theorem vc_X0_pipesWithin {x : Ctx} {K : Int32 → Mem → Prop} {X : String → Mem → Prop} (C : Cx x RX0 cX0_pipesWithin 4) (r : RtI x 1 0 (some .int) K X) (a : Nat) (p0 : Int32) (σ : Mem) (h : sp_X0_pipesWithin a p0 σ K X) : Ws x 0 0 [(0, .ref a), (1, .int p0)] [] σ := by
  obtain ⟨ha, n, hn, e0, h⟩ := h
  refine sg_X0_pipesWithin_0 C r a p0 ha σ ?_
  have H := cnt n (fun k (_ : Unit) => True) (fun k _ => Ws x 0 4 [(0, .ref a), (1, .int p0), (2, .int (nI (ctB (pwB σ a p0) k))), (3, .int (nI k))] [] σ)
    (fun _ _ => sg_X0_pipesWithin_4 C r a p0 _ (nI n) ha σ ⟨fun _ => h, fun c => absurd (by rw [e0]; exact nI_le (Nat.le_refl n) (by omega)) c⟩)
    (fun k _ hk h1 ih => by
      refine sg_X0_pipesWithin_4 C r a p0 _ (nI k) ha σ ⟨fun c => absurd (by rw [e0] at c; exact n_le (by omega) (by omega) c) (by omega), fun _ => ⟨n_inR (by omega) (by decide), ?_⟩⟩
      rw [n_cl (by omega)]
      have ih := ih () trivial
      have e : ctB (pwB σ a p0) (k + 1) = ctB (pwB σ a p0) k + if pwB σ a p0 k then 1 else 0 := rfl
      refine ⟨fun c v28 e28 => ?_, fun c v25 e25 v28 e28 => ?_⟩
      · rw [e, show pwB σ a p0 k = false from decide_eq_false (fun q => q c), if_neg (by decide)] at ih
        rw [e28, nI_1]; exact ih
      · rw [e, show pwB σ a p0 k = true from decide_eq_true c, if_pos rfl] at ih
        rw [e25, e28, nI_1, nI_1]; exact ih) 0 () (Nat.zero_le n) trivial
  exact H
theorem ct_X0_pipesWithin (a : Nat) (p0 : Int32) (σ : Mem) (K : Int32 → Mem → Prop) (X : String → Mem → Prop) (h : sp_X0_pipesWithin a p0 σ K X) : CtI yX0_pipesWithin cX0_pipesWithin 4 (some .int) 1 0 [.ref a, .int p0] σ K X :=
  ctI_of (by decide +kernel) (Nat.le_of_ble_eq_true rfl) (fun x C r => vc_X0_pipesWithin C r a p0 σ h)
/-! HeatNetwork.sumOf([J)J: level 1, exceptions 0 -/
def sumL (f : Nat → Int64) : Nat → Int64
  | 0 => 0
  | n + 1 => sumL f n + f n
def sp_X4_sumOf (q N : Nat) (σ : Mem) (K : Int64 → Mem → Prop) (X : String → Mem → Prop) : Prop := kd q = .inl (.long, N) ∧ N < 1000 ∧ K (sumL (fun j => σ.2.1 q j) N) σ
set_option maxRecDepth 4000 in
theorem sg_X4_sumOf_0 {x : Ctx} {K : Int64 → Mem → Prop} {X : String → Mem → Prop} (C : Cx x RX4 cX4_sumOf 4) (r : RtL x 1 0 (some .long) K X) (q N : Nat) (hq : kd q = .inl (.long, N)) (σ : Mem) (h : Ws x 0 4 [(0, .ref q), (1, .long 0), (3, .int 0)] [] σ) : Ws x 0 0 [(0, .ref q)] [] σ := by
  refine r_lconst C 1 (v := 0) dX4_sumOf_0 rfl rfl ?_
  refine r_lstore_n C 2 [(1, .long 0), (0, .ref q)] dX4_sumOf_1 rfl (by decide) rfl ?_
  refine r_iconst C 3 (v := 0) dX4_sumOf_2 rfl (by decide) ?_
  refine r_istore_n C 4 [(3, .int 0), (1, .long 0), (0, .ref q)] dX4_sumOf_3 rfl (by decide) rfl ?_
  exact Ws_pick [2, 1, 0] rfl h
set_option maxRecDepth 4000 in
theorem sg_X4_sumOf_4 {x : Ctx} {K : Int64 → Mem → Prop} {X : String → Mem → Prop} (C : Cx x RX4 cX4_sumOf 4) (r : RtL x 1 0 (some .long) K X) (q N : Nat) (l1 : Int64) (i3 : Int32) (hq : kd q = .inl (.long, N)) (σ : Mem) (h : ((Int32.ofNat N) ≤ i3 → K l1 σ) ∧ (¬ (Int32.ofNat N) ≤ i3 → (vp_in i3 N) ∧ (∀ v15 : Int64, v15 = (l1 + (σ.2.1 q i3.toNatClampNeg)) → ∀ v16 : Int32, v16 = i3 + 1 → Ws x 0 4 [(0, .ref q), (1, .long v15), (3, .int v16)] [] σ))) : Ws x 0 4 [(0, .ref q), (1, .long l1), (3, .int i3)] [] σ := by
  refine r_iload_n (j := 2) C 5 dX4_sumOf_4 rfl rfl ?_
  refine r_aload_n (j := 0) C 6 dX4_sumOf_5 rfl rfl ?_
  refine r_alen (t0 := 1) C 7 dX4_sumOf_6 rfl hq (fun _ => rfl) rfl (v := (Int32.ofNat N)) ?_
  refine r_icmp_ge C 22 10 dX4_sumOf_7 (by decide) rfl (fun c7 => ?_) (fun c7 => ?_)
  · have h := h.1 c7
    refine r_lload_n (j := 1) C 23 dX4_sumOf_22 rfl rfl ?_
    exact r_lret (S := []) C r dX4_sumOf_23 (by decide) h
  · have h := h.2 c7
    refine r_lload_n (j := 1) C 11 dX4_sumOf_10 rfl rfl ?_
    refine r_aload_n (j := 0) C 12 dX4_sumOf_11 rfl rfl ?_
    refine r_iload_n (j := 2) C 13 dX4_sumOf_12 rfl rfl ?_
    obtain ⟨o13, h⟩ := h
    refine r_lald C 14 dX4_sumOf_13 rfl hq o13 ?_
    refine r_ladd C 15 dX4_sumOf_14 rfl ?_
    refine r_nmL (fun v15 e15 => ?_)
    have h := h v15 e15
    refine r_lstore_n C 16 [(1, .long v15), (0, .ref q), (3, .int i3)] dX4_sumOf_15 rfl (by decide) rfl ?_
    obtain ⟨v16, e16⟩ : ∃ y : Int32, y = i3 + 1 := ⟨_, rfl⟩
    have h := h v16 e16
    refine r_iinc (j := 2) C 19 [(3, .int v16), (1, .long v15), (0, .ref q)] dX4_sumOf_16 rfl rfl (by rw [e16]; rfl) (by decide) rfl ?_
    refine r_goto C 4 dX4_sumOf_19 (by decide) ?_
    exact Ws_pick [2, 1, 0] rfl h
theorem vc_X4_sumOf {x : Ctx} {K : Int64 → Mem → Prop} {X : String → Mem → Prop} (C : Cx x RX4 cX4_sumOf 4) (r : RtL x 1 0 (some .long) K X) (q N : Nat) (σ : Mem) (h : sp_X4_sumOf q N σ K X) : Ws x 0 0 [(0, .ref q)] [] σ := by
  obtain ⟨hq, hN, h⟩ := h
  refine sg_X4_sumOf_0 C r q N hq σ ?_
  have H := cnt N (fun k (_ : Unit) => True) (fun k _ => Ws x 0 4 [(0, .ref q), (1, .long (sumL (fun j => σ.2.1 q j) k)), (3, .int (nI k))] [] σ)
    (fun _ _ => sg_X4_sumOf_4 C r q N _ (nI N) hq σ ⟨fun _ => h, fun c => absurd (nI_le (Nat.le_refl N) (by omega)) c⟩)
    (fun k _ hk h1 ih => by
      refine sg_X4_sumOf_4 C r q N _ (nI k) hq σ ⟨fun c => absurd (n_le (a := N) (by omega) (by omega) c) (by omega), fun _ => ⟨n_inR hk (by omega), fun v15 e15 v16 e16 => ?_⟩⟩
      rw [n_cl (by omega)] at e15
      rw [e15, e16, nI_1]; exact ih () trivial) 0 () (Nat.zero_le N) trivial
  exact H
theorem ct_X4_sumOf (q : Nat) (N : Nat) (σ : Mem) (K : Int64 → Mem → Prop) (X : String → Mem → Prop) (h : sp_X4_sumOf q N σ K X) : CtL yX4_sumOf cX4_sumOf 4 (some .long) 1 0 [.ref q] σ K X :=
  ctL_of (by decide +kernel) (Nat.le_of_ble_eq_true rfl) (fun x C r => vc_X4_sumOf C r q N σ h)
/-! HeatNetwork$Network.hasPipe(II)Z: level 2, exceptions 0 -/
def hpB (σ : Mem) (a : Nat) (u v : Int32) (n : Nat) : Bool := (List.range n).any (fun p => decide (feC σ a p u = v))
def sp_X0_hasPipe (a : Nat) (p0 p1 : Int32) (σ : Mem) (K : Int32 → Mem → Prop) (X : String → Mem → Prop) : Prop := NetA a ∧ ∃ n : Nat, n ≤ 10 ∧ σ.1 a 1 = nI n ∧ K (if hpB σ a p0 p1 n then 1 else 0) σ
set_option maxRecDepth 4000 in
theorem sg_X0_hasPipe_0 {x : Ctx} {K : Int32 → Mem → Prop} {X : String → Mem → Prop} (C : Cx x RX0 cX0_hasPipe 4) (r : RtI x 2 0 (some .boolean) K X) (a : Nat) (p0 : Int32) (p1 : Int32) (ha : NetA a) (σ : Mem) (h : Ws x 0 2 [(0, .ref a), (1, .int p0), (2, .int p1), (3, .int 0)] [] σ) : Ws x 0 0 [(0, .ref a), (1, .int p0), (2, .int p1)] [] σ := by
  refine r_iconst C 1 (v := 0) dX0_hasPipe_0 rfl (by decide) ?_
  refine r_istore_n C 2 [(3, .int 0), (0, .ref a), (1, .int p0), (2, .int p1)] dX0_hasPipe_1 rfl (by decide) rfl ?_
  exact Ws_pick [1, 2, 3, 0] rfl h
set_option maxRecDepth 4000 in
theorem sg_X0_hasPipe_2 {x : Ctx} {K : Int32 → Mem → Prop} {X : String → Mem → Prop} (C : Cx x RX0 cX0_hasPipe 4) (r : RtI x 2 0 (some .boolean) K X) (a : Nat) (i1 : Int32) (i2 : Int32) (i3 : Int32) (ha : NetA a) (σ : Mem) (h : ((σ.1 a 1) ≤ i3 → K 0 σ) ∧ (¬ (σ.1 a 1) ≤ i3 → sp_X0_farEnd a i3 i1 σ (fun r13 σ13 => (¬ r13 = i2 → ∀ v22 : Int32, v22 = i3 + 1 → Ws x 0 2 [(0, .ref a), (1, .int i1), (2, .int i2), (3, .int v22)] [] σ13) ∧ (r13 = i2 → K 1 σ13)) X)) : Ws x 0 2 [(0, .ref a), (1, .int i1), (2, .int i2), (3, .int i3)] [] σ := by
  refine r_iload_n (j := 3) C 3 dX0_hasPipe_2 rfl rfl ?_
  refine r_aload_n (j := 0) C 4 dX0_hasPipe_3 rfl rfl ?_
  refine r_get (k := 1) C cl2 7 dX0_hasPipe_4 rfl (net0 ha) (by decide) wd_137 (.int (σ.1 a 1)) (fun _ => rfl) ?_
  refine r_icmp_ge C 28 10 dX0_hasPipe_7 (by decide) rfl (fun c7 => ?_) (fun c7 => ?_)
  · have h := h.1 c7
    refine r_iconst C 29 (v := 0) dX0_hasPipe_28 rfl (by decide) ?_
    exact r_iret (S := []) C r dX0_hasPipe_29 (by decide) (by decide) h
  · have h := h.2 c7
    refine r_aload_n (j := 0) C 11 dX0_hasPipe_10 rfl rfl ?_
    refine r_iload_n (j := 3) C 12 dX0_hasPipe_11 rfl rfl ?_
    refine r_iload_n (j := 1) C 13 dX0_hasPipe_12 rfl rfl ?_
    refine r_cVI (as := [.int i3, .int i1]) (S := []) C r.px 16 (ct_X0_farEnd _ _ _ _ _ _ h) dX0_hasPipe_13 rfl cl2 (net0 ha) wd_426 wd_425 rfl wd_749 wd_427 wd_91 yd_X0_farEnd ⟨Nat.le_of_ble_eq_true rfl, Nat.le_of_ble_eq_true rfl⟩ (Nat.le_of_ble_eq_true rfl) (by decide) (fun r13 σ13 h => ?_)
    refine r_iload_n (j := 2) C 17 dX0_hasPipe_16 rfl rfl ?_
    refine r_icmp_ne C 22 20 dX0_hasPipe_17 (by decide) rfl (fun c17 => ?_) (fun c17 => ?_)
    · have h := h.1 c17
      obtain ⟨v22, e22⟩ : ∃ y : Int32, y = i3 + 1 := ⟨_, rfl⟩
      have h := h v22 e22
      refine r_iinc (j := 3) C 25 [(3, .int v22), (0, .ref a), (1, .int i1), (2, .int i2)] dX0_hasPipe_22 rfl rfl (by rw [e22]; rfl) (by decide) rfl ?_
      refine r_goto C 2 dX0_hasPipe_25 (by decide) ?_
      exact Ws_pick [1, 2, 3, 0] rfl h
    · have h := h.2 c17
      refine r_iconst C 21 (v := 1) dX0_hasPipe_20 rfl (by decide) ?_
      exact r_iret (S := []) C r dX0_hasPipe_21 (by decide) (by decide) h
theorem vc_X0_hasPipe {x : Ctx} {K : Int32 → Mem → Prop} {X : String → Mem → Prop} (C : Cx x RX0 cX0_hasPipe 4) (r : RtI x 2 0 (some .boolean) K X) (a : Nat) (p0 p1 : Int32) (σ : Mem) (h : sp_X0_hasPipe a p0 p1 σ K X) : Ws x 0 0 [(0, .ref a), (1, .int p0), (2, .int p1)] [] σ := by
  obtain ⟨ha, n, hn, e0, h⟩ := h
  refine sg_X0_hasPipe_0 C r a p0 p1 ha σ ?_
  have H : ∀ (k : Nat) (_ : Unit), k ≤ n → hpB σ a p0 p1 k = false → Ws x 0 2 [(0, .ref a), (1, .int p0), (2, .int p1), (3, .int (nI k))] [] σ := by
    refine cnt n (fun k _ => hpB σ a p0 p1 k = false) (fun k _ => Ws x 0 2 [(0, .ref a), (1, .int p0), (2, .int p1), (3, .int (nI k))] [] σ) ?_ ?_
    · intro _ hl
      refine sg_X0_hasPipe_2 C r a p0 p1 (nI n) ha σ ⟨fun _ => ?_, fun c => absurd (by rw [e0]; exact nI_le (Nat.le_refl n) (by omega)) c⟩
      rw [hl] at h
      exact h
    · intro k _ hk hl ih
      refine sg_X0_hasPipe_2 C r a p0 p1 (nI k) ha σ ⟨fun c => absurd (by rw [e0] at c; exact n_le (by omega) (by omega) c) (by omega), fun _ => i_X0_farEnd ha (by omega) ⟨fun c v e => ?_, fun c => ?_⟩⟩
      · rw [e, nI_1]
        refine ih () ?_
        simp only [hpB, List.range_succ, List.any_append, List.any_cons, List.any_nil, Bool.or_false] at hl ⊢
        rw [hl]; simp [c]
      · have : hpB σ a p0 p1 n = true := by
          simp only [hpB, List.any_eq_true, List.mem_range, decide_eq_true_eq]
          exact ⟨k, hk, c⟩
        rw [this] at h
        exact h
  exact H 0 () (Nat.zero_le n) rfl
theorem ct_X0_hasPipe (a : Nat) (p0 : Int32) (p1 : Int32) (σ : Mem) (K : Int32 → Mem → Prop) (X : String → Mem → Prop) (h : sp_X0_hasPipe a p0 p1 σ K X) : CtI yX0_hasPipe cX0_hasPipe 4 (some .boolean) 2 0 [.ref a, .int p0, .int p1] σ K X :=
  ctI_of (by decide +kernel) (Nat.le_of_ble_eq_true rfl) (fun x C r => vc_X0_hasPipe C r a p0 p1 σ h)
/-! HeatNetworkModel.stations()I: level 3, exceptions 0 -/
def stB (σ : Mem) (n : Nat) : Bool := decide (1 ≤ n ∧ σ.1 210 (48 + 6 * n) = 1)
def sp_X5_stations (σ : Mem) (K : Int32 → Mem → Prop) (X : String → Mem → Prop) : Prop := K (nI (ctB (stB σ) 10)) σ
set_option maxRecDepth 4000 in
theorem sg_X5_stations_0 {x : Ctx} {K : Int32 → Mem → Prop} {X : String → Mem → Prop} (C : Cx x RX5 cX5_stations 3) (r : RtI x 3 0 (some .int) K X)   (σ : Mem) (h : Ws x 0 4 [(0, .ref 209), (1, .int 0), (2, .int 1)] [] σ) : Ws x 0 0 [(0, .ref 209)] [] σ := by
  refine r_iconst C 1 (v := 0) dX5_stations_0 rfl (by decide) ?_
  refine r_istore_n C 2 [(1, .int 0), (0, .ref 209)] dX5_stations_1 rfl (by decide) rfl ?_
  refine r_iconst C 3 (v := 1) dX5_stations_2 rfl (by decide) ?_
  refine r_istore_n C 4 [(2, .int 1), (1, .int 0), (0, .ref 209)] dX5_stations_3 rfl (by decide) rfl ?_
  exact Ws_pick [2, 1, 0] rfl h
set_option maxRecDepth 4000 in
theorem sg_X5_stations_4 {x : Ctx} {K : Int32 → Mem → Prop} {X : String → Mem → Prop} (C : Cx x RX5 cX5_stations 3) (r : RtI x 3 0 (some .int) K X) (i1 : Int32) (i2 : Int32)  (σ : Mem) (h : (10 ≤ i2 → K i1 σ) ∧ (¬ 10 ≤ i2 → sp_X5_hasStation i2 σ (fun r12 σ12 => (r12 = 0 → ∀ v21 : Int32, v21 = i2 + 1 → Ws x 0 4 [(0, .ref 209), (1, .int i1), (2, .int v21)] [] σ12) ∧ (¬ r12 = 0 → ∀ v18 : Int32, v18 = i1 + 1 → ∀ v21 : Int32, v21 = i2 + 1 → Ws x 0 4 [(0, .ref 209), (1, .int v18), (2, .int v21)] [] σ12)) X)) : Ws x 0 4 [(0, .ref 209), (1, .int i1), (2, .int i2)] [] σ := by
  refine r_iload_n (j := 2) C 5 dX5_stations_4 rfl rfl ?_
  refine r_bipush C 7 (v := 10) dX5_stations_5 rfl (by decide) ?_
  refine r_icmp_ge C 27 10 dX5_stations_7 (by decide) rfl (fun c7 => ?_) (fun c7 => ?_)
  · have h := h.1 c7
    refine r_iload_n (j := 1) C 28 dX5_stations_27 rfl rfl ?_
    exact r_iret (S := []) C r dX5_stations_28 (by decide) rfl h
  · have h := h.2 c7
    refine r_aload_n (j := 0) C 11 dX5_stations_10 rfl rfl ?_
    refine r_iload_n (j := 2) C 12 dX5_stations_11 rfl rfl ?_
    refine r_cVI (as := [.int i2]) (S := []) C r.px 15 (ct_X5_hasStation _ _ _ _ h) dX5_stations_12 rfl cl7 kd_209 wd_52 wd_1396 rfl wd_1394 wd_1397 wd_95 yd_X5_hasStation ⟨Nat.le_of_ble_eq_true rfl, Nat.le_of_ble_eq_true rfl⟩ (Nat.le_of_ble_eq_true rfl) (by decide) (fun r12 σ12 h => ?_)
    refine r_if_eq C 21 18 dX5_stations_15 (by decide) rfl (fun c15 => ?_) (fun c15 => ?_)
    · have h := h.1 c15
      obtain ⟨v21, e21⟩ : ∃ y : Int32, y = i2 + 1 := ⟨_, rfl⟩
      have h := h v21 e21
      refine r_iinc (j := 2) C 24 [(2, .int v21), (0, .ref 209), (1, .int i1)] dX5_stations_21 rfl rfl (by rw [e21]; rfl) (by decide) rfl ?_
      refine r_goto C 4 dX5_stations_24 (by decide) ?_
      exact Ws_pick [1, 2, 0] rfl h
    · have h := h.2 c15
      obtain ⟨v18, e18⟩ : ∃ y : Int32, y = i1 + 1 := ⟨_, rfl⟩
      have h := h v18 e18
      refine r_iinc (j := 1) C 21 [(1, .int v18), (0, .ref 209), (2, .int i2)] dX5_stations_18 rfl rfl (by rw [e18]; rfl) (by decide) rfl ?_
      obtain ⟨v21, e21⟩ : ∃ y : Int32, y = i2 + 1 := ⟨_, rfl⟩
      have h := h v21 e21
      refine r_iinc (j := 2) C 24 [(2, .int v21), (1, .int v18), (0, .ref 209)] dX5_stations_21 rfl rfl (by rw [e21]; rfl) (by decide) rfl ?_
      refine r_goto C 4 dX5_stations_24 (by decide) ?_
      exact Ws_pick [2, 1, 0] rfl h
theorem vc_X5_stations {x : Ctx} {K : Int32 → Mem → Prop} {X : String → Mem → Prop} (C : Cx x RX5 cX5_stations 3) (r : RtI x 3 0 (some .int) K X) (σ : Mem) (h : sp_X5_stations σ K X) : Ws x 0 0 [(0, .ref 209)] [] σ := by
  refine sg_X5_stations_0 C r σ ?_
  have H := cnt 10 (fun k (_ : Unit) => 1 ≤ k) (fun k _ => Ws x 0 4 [(0, .ref 209), (1, .int (nI (ctB (stB σ) k))), (2, .int (nI k))] [] σ)
    (fun _ _ => sg_X5_stations_4 C r _ (nI 10) σ ⟨fun _ => h, fun c => (lit_lt (by decide) (Nat.le_refl 10) (by decide) c).elim⟩)
    (fun k _ hk h1 ih => by
      refine sg_X5_stations_4 C r _ (nI k) σ ⟨fun c => (lit_ge (by decide) hk c).elim, fun _ => i_X5_hasStation hk ?_⟩
      have ih := ih () (by omega)
      have e : ctB (stB σ) (k + 1) = ctB (stB σ) k + if stB σ k then 1 else 0 := rfl
      by_cases c : 1 ≤ k ∧ σ.1 210 (48 + 6 * k) = 1
      · rw [if_pos c]
        rw [e, show stB σ k = true from decide_eq_true c, if_pos rfl] at ih
        refine ⟨fun q => absurd q (by decide), fun _ v18 e18 v21 e21 => ?_⟩
        rw [e18, e21, nI_1, nI_1]; exact ih
      · rw [if_neg c]
        rw [e, show stB σ k = false from decide_eq_false c, if_neg (by decide)] at ih
        refine ⟨fun _ v21 e21 => ?_, fun q => absurd rfl q⟩
        rw [e21, nI_1]; exact ih) 1 () (by decide) (by decide)
  exact H
theorem ct_X5_stations  (σ : Mem) (K : Int32 → Mem → Prop) (X : String → Mem → Prop) (h : sp_X5_stations  σ K X) : CtI yX5_stations cX5_stations 3 (some .int) 3 0 [.ref 209] σ K X :=
  ctI_of (by decide +kernel) (Nat.le_of_ble_eq_true rfl) (fun x C r => vc_X5_stations C r  σ h)
/-! HeatNetworkModel.suspect()I: level 3, exceptions 0 -/
def dvM (σ : Mem) (n : Nat) : Int64 := abs64 (σ.2.1 211 n - σ.2.1 211 (10 + n))
def sp_X5_suspect (σ : Mem) (K : Int32 → Mem → Prop) (X : String → Mem → Prop) : Prop := (0 ≤ (sus (stB σ) (dvM σ) 10).1 → K (sus (stB σ) (dvM σ) 10).1 (wi σ 209 0 0)) ∧ (¬ 0 ≤ (sus (stB σ) (dvM σ) 10).1 → K 0 (wi (wi σ 209 0 0) 209 0 1))
set_option maxRecDepth 4000 in
theorem sg_X5_suspect_0 {x : Ctx} {K : Int32 → Mem → Prop} {X : String → Mem → Prop} (C : Cx x RX5 cX5_suspect 5) (r : RtI x 3 0 (some .int) K X)   (σ : Mem) (h : ∀ σ2 : Mem, σ2 = wi σ 209 0 0 → Ws x 0 14 [(0, .ref 209), (1, .int (-1)), (2, .long (-1)), (4, .int 1)] [] σ2) : Ws x 0 0 [(0, .ref 209)] [] σ := by
  refine r_aload_n (j := 0) C 1 dX5_suspect_0 rfl rfl ?_
  refine r_iconst C 2 (v := 0) dX5_suspect_1 rfl (by decide) ?_
  refine r_putI (k := 0) C cl7 5 dX5_suspect_2 rfl kd_209 (by decide) wd_1212 rfl rfl rfl rfl ?_
  refine r_nmS (fun σ2 e2 => ?_)
  have h := h σ2 e2
  refine r_iconst C 6 (v := (-1)) dX5_suspect_5 rfl (by decide) ?_
  refine r_istore_n C 7 [(1, .int (-1)), (0, .ref 209)] dX5_suspect_6 rfl (by decide) rfl ?_
  refine r_ldc2 C 10 (v := (-1)) dX5_suspect_7 rfl wd_1655 ?_
  refine r_lstore_n C 11 [(2, .long (-1)), (1, .int (-1)), (0, .ref 209)] dX5_suspect_10 rfl (by decide) rfl ?_
  refine r_iconst C 12 (v := 1) dX5_suspect_11 rfl (by decide) ?_
  refine r_istore C 14 [(4, .int 1), (2, .long (-1)), (1, .int (-1)), (0, .ref 209)] dX5_suspect_12 rfl (by decide) rfl ?_
  exact Ws_pick [3, 2, 1, 0] rfl h
set_option maxRecDepth 4000 in
theorem sg_X5_suspect_14 {x : Ctx} {K : Int32 → Mem → Prop} {X : String → Mem → Prop} (C : Cx x RX5 cX5_suspect 5) (r : RtI x 3 0 (some .int) K X) (i1 : Int32) (l2 : Int64) (i4 : Int32)  (σ : Mem) (h : (10 ≤ i4 → (0 ≤ i1 → K i1 σ) ∧ (¬ 0 ≤ i1 → sp_X5_raises 1 σ (fun r100 σ100 => K r100 σ100) X)) ∧ (¬ 10 ≤ i4 → sp_X5_hasStation i4 σ (fun r24 σ24 => (r24 = 0 → ∀ v88 : Int32, v88 = i4 + 1 → Ws x 0 14 [(0, .ref 209), (1, .int i1), (2, .long l2), (4, .int v88)] [] σ24) ∧ (¬ r24 = 0 → (vp_in (0 + i4) 34) ∧ ((vp_in (10 + i4) 34) ∧ (sp_J9_abs_067f4 ((σ24.2.1 211 ((0 + i4)).toNatClampNeg) - (σ24.2.1 211 ((10 + i4)).toNatClampNeg)) σ24 (fun r50 σ50 => (l2 < r50 → (vp_in (0 + i4) 34) ∧ ((vp_in (10 + i4) 34) ∧ (sp_J9_abs_067f4 ((σ50.2.1 211 ((0 + i4)).toNatClampNeg) - (σ50.2.1 211 ((10 + i4)).toNatClampNeg)) σ50 (fun r81 σ81 => ∀ v88 : Int32, v88 = i4 + 1 → Ws x 0 14 [(0, .ref 209), (1, .int i4), (2, .long r81), (4, .int v88)] [] σ81) X))) ∧ (¬ l2 < r50 → ∀ v88 : Int32, v88 = i4 + 1 → Ws x 0 14 [(0, .ref 209), (1, .int i1), (2, .long l2), (4, .int v88)] [] σ50)) X)))) X)) : Ws x 0 14 [(0, .ref 209), (1, .int i1), (2, .long l2), (4, .int i4)] [] σ := by
  refine r_iload (j := 3) C 16 dX5_suspect_14 rfl rfl ?_
  refine r_bipush C 18 (v := 10) dX5_suspect_16 rfl (by decide) ?_
  refine r_icmp_ge C 94 21 dX5_suspect_18 (by decide) rfl (fun c18 => ?_) (fun c18 => ?_)
  · have h := h.1 c18
    refine r_iload_n (j := 1) C 95 dX5_suspect_94 rfl rfl ?_
    refine r_if_ge C 106 98 dX5_suspect_95 (by decide) rfl (fun c95 => ?_) (fun c95 => ?_)
    · have h := h.1 c95
      refine r_iload_n (j := 1) C 107 dX5_suspect_106 rfl rfl ?_
      exact r_iret (S := []) C r dX5_suspect_107 (by decide) rfl h
    · have h := h.2 c95
      refine r_aload_n (j := 0) C 99 dX5_suspect_98 rfl rfl ?_
      refine r_iconst C 100 (v := 1) dX5_suspect_99 rfl (by decide) ?_
      refine r_cVI (as := [.int 1]) (S := []) C r.px 103 (ct_X5_raises _ _ _ _ h) dX5_suspect_100 rfl cl7 kd_209 wd_40 wd_1325 rfl wd_1323 wd_1326 wd_95 yd_X5_raises ⟨Nat.le_of_ble_eq_true rfl, Nat.le_of_ble_eq_true rfl⟩ (Nat.le_of_ble_eq_true rfl) (by decide) (fun r100 σ100 h => ?_)
      refine r_goto C 107 dX5_suspect_103 (by decide) ?_
      exact r_iret (S := []) C r dX5_suspect_107 (by decide) rfl h
  · have h := h.2 c18
    refine r_aload_n (j := 0) C 22 dX5_suspect_21 rfl rfl ?_
    refine r_iload (j := 3) C 24 dX5_suspect_22 rfl rfl ?_
    refine r_cVI (as := [.int i4]) (S := []) C r.px 27 (ct_X5_hasStation _ _ _ _ h) dX5_suspect_24 rfl cl7 kd_209 wd_52 wd_1396 rfl wd_1394 wd_1397 wd_95 yd_X5_hasStation ⟨Nat.le_of_ble_eq_true rfl, Nat.le_of_ble_eq_true rfl⟩ (Nat.le_of_ble_eq_true rfl) (by decide) (fun r24 σ24 h => ?_)
    refine r_if_eq C 88 30 dX5_suspect_27 (by decide) rfl (fun c27 => ?_) (fun c27 => ?_)
    · have h := h.1 c27
      obtain ⟨v88, e88⟩ : ∃ y : Int32, y = i4 + 1 := ⟨_, rfl⟩
      have h := h v88 e88
      refine r_iinc (j := 3) C 91 [(4, .int v88), (0, .ref 209), (1, .int i1), (2, .long l2)] dX5_suspect_88 rfl rfl (by rw [e88]; rfl) (by decide) rfl ?_
      refine r_goto C 14 dX5_suspect_91 (by decide) ?_
      exact Ws_pick [1, 2, 3, 0] rfl h
    · have h := h.2 c27
      refine r_aload_n (j := 0) C 31 dX5_suspect_30 rfl rfl ?_
      refine r_get (k := 2) C cl7 34 dX5_suspect_31 rfl kd_209 (by decide) wd_1214 (.ref 211) (fun _ => rfl) ?_
      refine r_iconst C 35 (v := 0) dX5_suspect_34 rfl (by decide) ?_
      refine r_iload (j := 3) C 37 dX5_suspect_35 rfl rfl ?_
      refine r_iadd C 38 dX5_suspect_37 rfl ?_
      obtain ⟨o38, h⟩ := h
      refine r_lald C 39 dX5_suspect_38 rfl kd_211 o38 ?_
      refine r_aload_n (j := 0) C 40 dX5_suspect_39 rfl rfl ?_
      refine r_get (k := 2) C cl7 43 dX5_suspect_40 rfl kd_209 (by decide) wd_1214 (.ref 211) (fun _ => rfl) ?_
      refine r_bipush C 45 (v := 10) dX5_suspect_43 rfl (by decide) ?_
      refine r_iload (j := 3) C 47 dX5_suspect_45 rfl rfl ?_
      refine r_iadd C 48 dX5_suspect_47 rfl ?_
      obtain ⟨o48, h⟩ := h
      refine r_lald C 49 dX5_suspect_48 rfl kd_211 o48 ?_
      refine r_lsub C 50 dX5_suspect_49 rfl ?_
      refine r_cSL (b := 0) (as := [.long ((σ24.2.1 211 ((0 + i4)).toNatClampNeg) - (σ24.2.1 211 ((10 + i4)).toNatClampNeg))]) (S := []) C r.px 53 (ct_J9_abs_067f4 _ _ _ _ h) dX5_suspect_50 rfl wd_1126 wd_1470 wd_1127 wd_104 yd_J9_abs_067f4 ⟨Nat.le_of_ble_eq_true rfl, Nat.le_of_ble_eq_true rfl⟩ (Nat.le_of_ble_eq_true rfl) (by decide) (fun r50 σ50 h => ?_)
      refine r_lload_n (j := 2) C 54 dX5_suspect_53 rfl rfl ?_
      refine r_lcmp_gt C 55 61 58 dX5_suspect_54 rfl dX5_suspect_55 (by decide) rfl (fun c54 => ?_) (fun c54 => ?_)
      · have h := h.1 c54
        refine r_aload_n (j := 0) C 62 dX5_suspect_61 rfl rfl ?_
        refine r_get (k := 2) C cl7 65 dX5_suspect_62 rfl kd_209 (by decide) wd_1214 (.ref 211) (fun _ => rfl) ?_
        refine r_iconst C 66 (v := 0) dX5_suspect_65 rfl (by decide) ?_
        refine r_iload (j := 3) C 68 dX5_suspect_66 rfl rfl ?_
        refine r_iadd C 69 dX5_suspect_68 rfl ?_
        obtain ⟨o69, h⟩ := h
        refine r_lald C 70 dX5_suspect_69 rfl kd_211 o69 ?_
        refine r_aload_n (j := 0) C 71 dX5_suspect_70 rfl rfl ?_
        refine r_get (k := 2) C cl7 74 dX5_suspect_71 rfl kd_209 (by decide) wd_1214 (.ref 211) (fun _ => rfl) ?_
        refine r_bipush C 76 (v := 10) dX5_suspect_74 rfl (by decide) ?_
        refine r_iload (j := 3) C 78 dX5_suspect_76 rfl rfl ?_
        refine r_iadd C 79 dX5_suspect_78 rfl ?_
        obtain ⟨o79, h⟩ := h
        refine r_lald C 80 dX5_suspect_79 rfl kd_211 o79 ?_
        refine r_lsub C 81 dX5_suspect_80 rfl ?_
        refine r_cSL (b := 0) (as := [.long ((σ50.2.1 211 ((0 + i4)).toNatClampNeg) - (σ50.2.1 211 ((10 + i4)).toNatClampNeg))]) (S := []) C r.px 84 (ct_J9_abs_067f4 _ _ _ _ h) dX5_suspect_81 rfl wd_1126 wd_1470 wd_1127 wd_104 yd_J9_abs_067f4 ⟨Nat.le_of_ble_eq_true rfl, Nat.le_of_ble_eq_true rfl⟩ (Nat.le_of_ble_eq_true rfl) (by decide) (fun r81 σ81 h => ?_)
        refine r_lstore_n C 85 [(2, .long r81), (0, .ref 209), (1, .int i1), (4, .int i4)] dX5_suspect_84 rfl (by decide) rfl ?_
        refine r_iload (j := 3) C 87 dX5_suspect_85 rfl rfl ?_
        refine r_istore_n C 88 [(1, .int i4), (2, .long r81), (0, .ref 209), (4, .int i4)] dX5_suspect_87 rfl (by decide) rfl ?_
        obtain ⟨v88, e88⟩ : ∃ y : Int32, y = i4 + 1 := ⟨_, rfl⟩
        have h := h v88 e88
        refine r_iinc (j := 3) C 91 [(4, .int v88), (1, .int i4), (2, .long r81), (0, .ref 209)] dX5_suspect_88 rfl rfl (by rw [e88]; rfl) (by decide) rfl ?_
        refine r_goto C 14 dX5_suspect_91 (by decide) ?_
        exact Ws_pick [3, 1, 2, 0] rfl h
      · have h := h.2 c54
        refine r_goto C 88 dX5_suspect_58 (by decide) ?_
        obtain ⟨v88, e88⟩ : ∃ y : Int32, y = i4 + 1 := ⟨_, rfl⟩
        have h := h v88 e88
        refine r_iinc (j := 3) C 91 [(4, .int v88), (0, .ref 209), (1, .int i1), (2, .long l2)] dX5_suspect_88 rfl rfl (by rw [e88]; rfl) (by decide) rfl ?_
        refine r_goto C 14 dX5_suspect_91 (by decide) ?_
        exact Ws_pick [1, 2, 3, 0] rfl h
theorem vc_X5_suspect {x : Ctx} {K : Int32 → Mem → Prop} {X : String → Mem → Prop} (C : Cx x RX5 cX5_suspect 5) (r : RtI x 3 0 (some .int) K X) (σ : Mem) (h : sp_X5_suspect σ K X) : Ws x 0 0 [(0, .ref 209)] [] σ := by
  refine sg_X5_suspect_0 C r σ (fun σ2 e2 => ?_)
  have eN : ∀ k, σ2.1 210 k = σ.1 210 k := fun k => by rw [e2]; rfl
  have eL : ∀ k, σ2.2.1 211 k = σ.2.1 211 k := fun k => by rw [e2]; rfl
  have H := cnt 10 (fun k (_ : Unit) => 1 ≤ k) (fun k _ => Ws x 0 14 [(0, .ref 209), (1, .int (sus (stB σ) (dvM σ) k).1), (2, .long (sus (stB σ) (dvM σ) k).2), (4, .int (nI k))] [] σ2)
    (fun _ _ => sg_X5_suspect_14 C r _ _ (nI 10) σ2 ⟨fun _ => ⟨fun c => by rw [e2]; exact h.1 c, fun c => i_X5_raises (by rw [e2]; exact h.2 c)⟩, fun c => (lit_lt (by decide) (Nat.le_refl 10) (by decide) c).elim⟩)
    (fun k _ hk h1 ih => by
      refine sg_X5_suspect_14 C r _ _ (nI k) σ2 ⟨fun c => (lit_ge (by decide) hk c).elim, fun _ => i_X5_hasStation hk ?_⟩
      rw [eN]
      have ih := ih () (by omega)
      simp only [sus] at ih
      have z0 : (0 : Int32) + nI k = nI k := by rw [show (0 : Int32) = nI 0 from rfl, nI_add, Nat.zero_add]
      have z1 : (10 : Int32) + nI k = nI (10 + k) := by rw [show (10 : Int32) = nI 10 from rfl, nI_add]
      by_cases c : 1 ≤ k ∧ σ.1 210 (48 + 6 * k) = 1
      · rw [if_pos c]
        refine ⟨fun q => absurd q (by decide), fun _ => ?_⟩
        rw [z0, z1, n_cl (by omega), n_cl (by omega)]
        refine ⟨n_inR (by omega) (by decide), n_inR (by omega) (by decide), i_J9_abs ?_⟩
        rw [eL, eL]
        have eb : stB σ k = true := decide_eq_true c
        rw [eb, Bool.true_and] at ih
        refine ⟨fun d => ⟨n_inR (by omega) (by decide), n_inR (by omega) (by decide), i_J9_abs (fun v88 e88 => ?_)⟩, fun d v88 e88 => ?_⟩
        · rw [e88, nI_1]
          have d' : ¬ dvM σ k ≤ (sus (stB σ) (dvM σ) k).2 := by
            rw [Int64.le_iff_toInt_le]; rw [Int64.lt_iff_toInt_lt] at d; exact Int.not_le.mpr d
          rw [decide_eq_true d', if_pos rfl] at ih
          exact ih
        · rw [e88, nI_1]
          have d' : dvM σ k ≤ (sus (stB σ) (dvM σ) k).2 := by
            rw [Int64.le_iff_toInt_le]; rw [Int64.lt_iff_toInt_lt] at d; exact Int.not_lt.mp d
          rw [decide_eq_false (fun q => q d'), if_neg (by decide)] at ih
          exact ih
      · rw [if_neg c]
        refine ⟨fun _ v88 e88 => ?_, fun q => absurd rfl q⟩
        rw [e88, nI_1]
        have eb : stB σ k = false := decide_eq_false c
        rw [eb] at ih
        exact ih) 1 () (by decide) (by decide)
  have e1 : sus (stB σ) (dvM σ) 1 = (-1, -1) := by
    have : stB σ 0 = false := decide_eq_false (fun q => absurd q.1 (by decide))
    simp [sus, this]
  rw [e1] at H
  exact H
theorem ct_X5_suspect  (σ : Mem) (K : Int32 → Mem → Prop) (X : String → Mem → Prop) (h : sp_X5_suspect  σ K X) : CtI yX5_suspect cX5_suspect 5 (some .int) 3 0 [.ref 209] σ K X :=
  ctI_of (by decide +kernel) (Nat.le_of_ble_eq_true rfl) (fun x C r => vc_X5_suspect C r  σ h)
/-! HeatNetwork$Network.stationCount()I: level 4, exceptions 0 -/
def stC (σ : Mem) (a n : Nat) : Bool := decide (¬ σ.1 (a + 6) n ≤ 0)
def sp_X0_stationCount (a : Nat) (σ : Mem) (K : Int32 → Mem → Prop) (X : String → Mem → Prop) : Prop := NetA a ∧ K (nI (ctB (stC σ a) 10)) σ
set_option maxRecDepth 4000 in
theorem sg_X0_stationCount_0 {x : Ctx} {K : Int32 → Mem → Prop} {X : String → Mem → Prop} (C : Cx x RX0 cX0_stationCount 3) (r : RtI x 4 0 (some .int) K X) (a : Nat) (ha : NetA a) (σ : Mem) (h : Ws x 0 4 [(0, .ref a), (1, .int 0), (2, .int 0)] [] σ) : Ws x 0 0 [(0, .ref a)] [] σ := by
  refine r_iconst C 1 (v := 0) dX0_stationCount_0 rfl (by decide) ?_
  refine r_istore_n C 2 [(1, .int 0), (0, .ref a)] dX0_stationCount_1 rfl (by decide) rfl ?_
  refine r_iconst C 3 (v := 0) dX0_stationCount_2 rfl (by decide) ?_
  refine r_istore_n C 4 [(2, .int 0), (1, .int 0), (0, .ref a)] dX0_stationCount_3 rfl (by decide) rfl ?_
  exact Ws_pick [2, 1, 0] rfl h
set_option maxRecDepth 4000 in
theorem sg_X0_stationCount_4 {x : Ctx} {K : Int32 → Mem → Prop} {X : String → Mem → Prop} (C : Cx x RX0 cX0_stationCount 3) (r : RtI x 4 0 (some .int) K X) (a : Nat) (i1 : Int32) (i2 : Int32) (ha : NetA a) (σ : Mem) (h : (10 ≤ i2 → K i1 σ) ∧ (¬ 10 ≤ i2 → sp_X0_hasStation a i2 σ (fun r12 σ12 => (r12 = 0 → ∀ v21 : Int32, v21 = i2 + 1 → Ws x 0 4 [(0, .ref a), (1, .int i1), (2, .int v21)] [] σ12) ∧ (¬ r12 = 0 → ∀ v18 : Int32, v18 = i1 + 1 → ∀ v21 : Int32, v21 = i2 + 1 → Ws x 0 4 [(0, .ref a), (1, .int v18), (2, .int v21)] [] σ12)) X)) : Ws x 0 4 [(0, .ref a), (1, .int i1), (2, .int i2)] [] σ := by
  refine r_iload_n (j := 2) C 5 dX0_stationCount_4 rfl rfl ?_
  refine r_bipush C 7 (v := 10) dX0_stationCount_5 rfl (by decide) ?_
  refine r_icmp_ge C 27 10 dX0_stationCount_7 (by decide) rfl (fun c7 => ?_) (fun c7 => ?_)
  · have h := h.1 c7
    refine r_iload_n (j := 1) C 28 dX0_stationCount_27 rfl rfl ?_
    exact r_iret (S := []) C r dX0_stationCount_28 (by decide) rfl h
  · have h := h.2 c7
    refine r_aload_n (j := 0) C 11 dX0_stationCount_10 rfl rfl ?_
    refine r_iload_n (j := 2) C 12 dX0_stationCount_11 rfl rfl ?_
    refine r_cVI (as := [.int i2]) (S := []) C r.px 15 (ct_X0_hasStation _ _ _ _ _ h) dX0_stationCount_12 rfl cl2 (net0 ha) wd_468 wd_467 rfl wd_815 wd_469 wd_91 yd_X0_hasStation ⟨Nat.le_of_ble_eq_true rfl, Nat.le_of_ble_eq_true rfl⟩ (Nat.le_of_ble_eq_true rfl) (by decide) (fun r12 σ12 h => ?_)
    refine r_if_eq C 21 18 dX0_stationCount_15 (by decide) rfl (fun c15 => ?_) (fun c15 => ?_)
    · have h := h.1 c15
      obtain ⟨v21, e21⟩ : ∃ y : Int32, y = i2 + 1 := ⟨_, rfl⟩
      have h := h v21 e21
      refine r_iinc (j := 2) C 24 [(2, .int v21), (0, .ref a), (1, .int i1)] dX0_stationCount_21 rfl rfl (by rw [e21]; rfl) (by decide) rfl ?_
      refine r_goto C 4 dX0_stationCount_24 (by decide) ?_
      exact Ws_pick [1, 2, 0] rfl h
    · have h := h.2 c15
      obtain ⟨v18, e18⟩ : ∃ y : Int32, y = i1 + 1 := ⟨_, rfl⟩
      have h := h v18 e18
      refine r_iinc (j := 1) C 21 [(1, .int v18), (0, .ref a), (2, .int i2)] dX0_stationCount_18 rfl rfl (by rw [e18]; rfl) (by decide) rfl ?_
      obtain ⟨v21, e21⟩ : ∃ y : Int32, y = i2 + 1 := ⟨_, rfl⟩
      have h := h v21 e21
      refine r_iinc (j := 2) C 24 [(2, .int v21), (1, .int v18), (0, .ref a)] dX0_stationCount_21 rfl rfl (by rw [e21]; rfl) (by decide) rfl ?_
      refine r_goto C 4 dX0_stationCount_24 (by decide) ?_
      exact Ws_pick [2, 1, 0] rfl h
theorem vc_X0_stationCount {x : Ctx} {K : Int32 → Mem → Prop} {X : String → Mem → Prop} (C : Cx x RX0 cX0_stationCount 3) (r : RtI x 4 0 (some .int) K X) (a : Nat) (σ : Mem) (h : sp_X0_stationCount a σ K X) : Ws x 0 0 [(0, .ref a)] [] σ := by
  obtain ⟨ha, h⟩ := h
  refine sg_X0_stationCount_0 C r a ha σ ?_
  have H := cnt 10 (fun k (_ : Unit) => True) (fun k _ => Ws x 0 4 [(0, .ref a), (1, .int (nI (ctB (stC σ a) k))), (2, .int (nI k))] [] σ)
    (fun _ _ => sg_X0_stationCount_4 C r a _ (nI 10) ha σ ⟨fun _ => h, fun c => (lit_lt (by decide) (Nat.le_refl 10) (by decide) c).elim⟩)
    (fun k _ hk h1 ih => by
      refine sg_X0_stationCount_4 C r a _ (nI k) ha σ ⟨fun c => (lit_ge (by decide) hk c).elim, fun _ => i_X0_hasStation ha hk ?_⟩
      have ih := ih () trivial
      have e : ctB (stC σ a) (k + 1) = ctB (stC σ a) k + if stC σ a k then 1 else 0 := rfl
      by_cases c : ¬ σ.1 (a + 6) k ≤ 0
      · rw [if_pos c]
        rw [e, show stC σ a k = true from decide_eq_true c, if_pos rfl] at ih
        refine ⟨fun q => absurd q (by decide), fun _ v18 e18 v21 e21 => ?_⟩
        rw [e18, e21, nI_1, nI_1]; exact ih
      · rw [if_neg c]
        rw [e, show stC σ a k = false from decide_eq_false c, if_neg (by decide)] at ih
        refine ⟨fun _ v21 e21 => ?_, fun q => absurd rfl q⟩
        rw [e21, nI_1]; exact ih) 0 () (by decide) trivial
  exact H
theorem ct_X0_stationCount (a : Nat) (σ : Mem) (K : Int32 → Mem → Prop) (X : String → Mem → Prop) (h : sp_X0_stationCount a σ K X) : CtI yX0_stationCount cX0_stationCount 3 (some .int) 4 0 [.ref a] σ K X :=
  ctI_of (by decide +kernel) (Nat.le_of_ble_eq_true rfl) (fun x C r => vc_X0_stationCount C r a σ h)
/-! HeatNetwork.suspect()I: level 8, exceptions 1 -/
def dvC (σ : Mem) (n : Nat) : Int64 := abs64 (σ.2.1 12 n - σ.2.1 13 n)
def sp_X4_suspect (σ : Mem) (K : Int32 → Mem → Prop) (X : String → Mem → Prop) : Prop := (0 ≤ (sus (stC σ 1) (dvC σ) 10).1 → K (sus (stC σ 1) (dvC σ) 10).1 σ) ∧ (¬ 0 ≤ (sus (stC σ 1) (dvC σ) 10).1 → X "java/util/NoSuchElementException" σ)
set_option maxRecDepth 4000 in
theorem sg_X4_suspect_0 {x : Ctx} {K : Int32 → Mem → Prop} {X : String → Mem → Prop} (C : Cx x RX4 cX4_suspect 7) (r : RtI x 8 1 (some .int) K X)   (σ : Mem) (h : Ws x 0 9 [(0, .ref 0), (1, .int (-1)), (2, .long (-1)), (4, .int 0)] [] σ) : Ws x 0 0 [(0, .ref 0)] [] σ := by
  refine r_iconst C 1 (v := (-1)) dX4_suspect_0 rfl (by decide) ?_
  refine r_istore_n C 2 [(1, .int (-1)), (0, .ref 0)] dX4_suspect_1 rfl (by decide) rfl ?_
  refine r_ldc2 C 5 (v := (-1)) dX4_suspect_2 rfl wd_1124 ?_
  refine r_lstore_n C 6 [(2, .long (-1)), (1, .int (-1)), (0, .ref 0)] dX4_suspect_5 rfl (by decide) rfl ?_
  refine r_iconst C 7 (v := 0) dX4_suspect_6 rfl (by decide) ?_
  refine r_istore C 9 [(4, .int 0), (2, .long (-1)), (1, .int (-1)), (0, .ref 0)] dX4_suspect_7 rfl (by decide) rfl ?_
  exact Ws_pick [3, 2, 1, 0] rfl h
set_option maxRecDepth 4000 in
theorem sg_X4_suspect_9 {x : Ctx} {K : Int32 → Mem → Prop} {X : String → Mem → Prop} (C : Cx x RX4 cX4_suspect 7) (r : RtI x 8 1 (some .int) K X) (i1 : Int32) (l2 : Int64) (i4 : Int32)  (σ : Mem) (h : (10 ≤ i4 → (0 ≤ i1 → K i1 σ) ∧ (¬ 0 ≤ i1 → X "java/util/NoSuchElementException" σ)) ∧ (¬ 10 ≤ i4 → (vp_in i4 10) ∧ ((vp_in i4 10) ∧ (sp_J9_abs_067f4 ((σ.2.1 12 i4.toNatClampNeg) - (σ.2.1 13 i4.toNatClampNeg)) σ (fun r37 σ37 => sp_X0_hasStation 1 i4 σ37 (fun r48 σ48 => (r48 = 0 → ∀ v67 : Int32, v67 = i4 + 1 → Ws x 0 9 [(0, .ref 0), (1, .int i1), (2, .long l2), (4, .int v67)] [] σ48) ∧ (¬ r48 = 0 → (r37 ≤ l2 → ∀ v67 : Int32, v67 = i4 + 1 → Ws x 0 9 [(0, .ref 0), (1, .int i1), (2, .long l2), (4, .int v67)] [] σ48) ∧ (¬ r37 ≤ l2 → ∀ v67 : Int32, v67 = i4 + 1 → Ws x 0 9 [(0, .ref 0), (1, .int i4), (2, .long r37), (4, .int v67)] [] σ48))) X) X)))) : Ws x 0 9 [(0, .ref 0), (1, .int i1), (2, .long l2), (4, .int i4)] [] σ := by
  refine r_iload (j := 3) C 11 dX4_suspect_9 rfl rfl ?_
  refine r_bipush C 13 (v := 10) dX4_suspect_11 rfl (by decide) ?_
  refine r_icmp_ge C 73 16 dX4_suspect_13 (by decide) rfl (fun c13 => ?_) (fun c13 => ?_)
  · have h := h.1 c13
    refine r_iload_n (j := 1) C 74 dX4_suspect_73 rfl rfl ?_
    refine r_if_ge C 88 77 dX4_suspect_74 (by decide) rfl (fun c74 => ?_) (fun c74 => ?_)
    · have h := h.1 c74
      refine r_iload_n (j := 1) C 89 dX4_suspect_88 rfl rfl ?_
      exact r_iret (S := []) C r dX4_suspect_89 (by decide) rfl h
    · have h := h.2 c74
      exact r_throwNW (own := "") (text := "there are no stations") C r.px dX4_suspect_77 dX4_suspect_80 dX4_suspect_81 dX4_suspect_84 dX4_suspect_87 (by decide) (Nat.le_of_ble_eq_true rfl) (Nat.le_of_ble_eq_true rfl) (by decide) h
  · have h := h.2 c13
    refine r_aload_n (j := 0) C 17 dX4_suspect_16 rfl rfl ?_
    refine r_get (k := 0) C cl6 20 dX4_suspect_17 rfl kd_0 (by decide) wd_358 (.ref 1) (fun _ => rfl) ?_
    refine r_get (k := 11) C cl2 23 dX4_suspect_20 rfl kd_1 (by decide) wd_165 (.ref 12) (fun _ => rfl) ?_
    refine r_iload (j := 3) C 25 dX4_suspect_23 rfl rfl ?_
    obtain ⟨o25, h⟩ := h
    refine r_lald C 26 dX4_suspect_25 rfl kd_12 o25 ?_
    refine r_aload_n (j := 0) C 27 dX4_suspect_26 rfl rfl ?_
    refine r_get (k := 0) C cl6 30 dX4_suspect_27 rfl kd_0 (by decide) wd_358 (.ref 1) (fun _ => rfl) ?_
    refine r_get (k := 12) C cl2 33 dX4_suspect_30 rfl kd_1 (by decide) wd_167 (.ref 13) (fun _ => rfl) ?_
    refine r_iload (j := 3) C 35 dX4_suspect_33 rfl rfl ?_
    obtain ⟨o35, h⟩ := h
    refine r_lald C 36 dX4_suspect_35 rfl kd_13 o35 ?_
    refine r_lsub C 37 dX4_suspect_36 rfl ?_
    refine r_cSL (b := 0) (as := [.long ((σ.2.1 12 i4.toNatClampNeg) - (σ.2.1 13 i4.toNatClampNeg))]) (S := []) C r.px 40 (ct_J9_abs_067f4 _ _ _ _ h) dX4_suspect_37 rfl wd_1126 wd_1125 wd_1127 wd_104 yd_J9_abs_067f4 ⟨Nat.le_of_ble_eq_true rfl, Nat.le_of_ble_eq_true rfl⟩ (Nat.le_of_ble_eq_true rfl) (by decide) (fun r37 σ37 h => ?_)
    refine r_lstore C 42 [(5, .long r37), (0, .ref 0), (1, .int i1), (2, .long l2), (4, .int i4)] dX4_suspect_40 rfl (by decide) rfl ?_
    refine r_aload_n (j := 1) C 43 dX4_suspect_42 rfl rfl ?_
    refine r_get (k := 0) C cl6 46 dX4_suspect_43 rfl kd_0 (by decide) wd_358 (.ref 1) (fun _ => rfl) ?_
    refine r_iload (j := 4) C 48 dX4_suspect_46 rfl rfl ?_
    refine r_cVI (as := [.int i4]) (S := []) C r.px 51 (ct_X0_hasStation _ _ _ _ _ h) dX4_suspect_48 rfl cl2 kd_1 wd_468 wd_467 rfl wd_851 wd_469 wd_91 yd_X0_hasStation ⟨Nat.le_of_ble_eq_true rfl, Nat.le_of_ble_eq_true rfl⟩ (Nat.le_of_ble_eq_true rfl) (by decide) (fun r48 σ48 h => ?_)
    refine r_if_eq C 67 54 dX4_suspect_51 (by decide) rfl (fun c51 => ?_) (fun c51 => ?_)
    · have h := h.1 c51
      obtain ⟨v67, e67⟩ : ∃ y : Int32, y = i4 + 1 := ⟨_, rfl⟩
      have h := h v67 e67
      refine r_iinc (j := 4) C 70 [(4, .int v67), (5, .long r37), (0, .ref 0), (1, .int i1), (2, .long l2)] dX4_suspect_67 rfl rfl (by rw [e67]; rfl) (by decide) rfl ?_
      refine r_goto C 9 dX4_suspect_70 (by decide) ?_
      exact Ws_pick [2, 3, 4, 0] rfl h
    · have h := h.2 c51
      refine r_lload (j := 0) C 56 dX4_suspect_54 rfl rfl ?_
      refine r_lload_n (j := 3) C 57 dX4_suspect_56 rfl rfl ?_
      refine r_lcmp_le C 58 67 61 dX4_suspect_57 rfl dX4_suspect_58 (by decide) rfl (fun c57 => ?_) (fun c57 => ?_)
      · have h := h.1 c57
        obtain ⟨v67, e67⟩ : ∃ y : Int32, y = i4 + 1 := ⟨_, rfl⟩
        have h := h v67 e67
        refine r_iinc (j := 4) C 70 [(4, .int v67), (5, .long r37), (0, .ref 0), (1, .int i1), (2, .long l2)] dX4_suspect_67 rfl rfl (by rw [e67]; rfl) (by decide) rfl ?_
        refine r_goto C 9 dX4_suspect_70 (by decide) ?_
        exact Ws_pick [2, 3, 4, 0] rfl h
      · have h := h.2 c57
        refine r_iload (j := 4) C 63 dX4_suspect_61 rfl rfl ?_
        refine r_istore_n C 64 [(1, .int i4), (5, .long r37), (0, .ref 0), (2, .long l2), (4, .int i4)] dX4_suspect_63 rfl (by decide) rfl ?_
        refine r_lload (j := 1) C 66 dX4_suspect_64 rfl rfl ?_
        refine r_lstore_n C 67 [(2, .long r37), (1, .int i4), (5, .long r37), (0, .ref 0), (4, .int i4)] dX4_suspect_66 rfl (by decide) rfl ?_
        obtain ⟨v67, e67⟩ : ∃ y : Int32, y = i4 + 1 := ⟨_, rfl⟩
        have h := h v67 e67
        refine r_iinc (j := 4) C 70 [(4, .int v67), (2, .long r37), (1, .int i4), (5, .long r37), (0, .ref 0)] dX4_suspect_67 rfl rfl (by rw [e67]; rfl) (by decide) rfl ?_
        refine r_goto C 9 dX4_suspect_70 (by decide) ?_
        exact Ws_pick [4, 2, 1, 0] rfl h
theorem vc_X4_suspect {x : Ctx} {K : Int32 → Mem → Prop} {X : String → Mem → Prop} (C : Cx x RX4 cX4_suspect 7) (r : RtI x 8 1 (some .int) K X) (σ : Mem) (h : sp_X4_suspect σ K X) : Ws x 0 0 [(0, .ref 0)] [] σ := by
  refine sg_X4_suspect_0 C r σ ?_
  have H := cnt 10 (fun k (_ : Unit) => True) (fun k _ => Ws x 0 9 [(0, .ref 0), (1, .int (sus (stC σ 1) (dvC σ) k).1), (2, .long (sus (stC σ 1) (dvC σ) k).2), (4, .int (nI k))] [] σ)
    (fun _ _ => sg_X4_suspect_9 C r _ _ (nI 10) σ ⟨fun _ => h, fun c => (lit_lt (by decide) (Nat.le_refl 10) (by decide) c).elim⟩)
    (fun k _ hk h1 ih => by
      refine sg_X4_suspect_9 C r _ _ (nI k) σ ⟨fun c => (lit_ge (by decide) hk c).elim, fun _ => ⟨n_inR hk (by decide), n_inR hk (by decide), i_J9_abs (i_X0_hasStation netA_1 hk ?_)⟩⟩
      rw [n_cl (by omega)]
      have ih := ih () trivial
      simp only [sus] at ih
      by_cases c : ¬ σ.1 (1 + 6) k ≤ 0
      · rw [if_pos c]
        have eb : stC σ 1 k = true := decide_eq_true c
        rw [eb, Bool.true_and] at ih
        refine ⟨fun q => absurd q (by decide), fun _ => ⟨fun d v e => ?_, fun d v e => ?_⟩⟩
        · rw [e, nI_1]
          have d : dvC σ k ≤ (sus (stC σ 1) (dvC σ) k).2 := d
          rw [decide_eq_false (fun q => q d), if_neg (by decide)] at ih
          exact ih
        · rw [e, nI_1]
          have d : ¬ dvC σ k ≤ (sus (stC σ 1) (dvC σ) k).2 := d
          rw [decide_eq_true d, if_pos rfl] at ih
          exact ih
      · rw [if_neg c]
        have eb : stC σ 1 k = false := decide_eq_false c
        rw [eb] at ih
        refine ⟨fun _ v e => ?_, fun q => absurd rfl q⟩
        rw [e, nI_1]
        exact ih) 0 () (by decide) trivial
  exact H
theorem ct_X4_suspect  (σ : Mem) (K : Int32 → Mem → Prop) (X : String → Mem → Prop) (h : sp_X4_suspect  σ K X) : CtI yX4_suspect cX4_suspect 7 (some .int) 8 1 [.ref 0] σ K X :=
  ctI_of (by decide +kernel) (Nat.le_of_ble_eq_true rfl) (fun x C r => vc_X4_suspect C r  σ h)
/-! HeatNetwork.addStation(IIII)I: level 9, exceptions 1 -/
def sp_X4_addStation (p0 : Int32) (p1 : Int32) (p2 : Int32) (p3 : Int32) (σ : Mem) (K : Int32 → Mem → Prop) (X : String → Mem → Prop) : Prop := (sp_X0_stationReason 1 p0 p1 p2 p3 σ (fun r10 σ10 => sp_X4_refuseFor r10 σ10 (fun σ13 => sp_X4_beginChange  σ13 (fun σ17 => sp_X0_putStation 1 p0 p1 p2 p3 σ17 (fun σ29 => sp_X4_endChange  σ29 (fun σ33 => sp_X0_stationCount 1 σ33 (fun r40 σ40 => K r40 σ40) X) X) X) X) X) X)
set_option maxRecDepth 4000 in
theorem sg_X4_addStation_0 {x : Ctx} {K : Int32 → Mem → Prop} {X : String → Mem → Prop} (C : Cx x RX4 cX4_addStation 5) (r : RtI x 9 1 (some .int) K X) (p0 : Int32) (p1 : Int32) (p2 : Int32) (p3 : Int32)  (σ : Mem) (h : sp_X0_stationReason 1 p0 p1 p2 p3 σ (fun r10 σ10 => sp_X4_refuseFor r10 σ10 (fun σ13 => sp_X4_beginChange  σ13 (fun σ17 => sp_X0_putStation 1 p0 p1 p2 p3 σ17 (fun σ29 => sp_X4_endChange  σ29 (fun σ33 => sp_X0_stationCount 1 σ33 (fun r40 σ40 => K r40 σ40) X) X) X) X) X) X) : Ws x 0 0 [(0, .ref 0), (1, .int p0), (2, .int p1), (3, .int p2), (4, .int p3)] [] σ := by
  refine r_aload_n (j := 0) C 1 dX4_addStation_0 rfl rfl ?_
  refine r_aload_n (j := 0) C 2 dX4_addStation_1 rfl rfl ?_
  refine r_get (k := 0) C cl6 5 dX4_addStation_2 rfl kd_0 (by decide) wd_358 (.ref 1) (fun _ => rfl) ?_
  refine r_iload_n (j := 1) C 6 dX4_addStation_5 rfl rfl ?_
  refine r_iload_n (j := 2) C 7 dX4_addStation_6 rfl rfl ?_
  refine r_iload_n (j := 3) C 8 dX4_addStation_7 rfl rfl ?_
  refine r_iload (j := 4) C 10 dX4_addStation_8 rfl rfl ?_
  refine r_cVI (as := [.int p0, .int p1, .int p2, .int p3]) (S := [.ref 0]) C r.px 13 (ct_X0_stationReason _ _ _ _ _ _ _ _ h) dX4_addStation_10 rfl cl2 kd_1 wd_813 wd_812 rfl wd_811 wd_814 wd_91 yd_X0_stationReason ⟨Nat.le_of_ble_eq_true rfl, Nat.le_of_ble_eq_true rfl⟩ (Nat.le_of_ble_eq_true rfl) (by decide) (fun r10 σ10 h => ?_)
  refine r_cVV (as := [.int r10]) (S := []) C r.px 16 (ct_X4_refuseFor _ _ _ _ h) dX4_addStation_13 rfl cl6 kd_0 wd_26 wd_766 rfl wd_764 wd_767 wd_90 yd_X4_refuseFor ⟨Nat.le_of_ble_eq_true rfl, Nat.le_of_ble_eq_true rfl⟩ (Nat.le_of_ble_eq_true rfl) (by decide) (fun σ13 h => ?_)
  refine r_aload_n (j := 0) C 17 dX4_addStation_16 rfl rfl ?_
  refine r_cVV (as := []) (S := []) C r.px 20 (ct_X4_beginChange  _ _ _ h) dX4_addStation_17 rfl cl6 kd_0 wd_24 wd_718 rfl wd_716 wd_719 wd_90 yd_X4_beginChange ⟨Nat.le_of_ble_eq_true rfl, Nat.le_of_ble_eq_true rfl⟩ (Nat.le_of_ble_eq_true rfl) (by decide) (fun σ17 h => ?_)
  refine r_aload_n (j := 0) C 21 dX4_addStation_20 rfl rfl ?_
  refine r_get (k := 0) C cl6 24 dX4_addStation_21 rfl kd_0 (by decide) wd_358 (.ref 1) (fun _ => rfl) ?_
  refine r_iload_n (j := 1) C 25 dX4_addStation_24 rfl rfl ?_
  refine r_iload_n (j := 2) C 26 dX4_addStation_25 rfl rfl ?_
  refine r_iload_n (j := 3) C 27 dX4_addStation_26 rfl rfl ?_
  refine r_iload (j := 4) C 29 dX4_addStation_27 rfl rfl ?_
  refine r_cVV (as := [.int p0, .int p1, .int p2, .int p3]) (S := []) C r.px 32 (ct_X0_putStation _ _ _ _ _ _ _ _ h) dX4_addStation_29 rfl cl2 kd_1 wd_818 wd_817 rfl wd_816 wd_819 wd_91 yd_X0_putStation ⟨Nat.le_of_ble_eq_true rfl, Nat.le_of_ble_eq_true rfl⟩ (Nat.le_of_ble_eq_true rfl) (by decide) (fun σ29 h => ?_)
  refine r_aload_n (j := 0) C 33 dX4_addStation_32 rfl rfl ?_
  refine r_cVV (as := []) (S := []) C r.px 36 (ct_X4_endChange  _ _ _ h) dX4_addStation_33 rfl cl6 kd_0 wd_25 wd_722 rfl wd_720 wd_723 wd_90 yd_X4_endChange ⟨Nat.le_of_ble_eq_true rfl, Nat.le_of_ble_eq_true rfl⟩ (Nat.le_of_ble_eq_true rfl) (by decide) (fun σ33 h => ?_)
  refine r_aload_n (j := 0) C 37 dX4_addStation_36 rfl rfl ?_
  refine r_get (k := 0) C cl6 40 dX4_addStation_37 rfl kd_0 (by decide) wd_358 (.ref 1) (fun _ => rfl) ?_
  refine r_cVI (as := []) (S := []) C r.px 43 (ct_X0_stationCount _ _ _ _ h) dX4_addStation_40 rfl cl2 kd_1 wd_822 wd_821 rfl wd_820 wd_823 wd_91 yd_X0_stationCount ⟨Nat.le_of_ble_eq_true rfl, Nat.le_of_ble_eq_true rfl⟩ (Nat.le_of_ble_eq_true rfl) (by decide) (fun r40 σ40 h => ?_)
  exact r_iret (S := []) C r dX4_addStation_43 (by decide) rfl h
theorem ct_X4_addStation (p0 : Int32) (p1 : Int32) (p2 : Int32) (p3 : Int32) (σ : Mem) (K : Int32 → Mem → Prop) (X : String → Mem → Prop) (h : sp_X4_addStation p0 p1 p2 p3 σ K X) : CtI yX4_addStation cX4_addStation 5 (some .int) 9 1 [.ref 0, .int p0, .int p1, .int p2, .int p3] σ K X := by
  have h := h
  exact ctI_of (by decide +kernel) (Nat.le_of_ble_eq_true rfl) (fun x C r => sg_X4_addStation_0 C r p0 p1 p2 p3  σ h)
/-! HeatNetwork.removeStation(I)I: level 9, exceptions 1 -/
def sp_X4_removeStation (p0 : Int32) (σ : Mem) (K : Int32 → Mem → Prop) (X : String → Mem → Prop) : Prop := (sp_X0_removalReason 1 p0 σ (fun r6 σ6 => sp_X4_refuseFor r6 σ6 (fun σ9 => sp_X4_beginChange  σ9 (fun σ13 => sp_X0_dropStation 1 p0 σ13 (fun σ21 => sp_X4_endChange  σ21 (fun σ25 => sp_X0_stationCount 1 σ25 (fun r32 σ32 => K r32 σ32) X) X) X) X) X) X)
set_option maxRecDepth 4000 in
theorem sg_X4_removeStation_0 {x : Ctx} {K : Int32 → Mem → Prop} {X : String → Mem → Prop} (C : Cx x RX4 cX4_removeStation 2) (r : RtI x 9 1 (some .int) K X) (p0 : Int32)  (σ : Mem) (h : sp_X0_removalReason 1 p0 σ (fun r6 σ6 => sp_X4_refuseFor r6 σ6 (fun σ9 => sp_X4_beginChange  σ9 (fun σ13 => sp_X0_dropStation 1 p0 σ13 (fun σ21 => sp_X4_endChange  σ21 (fun σ25 => sp_X0_stationCount 1 σ25 (fun r32 σ32 => K r32 σ32) X) X) X) X) X) X) : Ws x 0 0 [(0, .ref 0), (1, .int p0)] [] σ := by
  refine r_aload_n (j := 0) C 1 dX4_removeStation_0 rfl rfl ?_
  refine r_aload_n (j := 0) C 2 dX4_removeStation_1 rfl rfl ?_
  refine r_get (k := 0) C cl6 5 dX4_removeStation_2 rfl kd_0 (by decide) wd_358 (.ref 1) (fun _ => rfl) ?_
  refine r_iload_n (j := 1) C 6 dX4_removeStation_5 rfl rfl ?_
  refine r_cVI (as := [.int p0]) (S := [.ref 0]) C r.px 9 (ct_X0_removalReason _ _ _ _ _ h) dX4_removeStation_6 rfl cl2 kd_1 wd_833 wd_832 rfl wd_831 wd_834 wd_91 yd_X0_removalReason ⟨Nat.le_of_ble_eq_true rfl, Nat.le_of_ble_eq_true rfl⟩ (Nat.le_of_ble_eq_true rfl) (by decide) (fun r6 σ6 h => ?_)
  refine r_cVV (as := [.int r6]) (S := []) C r.px 12 (ct_X4_refuseFor _ _ _ _ h) dX4_removeStation_9 rfl cl6 kd_0 wd_26 wd_766 rfl wd_764 wd_767 wd_90 yd_X4_refuseFor ⟨Nat.le_of_ble_eq_true rfl, Nat.le_of_ble_eq_true rfl⟩ (Nat.le_of_ble_eq_true rfl) (by decide) (fun σ9 h => ?_)
  refine r_aload_n (j := 0) C 13 dX4_removeStation_12 rfl rfl ?_
  refine r_cVV (as := []) (S := []) C r.px 16 (ct_X4_beginChange  _ _ _ h) dX4_removeStation_13 rfl cl6 kd_0 wd_24 wd_718 rfl wd_716 wd_719 wd_90 yd_X4_beginChange ⟨Nat.le_of_ble_eq_true rfl, Nat.le_of_ble_eq_true rfl⟩ (Nat.le_of_ble_eq_true rfl) (by decide) (fun σ13 h => ?_)
  refine r_aload_n (j := 0) C 17 dX4_removeStation_16 rfl rfl ?_
  refine r_get (k := 0) C cl6 20 dX4_removeStation_17 rfl kd_0 (by decide) wd_358 (.ref 1) (fun _ => rfl) ?_
  refine r_iload_n (j := 1) C 21 dX4_removeStation_20 rfl rfl ?_
  refine r_cVV (as := [.int p0]) (S := []) C r.px 24 (ct_X0_dropStation _ _ _ _ _ h) dX4_removeStation_21 rfl cl2 kd_1 wd_837 wd_836 rfl wd_835 wd_838 wd_91 yd_X0_dropStation ⟨Nat.le_of_ble_eq_true rfl, Nat.le_of_ble_eq_true rfl⟩ (Nat.le_of_ble_eq_true rfl) (by decide) (fun σ21 h => ?_)
  refine r_aload_n (j := 0) C 25 dX4_removeStation_24 rfl rfl ?_
  refine r_cVV (as := []) (S := []) C r.px 28 (ct_X4_endChange  _ _ _ h) dX4_removeStation_25 rfl cl6 kd_0 wd_25 wd_722 rfl wd_720 wd_723 wd_90 yd_X4_endChange ⟨Nat.le_of_ble_eq_true rfl, Nat.le_of_ble_eq_true rfl⟩ (Nat.le_of_ble_eq_true rfl) (by decide) (fun σ25 h => ?_)
  refine r_aload_n (j := 0) C 29 dX4_removeStation_28 rfl rfl ?_
  refine r_get (k := 0) C cl6 32 dX4_removeStation_29 rfl kd_0 (by decide) wd_358 (.ref 1) (fun _ => rfl) ?_
  refine r_cVI (as := []) (S := []) C r.px 35 (ct_X0_stationCount _ _ _ _ h) dX4_removeStation_32 rfl cl2 kd_1 wd_822 wd_821 rfl wd_820 wd_823 wd_91 yd_X0_stationCount ⟨Nat.le_of_ble_eq_true rfl, Nat.le_of_ble_eq_true rfl⟩ (Nat.le_of_ble_eq_true rfl) (by decide) (fun r32 σ32 h => ?_)
  exact r_iret (S := []) C r dX4_removeStation_35 (by decide) rfl h
theorem ct_X4_removeStation (p0 : Int32) (σ : Mem) (K : Int32 → Mem → Prop) (X : String → Mem → Prop) (h : sp_X4_removeStation p0 σ K X) : CtI yX4_removeStation cX4_removeStation 2 (some .int) 9 1 [.ref 0, .int p0] σ K X := by
  have h := h
  exact ctI_of (by decide +kernel) (Nat.le_of_ble_eq_true rfl) (fun x C r => sg_X4_removeStation_0 C r p0  σ h)
