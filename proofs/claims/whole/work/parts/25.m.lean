/-! HeatNetwork$Network.partOf(I)I: level 1, exceptions 0 -/
def sp_X0_partOf (a : Nat) (p0 : Int32) (σ : Mem) (K : Int32 → Mem → Prop) (X : String → Mem → Prop) : Prop := NetA a ∧ ∃ (g : Gr) (n : Nat), WG g ∧ GC σ a g ∧ n < 10 ∧ p0 = nI n ∧ ∀ y : Int32, Bs y (fun i => decide (i ∈ nds (bfs g n))) → K y σ
set_option maxRecDepth 4000 in
theorem sg_X0_partOf_0 {x : Ctx} {K : Int32 → Mem → Prop} {X : String → Mem → Prop} (C : Cx x RX0 cX0_partOf 7) (r : RtI x 1 0 (some .int) K X) (a : Nat) (p0 : Int32) (ha : NetA a) (σ : Mem) (h : ∀ v3 : Int32, v3 = (1 <<< (p0 &&& 31)) → Ws x 0 9 [(0, .ref a), (2, .int v3), (3, .int 0), (4, .int 0)] [] σ) : Ws x 0 0 [(0, .ref a), (1, .int p0)] [] σ := by
  refine r_iconst C 1 (v := 1) dX0_partOf_0 rfl (by decide) ?_
  refine r_iload_n (j := 1) C 2 dX0_partOf_1 rfl rfl ?_
  refine r_ishl C 3 dX0_partOf_2 rfl ?_
  refine r_nmI (fun v3 e3 => ?_)
  have h := h v3 e3
  refine r_istore_n C 4 [(2, .int v3), (0, .ref a), (1, .int p0)] dX0_partOf_3 rfl (by decide) rfl ?_
  refine r_iconst C 5 (v := 0) dX0_partOf_4 rfl (by decide) ?_
  refine r_istore_n C 6 [(3, .int 0), (2, .int v3), (0, .ref a), (1, .int p0)] dX0_partOf_5 rfl (by decide) rfl ?_
  refine r_iconst C 7 (v := 0) dX0_partOf_6 rfl (by decide) ?_
  refine r_istore C 9 [(4, .int 0), (3, .int 0), (2, .int v3), (0, .ref a), (1, .int p0)] dX0_partOf_7 rfl (by decide) rfl ?_
  exact Ws_pick [3, 2, 1, 0] rfl h
set_option maxRecDepth 4000 in
theorem sg_X0_partOf_9 {x : Ctx} {K : Int32 → Mem → Prop} {X : String → Mem → Prop} (C : Cx x RX0 cX0_partOf 7) (r : RtI x 1 0 (some .int) K X) (a : Nat) (i2 : Int32) (i3 : Int32) (i4 : Int32) (ha : NetA a) (σ : Mem) (h : (10 ≤ i4 → K i2 σ) ∧ (¬ 10 ≤ i4 → (i2 = i3 → K i2 σ) ∧ (¬ i2 = i3 → Ws x 0 26 [(0, .ref a), (2, .int i2), (3, .int i2), (4, .int i4), (5, .int 0)] [] σ))) : Ws x 0 9 [(0, .ref a), (2, .int i2), (3, .int i3), (4, .int i4)] [] σ := by
  refine r_iload (j := 3) C 11 dX0_partOf_9 rfl rfl ?_
  refine r_bipush C 13 (v := 10) dX0_partOf_11 rfl (by decide) ?_
  refine r_icmp_ge C 80 16 dX0_partOf_13 (by decide) rfl (fun c13 => ?_) (fun c13 => ?_)
  · have h := h.1 c13
    refine r_iload_n (j := 1) C 81 dX0_partOf_80 rfl rfl ?_
    exact r_iret (S := []) C r dX0_partOf_81 (by decide) rfl h
  · have h := h.2 c13
    refine r_iload_n (j := 1) C 17 dX0_partOf_16 rfl rfl ?_
    refine r_iload_n (j := 2) C 18 dX0_partOf_17 rfl rfl ?_
    refine r_icmp_eq C 80 21 dX0_partOf_18 (by decide) rfl (fun c18 => ?_) (fun c18 => ?_)
    · have h := h.1 c18
      refine r_iload_n (j := 1) C 81 dX0_partOf_80 rfl rfl ?_
      exact r_iret (S := []) C r dX0_partOf_81 (by decide) rfl h
    · have h := h.2 c18
      refine r_iload_n (j := 1) C 22 dX0_partOf_21 rfl rfl ?_
      refine r_istore_n C 23 [(3, .int i2), (0, .ref a), (2, .int i2), (4, .int i4)] dX0_partOf_22 rfl (by decide) rfl ?_
      refine r_iconst C 24 (v := 0) dX0_partOf_23 rfl (by decide) ?_
      refine r_istore C 26 [(5, .int 0), (3, .int i2), (0, .ref a), (2, .int i2), (4, .int i4)] dX0_partOf_24 rfl (by decide) rfl ?_
      exact Ws_pick [2, 3, 1, 4, 0] rfl h
set_option maxRecDepth 4000 in
theorem sg_X0_partOf_26 {x : Ctx} {K : Int32 → Mem → Prop} {X : String → Mem → Prop} (C : Cx x RX0 cX0_partOf 7) (r : RtI x 1 0 (some .int) K X) (a : Nat) (i2 : Int32) (i3 : Int32) (i4 : Int32) (i5 : Int32) (ha : NetA a) (σ : Mem) (h : ((σ.1 a 1) ≤ i5 → ∀ v74 : Int32, v74 = i4 + 1 → Ws x 0 9 [(0, .ref a), (2, .int i2), (3, .int i3), (4, .int v74)] [] σ) ∧ (¬ (σ.1 a 1) ≤ i5 → (vp_in i5 10) ∧ ((vp_in i5 10) ∧ (∀ v54 : Int32, v54 = ((1 <<< ((σ.1 (a + 2) i5.toNatClampNeg) &&& 31)) ||| (1 <<< ((σ.1 (a + 3) i5.toNatClampNeg) &&& 31))) → ((i2 &&& v54) = 0 → ∀ v68 : Int32, v68 = i5 + 1 → Ws x 0 26 [(0, .ref a), (2, .int i2), (3, .int i3), (4, .int i4), (5, .int v68)] [] σ) ∧ (¬ (i2 &&& v54) = 0 → ∀ v67 : Int32, v67 = (i2 ||| v54) → ∀ v68 : Int32, v68 = i5 + 1 → Ws x 0 26 [(0, .ref a), (2, .int v67), (3, .int i3), (4, .int i4), (5, .int v68)] [] σ))))) : Ws x 0 26 [(0, .ref a), (2, .int i2), (3, .int i3), (4, .int i4), (5, .int i5)] [] σ := by
  refine r_iload (j := 4) C 28 dX0_partOf_26 rfl rfl ?_
  refine r_aload_n (j := 0) C 29 dX0_partOf_28 rfl rfl ?_
  refine r_get (k := 1) C cl2 32 dX0_partOf_29 rfl (net0 ha) (by decide) wd_137 (.int (σ.1 a 1)) (fun _ => rfl) ?_
  refine r_icmp_ge C 74 35 dX0_partOf_32 (by decide) rfl (fun c32 => ?_) (fun c32 => ?_)
  · have h := h.1 c32
    obtain ⟨v74, e74⟩ : ∃ y : Int32, y = i4 + 1 := ⟨_, rfl⟩
    have h := h v74 e74
    refine r_iinc (j := 3) C 77 [(4, .int v74), (0, .ref a), (2, .int i2), (3, .int i3), (5, .int i5)] dX0_partOf_74 rfl rfl (by rw [e74]; rfl) (by decide) rfl ?_
    refine r_goto C 9 dX0_partOf_77 (by decide) ?_
    exact Ws_pick [1, 2, 3, 0] rfl h
  · have h := h.2 c32
    refine r_iconst C 36 (v := 1) dX0_partOf_35 rfl (by decide) ?_
    refine r_aload_n (j := 0) C 37 dX0_partOf_36 rfl rfl ?_
    refine r_get (k := 2) C cl2 40 dX0_partOf_37 rfl (net0 ha) (by decide) wd_140 (.ref (a + 2)) (fun _ => rfl) ?_
    refine r_iload (j := 4) C 42 dX0_partOf_40 rfl rfl ?_
    obtain ⟨o42, h⟩ := h
    refine r_iald C 43 dX0_partOf_42 rfl (net2 ha) o42 ?_
    refine r_ishl C 44 dX0_partOf_43 rfl ?_
    refine r_iconst C 45 (v := 1) dX0_partOf_44 rfl (by decide) ?_
    refine r_aload_n (j := 0) C 46 dX0_partOf_45 rfl rfl ?_
    refine r_get (k := 3) C cl2 49 dX0_partOf_46 rfl (net0 ha) (by decide) wd_144 (.ref (a + 3)) (fun _ => rfl) ?_
    refine r_iload (j := 4) C 51 dX0_partOf_49 rfl rfl ?_
    obtain ⟨o51, h⟩ := h
    refine r_iald C 52 dX0_partOf_51 rfl (net3 ha) o51 ?_
    refine r_ishl C 53 dX0_partOf_52 rfl ?_
    refine r_ior C 54 dX0_partOf_53 rfl ?_
    refine r_nmI (fun v54 e54 => ?_)
    have h := h v54 e54
    refine r_istore C 56 [(6, .int v54), (0, .ref a), (2, .int i2), (3, .int i3), (4, .int i4), (5, .int i5)] dX0_partOf_54 rfl (by decide) rfl ?_
    refine r_iload_n (j := 2) C 57 dX0_partOf_56 rfl rfl ?_
    refine r_iload (j := 0) C 59 dX0_partOf_57 rfl rfl ?_
    refine r_iand C 60 dX0_partOf_59 rfl ?_
    refine r_if_eq C 68 63 dX0_partOf_60 (by decide) rfl (fun c60 => ?_) (fun c60 => ?_)
    · have h := h.1 c60
      obtain ⟨v68, e68⟩ : ∃ y : Int32, y = i5 + 1 := ⟨_, rfl⟩
      have h := h v68 e68
      refine r_iinc (j := 5) C 71 [(5, .int v68), (6, .int v54), (0, .ref a), (2, .int i2), (3, .int i3), (4, .int i4)] dX0_partOf_68 rfl rfl (by rw [e68]; rfl) (by decide) rfl ?_
      refine r_goto C 26 dX0_partOf_71 (by decide) ?_
      exact Ws_pick [2, 3, 4, 5, 0] rfl h
    · have h := h.2 c60
      refine r_iload_n (j := 2) C 64 dX0_partOf_63 rfl rfl ?_
      refine r_iload (j := 0) C 66 dX0_partOf_64 rfl rfl ?_
      refine r_ior C 67 dX0_partOf_66 rfl ?_
      refine r_nmI (fun v67 e67 => ?_)
      have h := h v67 e67
      refine r_istore_n C 68 [(2, .int v67), (6, .int v54), (0, .ref a), (3, .int i3), (4, .int i4), (5, .int i5)] dX0_partOf_67 rfl (by decide) rfl ?_
      obtain ⟨v68, e68⟩ : ∃ y : Int32, y = i5 + 1 := ⟨_, rfl⟩
      have h := h v68 e68
      refine r_iinc (j := 5) C 71 [(5, .int v68), (2, .int v67), (6, .int v54), (0, .ref a), (3, .int i3), (4, .int i4)] dX0_partOf_68 rfl rfl (by rw [e68]; rfl) (by decide) rfl ?_
      refine r_goto C 26 dX0_partOf_71 (by decide) ?_
      exact Ws_pick [3, 1, 4, 5, 0] rfl h
theorem vc_X0_partOf {x : Ctx} {K : Int32 → Mem → Prop} {X : String → Mem → Prop} (C : Cx x RX0 cX0_partOf 7) (r : RtI x 1 0 (some .int) K X) (a : Nat) (p0 : Int32) (σ : Mem) (h : sp_X0_partOf a p0 σ K X) : Ws x 0 0 [(0, .ref a), (1, .int p0)] [] σ := by
  obtain ⟨ha, g, n, hg, hG, hn, e1, hK⟩ := h
  have hP := hg.1
  have hT := bfs_tre hg hn
  -- closed: this is the part
  have fin : ∀ (y : Int32) (S : Nat → Bool), Bs y S → S n = true → (∀ i, i < 10 → S i = true → Rch g n i) → (∀ q, q < g.1 → S (g.2.1 q) = S (g.2.2 q)) → K y σ := by
    intro y S hy hs hr hc
    refine hK y (hy.congr (fun i hi => ?_))
    have : S i = true ↔ i ∈ nds (bfs g n) := by
      rw [hT.rch i]
      refine ⟨hr i hi, fun q => q (fun m => S m = true) hs (fun p m e hp hac hm => ?_)⟩
      have := hc p hp
      rcases ac_two (ac_ends hg hp).1 hac with ⟨z1, z2⟩ | ⟨z1, z2⟩
      · rw [z2, ← this, ← z1]; exact hm
      · rw [z1, this, ← z2]; exact hm
    by_cases c : i ∈ nds (bfs g n)
    · rw [this.mpr c, decide_eq_true c]
    · rw [decide_eq_false c]
      cases hh : S i
      · rfl
      · exact absurd (this.mp hh) c
  rw [e1]
  refine sg_X0_partOf_0 C r a _ ha σ (fun v3 e3 => ?_)
  rw [e3]
  refine cnt 10 (fun k (s : Int32 × Int32) => ∃ S : Nat → Bool, Bs s.1 S ∧ S n = true ∧ (∀ i, i < 10 → S i = true → Rch g n i) ∧ ((s.1 = s.2 ∧ ∀ q, q < g.1 → S (g.2.1 q) = S (g.2.2 q)) ∨ (s.1 ≠ s.2 ∧ k + 1 ≤ ctB S 10))) (fun k s => Ws x 0 9 [(0, .ref a), (2, .int s.1), (3, .int s.2), (4, .int (nI k))] [] σ) ?_ ?_ 0 ((1 : Int32) <<< (nI n &&& 31), 0) (Nat.zero_le _) ⟨fun i => decide (i = n), Bs.one hn, by simp, fun i _ q S h0 _ => by rw [of_decide_eq_true q]; exact h0, .inr ⟨fun q => ?_, ctB_ge1 hn (by simp)⟩⟩
  · rintro s ⟨S, s1, s2, s3, s4⟩
    refine sg_X0_partOf_9 C r a _ _ _ ha σ ⟨fun _ => ?_, fun q => (lit_lt (by decide) (Nat.le_refl 10) (by decide) q).elim⟩
    rcases s4 with ⟨-, c⟩ | ⟨-, c⟩
    · exact fin _ S s1 s2 s3 c
    · have := ctB_le S 10
      omega
  · rintro k s hk ⟨S, s1, s2, s3, s4⟩ ih
    refine sg_X0_partOf_9 C r a _ _ _ ha σ ⟨fun q => (lit_ge (by decide) hk q).elim, fun _ => ⟨fun q => ?_, fun q => ?_⟩⟩
    · rcases s4 with ⟨-, c⟩ | ⟨c, -⟩
      · exact fin _ S s1 s2 s3 c
      · exact absurd q c
    · have hct : k + 1 ≤ ctB S 10 := by
        rcases s4 with ⟨c, -⟩ | ⟨-, c⟩
        · exact absurd c q
        · exact c
      refine cnt g.1 (fun p (y : Int32) => ∃ T : Nat → Bool, Bs y T ∧ (∀ i, i < 10 → S i = true → T i = true) ∧ (∀ i, i < 10 → T i = true → Rch g n i) ∧ ((∀ i, i < 10 → T i = S i) → ∀ q, q < p → S (g.2.1 q) = S (g.2.2 q))) (fun p y => Ws x 0 26 [(0, .ref a), (2, .int y), (3, .int s.1), (4, .int (nI k)), (5, .int (nI p))] [] σ) ?_ ?_ 0 s.1 (Nat.zero_le _) ⟨S, s1, fun _ _ w => w, s3, fun _ q hq => absurd hq (Nat.not_lt_zero q)⟩
      · rintro y ⟨T, t1, t2, t3, t4⟩
        refine sg_X0_partOf_26 C r a _ _ _ _ ha σ ?_
        rw [hG.1]
        refine ⟨fun _ v74 e74 => ?_, fun c => absurd (nI_le (Nat.le_refl g.1) (by omega)) c⟩
        rw [e74, nI_1]
        refine ih (y, s.1) ⟨T, t1, t2 n hn s2, t3, ?_⟩
        by_cases c : y = s.1
        · left
          have e : ∀ i, i < 10 → T i = S i := fun i hi => by
            have t1' : Bs s.1 T := by rw [← c]; exact t1
            exact t1'.inj s1 hi
          refine ⟨c, fun q hq => ?_⟩
          obtain ⟨w1, w2, -⟩ := hg.2 q hq
          rw [e _ w1, e _ w2]
          exact t4 e q hq
        · right
          refine ⟨c, ?_⟩
          have hx : ∃ i, i < 10 ∧ T i = true ∧ ¬ S i = true := by
            apply Classical.byContradiction
            intro w
            apply c
            refine t1.eq (s1.congr (fun i hi => ?_))
            cases hs : S i
            · cases ht : T i
              · rfl
              · exact absurd ⟨i, hi, ht, by rw [hs]; decide⟩ w
            · exact (t2 i hi hs).symm
          have := ctB_lt (f := S) (g := T) (n := 10) t2 hx
          show k + 1 + 1 ≤ ctB T 10
          omega
      · rintro p y hp ⟨T, t1, t2, t3, t4⟩ ihp
        obtain ⟨g1, g2⟩ := hG.2 p hp
        obtain ⟨w1, w2, -⟩ := hg.2 p hp
        refine sg_X0_partOf_26 C r a _ _ _ _ ha σ ?_
        rw [hG.1, n_cl (n := p) (by omega), g1, g2]
        refine ⟨fun c => absurd (n_le (by omega) (by omega) c) (by omega), fun _ => ⟨n_inR (by omega) (by decide), n_inR (by omega) (by decide), fun v54 e54 => ?_⟩⟩
        have hb : Bs v54 (fun i => decide (i = g.2.1 p) || decide (i = g.2.2 p)) := by rw [e54]; exact (Bs.one w1).or (Bs.one w2)
        have hz := t1.and0 hb
        refine ⟨fun c v68 e68 => ?_, fun c v67 e67 v68 e68 => ?_⟩
        · rw [e68, nI_1]
          refine ihp y ⟨T, t1, t2, t3, fun e q hq => ?_⟩
          by_cases d : q = p
          · have f1 := hz.mp c _ w1
            have f2 := hz.mp c _ w2
            simp at f1 f2
            rw [d, ← e _ w1, ← e _ w2, f1, f2]
          · exact t4 e q (by omega)
        · rw [e68, nI_1]
          have hm : T (g.2.1 p) = true ∨ T (g.2.2 p) = true := by
            apply Classical.byContradiction
            intro w
            refine c (hz.mpr (fun i hi ⟨z1, z2⟩ => w ?_))
            simp at z2
            rcases z2 with z2 | z2
            · rw [← z2]; exact .inl z1
            · rw [← z2]; exact .inr z1
          have hr : Rch g n (g.2.1 p) ∧ Rch g n (g.2.2 p) := by
            rcases hm with z | z
            · have := t3 _ w1 z
              exact ⟨this, fun S h0 hS => hS _ _ _ hp (ac_ends hg hp).1 (this S h0 hS)⟩
            · have := t3 _ w2 z
              exact ⟨fun S h0 hS => hS _ _ _ hp (ac_ends hg hp).2 (this S h0 hS), this⟩
          refine ihp v67 ⟨fun i => T i || (decide (i = g.2.1 p) || decide (i = g.2.2 p)), by rw [e67]; exact t1.or hb, fun i hi z => by simp [t2 i hi z], fun i hi z => ?_, fun e q hq => ?_⟩
          · simp at z
            rcases z with z | z | z
            · exact t3 i hi z
            · rw [z]; exact hr.1
            · rw [z]; exact hr.2
          · have e1 := e _ w1
            have e2 := e _ w2
            simp at e1 e2
            by_cases d : q = p
            · rw [d, e1, e2]
            · refine t4 (fun i hi => ?_) q (by omega)
              cases hs : S i
              · have := e i hi
                rw [hs] at this
                simp at this
                exact this.1
              · exact t2 i hi hs
  · have := Bs.one hn n
    have q : (1 : Int32) <<< (nI n &&& 31) = 0 := q
    rw [q, bi_0] at this
    simp [hn] at this
theorem ct_X0_partOf (a : Nat) (p0 : Int32) (σ : Mem) (K : Int32 → Mem → Prop) (X : String → Mem → Prop) (h : sp_X0_partOf a p0 σ K X) : CtI yX0_partOf cX0_partOf 7 (some .int) 1 0 [.ref a, .int p0] σ K X :=
  ctI_of (by decide +kernel) (Nat.le_of_ble_eq_true rfl) (fun x C r => vc_X0_partOf C r a p0 σ h)
/-! HeatNetwork$Network.pipeReason(IIII)I: level 3, exceptions 0 -/
def sp_X0_pipeReason (a : Nat) (p0 : Int32) (p1 : Int32) (p2 : Int32) (p3 : Int32) (σ : Mem) (K : Int32 → Mem → Prop) (X : String → Mem → Prop) : Prop := (NetA a) ∧ (sp_X4_isNode p0 σ (fun r1 σ1 => (r1 = 0 → K 1 σ1) ∧ (¬ r1 = 0 → sp_X4_isNode p1 σ1 (fun r8 σ8 => (¬ r8 = 0 → sp_X4_isWithin p2 1 99 σ8 (fun r20 σ20 => (r20 = 0 → K 2 σ20) ∧ (¬ r20 = 0 → sp_X4_isWithin p3 1 9 σ20 (fun r31 σ31 => (¬ r31 = 0 → (p0 = p1 → K 3 σ31) ∧ (¬ p0 = p1 → sp_X0_hasPipe a p0 p1 σ31 (fun r47 σ47 => (r47 = 0 → ((σ47.1 a 1) < 10 → sp_X0_partOf a p0 σ47 (fun r68 σ68 => sp_X0_partOf a p1 σ68 (fun r73 σ73 => ∀ v77 : Int32, v77 = (r68 ||| r73) → sp_X0_pipesWithin a v77 σ73 (fun r82 σ82 => sp_J6_bitCount_0f7a4 v77 σ82 (fun r89 σ89 => ((r82 + 1) ≤ r89 → K 0 σ89) ∧ (¬ (r82 + 1) ≤ r89 → K 5 σ89)) X) X) X) X) ∧ (¬ (σ47.1 a 1) < 10 → K 4 σ47)) ∧ (¬ r47 = 0 → K 3 σ47)) X)) ∧ (r31 = 0 → K 2 σ31)) X)) X) ∧ (r8 = 0 → K 1 σ8)) X)) X)
set_option maxRecDepth 4000 in
theorem sg_X0_pipeReason_0 {x : Ctx} {K : Int32 → Mem → Prop} {X : String → Mem → Prop} (C : Cx x RX0 cX0_pipeReason 6) (r : RtI x 3 0 (some .int) K X) (a : Nat) (p0 : Int32) (p1 : Int32) (p2 : Int32) (p3 : Int32) (ha : NetA a) (σ : Mem) (h : sp_X4_isNode p0 σ (fun r1 σ1 => (r1 = 0 → K 1 σ1) ∧ (¬ r1 = 0 → sp_X4_isNode p1 σ1 (fun r8 σ8 => (¬ r8 = 0 → sp_X4_isWithin p2 1 99 σ8 (fun r20 σ20 => (r20 = 0 → K 2 σ20) ∧ (¬ r20 = 0 → sp_X4_isWithin p3 1 9 σ20 (fun r31 σ31 => (¬ r31 = 0 → (p0 = p1 → K 3 σ31) ∧ (¬ p0 = p1 → sp_X0_hasPipe a p0 p1 σ31 (fun r47 σ47 => (r47 = 0 → ((σ47.1 a 1) < 10 → sp_X0_partOf a p0 σ47 (fun r68 σ68 => sp_X0_partOf a p1 σ68 (fun r73 σ73 => ∀ v77 : Int32, v77 = (r68 ||| r73) → sp_X0_pipesWithin a v77 σ73 (fun r82 σ82 => sp_J6_bitCount_0f7a4 v77 σ82 (fun r89 σ89 => ((r82 + 1) ≤ r89 → K 0 σ89) ∧ (¬ (r82 + 1) ≤ r89 → K 5 σ89)) X) X) X) X) ∧ (¬ (σ47.1 a 1) < 10 → K 4 σ47)) ∧ (¬ r47 = 0 → K 3 σ47)) X)) ∧ (r31 = 0 → K 2 σ31)) X)) X) ∧ (r8 = 0 → K 1 σ8)) X)) X) : Ws x 0 0 [(0, .ref a), (1, .int p0), (2, .int p1), (3, .int p2), (4, .int p3)] [] σ := by
  refine r_iload_n (j := 1) C 1 dX0_pipeReason_0 rfl rfl ?_
  refine r_cNI (b := 0) (as := [.int p0]) (S := []) C r.px 4 (ct_X4_isNode _ _ _ _ h) dX0_pipeReason_1 rfl wd_429 (nbd_470) wd_430 wd_90 yd_X4_isNode ⟨Nat.le_of_ble_eq_true rfl, Nat.le_of_ble_eq_true rfl⟩ (Nat.le_of_ble_eq_true rfl) (by decide) (fun r1 σ1 h => ?_)
  refine r_if_eq C 14 7 dX0_pipeReason_4 (by decide) rfl (fun c4 => ?_) (fun c4 => ?_)
  · have h := h.1 c4
    refine r_iconst C 15 (v := 1) dX0_pipeReason_14 rfl (by decide) ?_
    exact r_iret (S := []) C r dX0_pipeReason_15 (by decide) rfl h
  · have h := h.2 c4
    refine r_iload_n (j := 2) C 8 dX0_pipeReason_7 rfl rfl ?_
    refine r_cNI (b := 0) (as := [.int p1]) (S := []) C r.px 11 (ct_X4_isNode _ _ _ _ h) dX0_pipeReason_8 rfl wd_429 (nbd_470) wd_430 wd_90 yd_X4_isNode ⟨Nat.le_of_ble_eq_true rfl, Nat.le_of_ble_eq_true rfl⟩ (Nat.le_of_ble_eq_true rfl) (by decide) (fun r8 σ8 h => ?_)
    refine r_if_ne C 16 14 dX0_pipeReason_11 (by decide) rfl (fun c11 => ?_) (fun c11 => ?_)
    · have h := h.1 c11
      refine r_iload_n (j := 3) C 17 dX0_pipeReason_16 rfl rfl ?_
      refine r_iconst C 18 (v := 1) dX0_pipeReason_17 rfl (by decide) ?_
      refine r_bipush C 20 (v := 99) dX0_pipeReason_18 rfl (by decide) ?_
      refine r_cNI (b := 0) (as := [.int p2, .int 1, .int 99]) (S := []) C r.px 23 (ct_X4_isWithin _ _ _ _ _ _ h) dX0_pipeReason_20 rfl wd_432 (nbd_744) wd_433 wd_90 yd_X4_isWithin ⟨Nat.le_of_ble_eq_true rfl, Nat.le_of_ble_eq_true rfl⟩ (Nat.le_of_ble_eq_true rfl) (by decide) (fun r20 σ20 h => ?_)
      refine r_if_eq C 37 26 dX0_pipeReason_23 (by decide) rfl (fun c23 => ?_) (fun c23 => ?_)
      · have h := h.1 c23
        refine r_iconst C 38 (v := 2) dX0_pipeReason_37 rfl (by decide) ?_
        exact r_iret (S := []) C r dX0_pipeReason_38 (by decide) rfl h
      · have h := h.2 c23
        refine r_iload (j := 4) C 28 dX0_pipeReason_26 rfl rfl ?_
        refine r_iconst C 29 (v := 1) dX0_pipeReason_28 rfl (by decide) ?_
        refine r_bipush C 31 (v := 9) dX0_pipeReason_29 rfl (by decide) ?_
        refine r_cNI (b := 0) (as := [.int p3, .int 1, .int 9]) (S := []) C r.px 34 (ct_X4_isWithin _ _ _ _ _ _ h) dX0_pipeReason_31 rfl wd_432 (nbd_744) wd_433 wd_90 yd_X4_isWithin ⟨Nat.le_of_ble_eq_true rfl, Nat.le_of_ble_eq_true rfl⟩ (Nat.le_of_ble_eq_true rfl) (by decide) (fun r31 σ31 h => ?_)
        refine r_if_ne C 39 37 dX0_pipeReason_34 (by decide) rfl (fun c34 => ?_) (fun c34 => ?_)
        · have h := h.1 c34
          refine r_iload_n (j := 1) C 40 dX0_pipeReason_39 rfl rfl ?_
          refine r_iload_n (j := 2) C 41 dX0_pipeReason_40 rfl rfl ?_
          refine r_icmp_eq C 53 44 dX0_pipeReason_41 (by decide) rfl (fun c41 => ?_) (fun c41 => ?_)
          · have h := h.1 c41
            refine r_iconst C 54 (v := 3) dX0_pipeReason_53 rfl (by decide) ?_
            exact r_iret (S := []) C r dX0_pipeReason_54 (by decide) rfl h
          · have h := h.2 c41
            refine r_aload_n (j := 0) C 45 dX0_pipeReason_44 rfl rfl ?_
            refine r_iload_n (j := 1) C 46 dX0_pipeReason_45 rfl rfl ?_
            refine r_iload_n (j := 2) C 47 dX0_pipeReason_46 rfl rfl ?_
            refine r_cVI (as := [.int p0, .int p1]) (S := []) C r.px 50 (ct_X0_hasPipe _ _ _ _ _ _ h) dX0_pipeReason_47 rfl cl2 (net0 ha) wd_747 wd_746 rfl wd_745 wd_748 wd_91 yd_X0_hasPipe ⟨Nat.le_of_ble_eq_true rfl, Nat.le_of_ble_eq_true rfl⟩ (Nat.le_of_ble_eq_true rfl) (by decide) (fun r47 σ47 h => ?_)
            refine r_if_eq C 55 53 dX0_pipeReason_50 (by decide) rfl (fun c50 => ?_) (fun c50 => ?_)
            · have h := h.1 c50
              refine r_aload_n (j := 0) C 56 dX0_pipeReason_55 rfl rfl ?_
              refine r_get (k := 1) C cl2 59 dX0_pipeReason_56 rfl (net0 ha) (by decide) wd_137 (.int (σ47.1 a 1)) (fun _ => rfl) ?_
              refine r_bipush C 61 (v := 10) dX0_pipeReason_59 rfl (by decide) ?_
              refine r_icmp_lt C 66 64 dX0_pipeReason_61 (by decide) rfl (fun c61 => ?_) (fun c61 => ?_)
              · have h := h.1 c61
                refine r_aload_n (j := 0) C 67 dX0_pipeReason_66 rfl rfl ?_
                refine r_iload_n (j := 1) C 68 dX0_pipeReason_67 rfl rfl ?_
                refine r_cVI (as := [.int p0]) (S := []) C r.px 71 (ct_X0_partOf _ _ _ _ _ h) dX0_pipeReason_68 rfl cl2 (net0 ha) wd_752 wd_751 rfl wd_750 wd_753 wd_91 yd_X0_partOf ⟨Nat.le_of_ble_eq_true rfl, Nat.le_of_ble_eq_true rfl⟩ (Nat.le_of_ble_eq_true rfl) (by decide) (fun r68 σ68 h => ?_)
                refine r_aload_n (j := 0) C 72 dX0_pipeReason_71 rfl rfl ?_
                refine r_iload_n (j := 2) C 73 dX0_pipeReason_72 rfl rfl ?_
                refine r_cVI (as := [.int p1]) (S := [.int r68]) C r.px 76 (ct_X0_partOf _ _ _ _ _ h) dX0_pipeReason_73 rfl cl2 (net0 ha) wd_752 wd_751 rfl wd_750 wd_753 wd_91 yd_X0_partOf ⟨Nat.le_of_ble_eq_true rfl, Nat.le_of_ble_eq_true rfl⟩ (Nat.le_of_ble_eq_true rfl) (by decide) (fun r73 σ73 h => ?_)
                refine r_ior C 77 dX0_pipeReason_76 rfl ?_
                refine r_nmI (fun v77 e77 => ?_)
                have h := h v77 e77
                refine r_istore C 79 [(5, .int v77), (0, .ref a), (1, .int p0), (2, .int p1), (3, .int p2), (4, .int p3)] dX0_pipeReason_77 rfl (by decide) rfl ?_
                refine r_aload_n (j := 1) C 80 dX0_pipeReason_79 rfl rfl ?_
                refine r_iload (j := 0) C 82 dX0_pipeReason_80 rfl rfl ?_
                refine r_cVI (as := [.int v77]) (S := []) C r.px 85 (ct_X0_pipesWithin _ _ _ _ _ h) dX0_pipeReason_82 rfl cl2 (net0 ha) wd_756 wd_755 rfl wd_754 wd_757 wd_91 yd_X0_pipesWithin ⟨Nat.le_of_ble_eq_true rfl, Nat.le_of_ble_eq_true rfl⟩ (Nat.le_of_ble_eq_true rfl) (by decide) (fun r82 σ82 h => ?_)
                refine r_iconst C 86 (v := 1) dX0_pipeReason_85 rfl (by decide) ?_
                refine r_iadd C 87 dX0_pipeReason_86 rfl ?_
                refine r_iload (j := 0) C 89 dX0_pipeReason_87 rfl rfl ?_
                refine r_cSI (b := 0) (as := [.int v77]) (S := [.int (r82 + 1)]) C r.px 92 (ct_J6_bitCount_0f7a4 _ _ _ _ h) dX0_pipeReason_89 rfl wd_759 wd_758 wd_760 wd_105 yd_J6_bitCount_0f7a4 ⟨Nat.le_of_ble_eq_true rfl, Nat.le_of_ble_eq_true rfl⟩ (Nat.le_of_ble_eq_true rfl) (by decide) (fun r89 σ89 h => ?_)
                refine r_icmp_le C 99 95 dX0_pipeReason_92 (by decide) rfl (fun c92 => ?_) (fun c92 => ?_)
                · have h := h.1 c92
                  refine r_iconst C 100 (v := 0) dX0_pipeReason_99 rfl (by decide) ?_
                  exact r_iret (S := []) C r dX0_pipeReason_100 (by decide) rfl h
                · have h := h.2 c92
                  refine r_iconst C 96 (v := 5) dX0_pipeReason_95 rfl (by decide) ?_
                  refine r_goto C 100 dX0_pipeReason_96 (by decide) ?_
                  exact r_iret (S := []) C r dX0_pipeReason_100 (by decide) rfl h
              · have h := h.2 c61
                refine r_iconst C 65 (v := 4) dX0_pipeReason_64 rfl (by decide) ?_
                exact r_iret (S := []) C r dX0_pipeReason_65 (by decide) rfl h
            · have h := h.2 c50
              refine r_iconst C 54 (v := 3) dX0_pipeReason_53 rfl (by decide) ?_
              exact r_iret (S := []) C r dX0_pipeReason_54 (by decide) rfl h
        · have h := h.2 c34
          refine r_iconst C 38 (v := 2) dX0_pipeReason_37 rfl (by decide) ?_
          exact r_iret (S := []) C r dX0_pipeReason_38 (by decide) rfl h
    · have h := h.2 c11
      refine r_iconst C 15 (v := 1) dX0_pipeReason_14 rfl (by decide) ?_
      exact r_iret (S := []) C r dX0_pipeReason_15 (by decide) rfl h
theorem ct_X0_pipeReason (a : Nat) (p0 : Int32) (p1 : Int32) (p2 : Int32) (p3 : Int32) (σ : Mem) (K : Int32 → Mem → Prop) (X : String → Mem → Prop) (h : sp_X0_pipeReason a p0 p1 p2 p3 σ K X) : CtI yX0_pipeReason cX0_pipeReason 6 (some .int) 3 0 [.ref a, .int p0, .int p1, .int p2, .int p3] σ K X := by
  obtain ⟨ha, h⟩ := h
  exact ctI_of (by decide +kernel) (Nat.le_of_ble_eq_true rfl) (fun x C r => sg_X0_pipeReason_0 C r a p0 p1 p2 p3 ha σ h)
/-! HeatNetworkModel.part(I)I: level 4, exceptions 0 -/
def sp_X5_part (p0 : Int32) (σ : Mem) (K : Int32 → Mem → Prop) (X : String → Mem → Prop) : Prop := ∃ g : Gr, WG g ∧ GM σ g ∧ (∀ (n : Nat) (y : Int32) (τ : Mem), n < 10 → p0 = nI n → ChM (wi σ 209 0 0) τ → Bs y (fun i => decide (i ∈ nds (bfs g n))) → K y τ) ∧ ((¬ (¬ p0 < 0 ∧ ¬ 9 < p0)) → K 0 (wi (wi σ 209 0 0) 209 0 1))
set_option maxRecDepth 4000 in
theorem sg_X5_part_0 {x : Ctx} {K : Int32 → Mem → Prop} {X : String → Mem → Prop} (C : Cx x RX5 cX5_part 4) (r : RtI x 4 0 (some .int) K X) (p0 : Int32)  (σ : Mem) (h : ∀ σ2 : Mem, σ2 = wi σ 209 0 0 → sp_X5_isNode p0 σ2 (fun r6 σ6 => (¬ r6 = 0 → sp_X5_measure p0 σ6 (fun σ20 => Ws x 0 27 [(0, .ref 209), (2, .int 0), (3, .int 0)] [] σ20) X) ∧ (r6 = 0 → sp_X5_raises 1 σ6 (fun r14 σ14 => K r14 σ14) X)) X) : Ws x 0 0 [(0, .ref 209), (1, .int p0)] [] σ := by
  refine r_aload_n (j := 0) C 1 dX5_part_0 rfl rfl ?_
  refine r_iconst C 2 (v := 0) dX5_part_1 rfl (by decide) ?_
  refine r_putI (k := 0) C cl7 5 dX5_part_2 rfl kd_209 (by decide) wd_1212 rfl rfl rfl rfl ?_
  refine r_nmS (fun σ2 e2 => ?_)
  have h := h σ2 e2
  refine r_iload_n (j := 1) C 6 dX5_part_5 rfl rfl ?_
  refine r_cSI (b := 0) (as := [.int p0]) (S := []) C r.px 9 (ct_X5_isNode _ _ _ _ h) dX5_part_6 rfl wd_1356 wd_1355 wd_1357 wd_95 yd_X5_isNode ⟨Nat.le_of_ble_eq_true rfl, Nat.le_of_ble_eq_true rfl⟩ (Nat.le_of_ble_eq_true rfl) (by decide) (fun r6 σ6 h => ?_)
  refine r_if_ne C 18 12 dX5_part_9 (by decide) rfl (fun c9 => ?_) (fun c9 => ?_)
  · have h := h.1 c9
    refine r_aload_n (j := 0) C 19 dX5_part_18 rfl rfl ?_
    refine r_iload_n (j := 1) C 20 dX5_part_19 rfl rfl ?_
    refine r_cVV (as := [.int p0]) (S := []) C r.px 23 (ct_X5_measure _ _ _ _ h) dX5_part_20 rfl cl7 kd_209 wd_48 wd_1372 rfl wd_1370 wd_1373 wd_95 yd_X5_measure ⟨Nat.le_of_ble_eq_true rfl, Nat.le_of_ble_eq_true rfl⟩ (Nat.le_of_ble_eq_true rfl) (by decide) (fun σ20 h => ?_)
    refine r_iconst C 24 (v := 0) dX5_part_23 rfl (by decide) ?_
    refine r_istore_n C 25 [(2, .int 0), (0, .ref 209), (1, .int p0)] dX5_part_24 rfl (by decide) rfl ?_
    refine r_iconst C 26 (v := 0) dX5_part_25 rfl (by decide) ?_
    refine r_istore_n C 27 [(3, .int 0), (2, .int 0), (0, .ref 209), (1, .int p0)] dX5_part_26 rfl (by decide) rfl ?_
    exact Ws_pick [2, 1, 0] rfl h
  · have h := h.2 c9
    refine r_aload_n (j := 0) C 13 dX5_part_12 rfl rfl ?_
    refine r_iconst C 14 (v := 1) dX5_part_13 rfl (by decide) ?_
    refine r_cVI (as := [.int 1]) (S := []) C r.px 17 (ct_X5_raises _ _ _ _ h) dX5_part_14 rfl cl7 kd_209 wd_40 wd_1325 rfl wd_1323 wd_1326 wd_95 yd_X5_raises ⟨Nat.le_of_ble_eq_true rfl, Nat.le_of_ble_eq_true rfl⟩ (Nat.le_of_ble_eq_true rfl) (by decide) (fun r14 σ14 h => ?_)
    exact r_iret (S := []) C r dX5_part_17 (by decide) rfl h
set_option maxRecDepth 4000 in
theorem sg_X5_part_27 {x : Ctx} {K : Int32 → Mem → Prop} {X : String → Mem → Prop} (C : Cx x RX5 cX5_part 4) (r : RtI x 4 0 (some .int) K X) (i2 : Int32) (i3 : Int32)  (σ : Mem) (h : (10 ≤ i3 → K i2 σ) ∧ (¬ 10 ≤ i3 → (vp_in i3 10) ∧ (((σ.1 219 i3.toNatClampNeg) < 0 → ∀ v48 : Int32, v48 = i3 + 1 → Ws x 0 27 [(0, .ref 209), (2, .int i2), (3, .int v48)] [] σ) ∧ (¬ (σ.1 219 i3.toNatClampNeg) < 0 → ∀ v47 : Int32, v47 = (i2 ||| (1 <<< (i3 &&& 31))) → ∀ v48 : Int32, v48 = i3 + 1 → Ws x 0 27 [(0, .ref 209), (2, .int v47), (3, .int v48)] [] σ)))) : Ws x 0 27 [(0, .ref 209), (2, .int i2), (3, .int i3)] [] σ := by
  refine r_iload_n (j := 2) C 28 dX5_part_27 rfl rfl ?_
  refine r_bipush C 30 (v := 10) dX5_part_28 rfl (by decide) ?_
  refine r_icmp_ge C 54 33 dX5_part_30 (by decide) rfl (fun c30 => ?_) (fun c30 => ?_)
  · have h := h.1 c30
    refine r_iload_n (j := 1) C 55 dX5_part_54 rfl rfl ?_
    exact r_iret (S := []) C r dX5_part_55 (by decide) rfl h
  · have h := h.2 c30
    refine r_aload_n (j := 0) C 34 dX5_part_33 rfl rfl ?_
    refine r_get (k := 16) C cl7 37 dX5_part_34 rfl kd_209 (by decide) wd_1228 (.ref 219) (fun _ => rfl) ?_
    refine r_iload_n (j := 2) C 38 dX5_part_37 rfl rfl ?_
    obtain ⟨o38, h⟩ := h
    refine r_iald C 39 dX5_part_38 rfl kd_219 o38 ?_
    refine r_if_lt C 48 42 dX5_part_39 (by decide) rfl (fun c39 => ?_) (fun c39 => ?_)
    · have h := h.1 c39
      obtain ⟨v48, e48⟩ : ∃ y : Int32, y = i3 + 1 := ⟨_, rfl⟩
      have h := h v48 e48
      refine r_iinc (j := 2) C 51 [(3, .int v48), (0, .ref 209), (2, .int i2)] dX5_part_48 rfl rfl (by rw [e48]; rfl) (by decide) rfl ?_
      refine r_goto C 27 dX5_part_51 (by decide) ?_
      exact Ws_pick [1, 2, 0] rfl h
    · have h := h.2 c39
      refine r_iload_n (j := 1) C 43 dX5_part_42 rfl rfl ?_
      refine r_iconst C 44 (v := 1) dX5_part_43 rfl (by decide) ?_
      refine r_iload_n (j := 2) C 45 dX5_part_44 rfl rfl ?_
      refine r_ishl C 46 dX5_part_45 rfl ?_
      refine r_ior C 47 dX5_part_46 rfl ?_
      refine r_nmI (fun v47 e47 => ?_)
      have h := h v47 e47
      refine r_istore_n C 48 [(2, .int v47), (0, .ref 209), (3, .int i3)] dX5_part_47 rfl (by decide) rfl ?_
      obtain ⟨v48, e48⟩ : ∃ y : Int32, y = i3 + 1 := ⟨_, rfl⟩
      have h := h v48 e48
      refine r_iinc (j := 2) C 51 [(3, .int v48), (2, .int v47), (0, .ref 209)] dX5_part_48 rfl rfl (by rw [e48]; rfl) (by decide) rfl ?_
      refine r_goto C 27 dX5_part_51 (by decide) ?_
      exact Ws_pick [2, 1, 0] rfl h
theorem of_node {p0 : Int32} (h : ¬ p0 < 0 ∧ ¬ 9 < p0) : ∃ n, n < 10 ∧ p0 = nI n := by
  obtain ⟨j, j1, j2⟩ := nI_of h.1
  refine ⟨j, ?_, j2⟩
  rw [j2] at h
  apply Classical.byContradiction
  intro w
  exact h.2 (nI_lt (a := 9) (by omega) j1)
theorem vc_X5_part {x : Ctx} {K : Int32 → Mem → Prop} {X : String → Mem → Prop} (C : Cx x RX5 cX5_part 4) (r : RtI x 4 0 (some .int) K X) (p0 : Int32) (σ : Mem) (h : sp_X5_part p0 σ K X) : Ws x 0 0 [(0, .ref 209), (1, .int p0)] [] σ := by
  obtain ⟨g, hg, hG, h1, h2⟩ := h
  refine sg_X5_part_0 C r p0 σ (fun σ2 e2 => i_X5_isNode ⟨fun c => ?_, fun c => i_X5_raises ?_⟩)
  · have hp : ¬ p0 < 0 ∧ ¬ 9 < p0 := Classical.byContradiction fun w => c (by rw [if_neg w])
    obtain ⟨n, hn, en⟩ := of_node hp
    have hG2 : GM σ2 g := by
      rw [e2]
      exact ⟨by rw [wi_i, if_neg (fun q => absurd q.1 (by decide))]; exact hG.1, fun p hp => by rw [wi_i, if_neg (fun q => absurd q.1 (by decide)), wi_i, if_neg (fun q => absurd q.1 (by decide))]; exact hG.2 p hp⟩
    refine ⟨g, n, hg, hn, en, hG2, fun τ u1 u2 u3 => ?_⟩
    have hC : ChM (wi σ 209 0 0) τ := by
      rw [← e2]
      exact ⟨fun a k q => ⟨u1 a k (by omega) (by omega), by rw [u2]⟩, fun k _ _ => u1 209 k (by decide) (by decide), fun k _ => by rw [u2], by rw [u2]⟩
    have hT := bfs_tre hg hn
    refine cnt 10 (fun k (y : Int32) => Bs y (fun i => decide (i < k) && decide (i ∈ nds (bfs g n)))) (fun k y => Ws x 0 27 [(0, .ref 209), (2, .int y), (3, .int (nI k))] [] τ) ?_ ?_ 0 0 (Nat.zero_le _) (fun i => by rw [bi_0]; simp)
    · intro y hy
      exact sg_X5_part_27 C r _ _ τ ⟨fun _ => h1 n y τ hn en hC (hy.congr (fun i hi => by simp [hi])), fun q => (lit_lt (by decide) (Nat.le_refl 10) (by decide) q).elim⟩
    · intro k y hk hy ih
      refine sg_X5_part_27 C r _ _ τ ⟨fun q => (lit_ge (by decide) hk q).elim, fun _ => ⟨n_inR hk (by decide), ?_⟩⟩
      rw [n_cl (n := k) (by omega), u3 k hk]
      refine ⟨fun q v48 e48 => ?_, fun q v47 e47 v48 e48 => ?_⟩
      · rw [e48, nI_1]
        refine ih y (hy.congr (fun i hi => ?_))
        have hk' := (fI_lt10 hT k).mp q
        by_cases d : i = k
        · rw [d]; simp [hk']
        · have : i < k ↔ i < k + 1 := by omega
          simp [this]
      · rw [e48, nI_1, e47]
        have hk' : k ∈ nds (bfs g n) := Classical.byContradiction fun w => q ((fI_lt10 hT k).mpr w)
        refine ih _ ((hy.or (Bs.one hk)).congr (fun i hi => ?_))
        by_cases d : i = k
        · rw [d]; simp [hk']
        · have : i < k ↔ i < k + 1 := by omega
          simp [this, d]
  · have hp : ¬ (¬ p0 < 0 ∧ ¬ 9 < p0) := fun w => by rw [if_pos w] at c; exact absurd c (by decide)
    rw [e2]; exact h2 hp
theorem ct_X5_part (p0 : Int32) (σ : Mem) (K : Int32 → Mem → Prop) (X : String → Mem → Prop) (h : sp_X5_part p0 σ K X) : CtI yX5_part cX5_part 4 (some .int) 4 0 [.ref 209, .int p0] σ K X :=
  ctI_of (by decide +kernel) (Nat.le_of_ble_eq_true rfl) (fun x C r => vc_X5_part C r p0 σ h)
/-! HeatNetwork.addPipe(IIII)I: level 9, exceptions 1 -/
def sp_X4_addPipe (p0 : Int32) (p1 : Int32) (p2 : Int32) (p3 : Int32) (σ : Mem) (K : Int32 → Mem → Prop) (X : String → Mem → Prop) : Prop := (sp_X0_pipeReason 1 p0 p1 p2 p3 σ (fun r10 σ10 => sp_X4_refuseFor r10 σ10 (fun σ13 => sp_X4_beginChange  σ13 (fun σ17 => sp_X0_putPipe 1 p0 p1 p2 p3 σ17 (fun σ29 => sp_X4_endChange  σ29 (fun σ33 => K ((σ33.1 1 1) - 1) σ33) X) X) X) X) X)
set_option maxRecDepth 4000 in
theorem sg_X4_addPipe_0 {x : Ctx} {K : Int32 → Mem → Prop} {X : String → Mem → Prop} (C : Cx x RX4 cX4_addPipe 5) (r : RtI x 9 1 (some .int) K X) (p0 : Int32) (p1 : Int32) (p2 : Int32) (p3 : Int32)  (σ : Mem) (h : sp_X0_pipeReason 1 p0 p1 p2 p3 σ (fun r10 σ10 => sp_X4_refuseFor r10 σ10 (fun σ13 => sp_X4_beginChange  σ13 (fun σ17 => sp_X0_putPipe 1 p0 p1 p2 p3 σ17 (fun σ29 => sp_X4_endChange  σ29 (fun σ33 => K ((σ33.1 1 1) - 1) σ33) X) X) X) X) X) : Ws x 0 0 [(0, .ref 0), (1, .int p0), (2, .int p1), (3, .int p2), (4, .int p3)] [] σ := by
  refine r_aload_n (j := 0) C 1 dX4_addPipe_0 rfl rfl ?_
  refine r_aload_n (j := 0) C 2 dX4_addPipe_1 rfl rfl ?_
  refine r_get (k := 0) C cl6 5 dX4_addPipe_2 rfl kd_0 (by decide) wd_358 (.ref 1) (fun _ => rfl) ?_
  refine r_iload_n (j := 1) C 6 dX4_addPipe_5 rfl rfl ?_
  refine r_iload_n (j := 2) C 7 dX4_addPipe_6 rfl rfl ?_
  refine r_iload_n (j := 3) C 8 dX4_addPipe_7 rfl rfl ?_
  refine r_iload (j := 4) C 10 dX4_addPipe_8 rfl rfl ?_
  refine r_cVI (as := [.int p0, .int p1, .int p2, .int p3]) (S := [.ref 0]) C r.px 13 (ct_X0_pipeReason _ _ _ _ _ _ _ _ h) dX4_addPipe_10 rfl cl2 kd_1 wd_742 wd_741 rfl wd_740 wd_743 wd_91 yd_X0_pipeReason ⟨Nat.le_of_ble_eq_true rfl, Nat.le_of_ble_eq_true rfl⟩ (Nat.le_of_ble_eq_true rfl) (by decide) (fun r10 σ10 h => ?_)
  refine r_cVV (as := [.int r10]) (S := []) C r.px 16 (ct_X4_refuseFor _ _ _ _ h) dX4_addPipe_13 rfl cl6 kd_0 wd_26 wd_766 rfl wd_764 wd_767 wd_90 yd_X4_refuseFor ⟨Nat.le_of_ble_eq_true rfl, Nat.le_of_ble_eq_true rfl⟩ (Nat.le_of_ble_eq_true rfl) (by decide) (fun σ13 h => ?_)
  refine r_aload_n (j := 0) C 17 dX4_addPipe_16 rfl rfl ?_
  refine r_cVV (as := []) (S := []) C r.px 20 (ct_X4_beginChange  _ _ _ h) dX4_addPipe_17 rfl cl6 kd_0 wd_24 wd_718 rfl wd_716 wd_719 wd_90 yd_X4_beginChange ⟨Nat.le_of_ble_eq_true rfl, Nat.le_of_ble_eq_true rfl⟩ (Nat.le_of_ble_eq_true rfl) (by decide) (fun σ17 h => ?_)
  refine r_aload_n (j := 0) C 21 dX4_addPipe_20 rfl rfl ?_
  refine r_get (k := 0) C cl6 24 dX4_addPipe_21 rfl kd_0 (by decide) wd_358 (.ref 1) (fun _ => rfl) ?_
  refine r_iload_n (j := 1) C 25 dX4_addPipe_24 rfl rfl ?_
  refine r_iload_n (j := 2) C 26 dX4_addPipe_25 rfl rfl ?_
  refine r_iload_n (j := 3) C 27 dX4_addPipe_26 rfl rfl ?_
  refine r_iload (j := 4) C 29 dX4_addPipe_27 rfl rfl ?_
  refine r_cVV (as := [.int p0, .int p1, .int p2, .int p3]) (S := []) C r.px 32 (ct_X0_putPipe _ _ _ _ _ _ _ _ h) dX4_addPipe_29 rfl cl2 kd_1 wd_786 wd_785 rfl wd_784 wd_787 wd_91 yd_X0_putPipe ⟨Nat.le_of_ble_eq_true rfl, Nat.le_of_ble_eq_true rfl⟩ (Nat.le_of_ble_eq_true rfl) (by decide) (fun σ29 h => ?_)
  refine r_aload_n (j := 0) C 33 dX4_addPipe_32 rfl rfl ?_
  refine r_cVV (as := []) (S := []) C r.px 36 (ct_X4_endChange  _ _ _ h) dX4_addPipe_33 rfl cl6 kd_0 wd_25 wd_722 rfl wd_720 wd_723 wd_90 yd_X4_endChange ⟨Nat.le_of_ble_eq_true rfl, Nat.le_of_ble_eq_true rfl⟩ (Nat.le_of_ble_eq_true rfl) (by decide) (fun σ33 h => ?_)
  refine r_aload_n (j := 0) C 37 dX4_addPipe_36 rfl rfl ?_
  refine r_get (k := 0) C cl6 40 dX4_addPipe_37 rfl kd_0 (by decide) wd_358 (.ref 1) (fun _ => rfl) ?_
  refine r_get (k := 1) C cl2 43 dX4_addPipe_40 rfl kd_1 (by decide) wd_138 (.int (σ33.1 1 1)) (fun _ => rfl) ?_
  refine r_iconst C 44 (v := 1) dX4_addPipe_43 rfl (by decide) ?_
  refine r_isub C 45 dX4_addPipe_44 rfl ?_
  exact r_iret (S := []) C r dX4_addPipe_45 (by decide) rfl h
theorem ct_X4_addPipe (p0 : Int32) (p1 : Int32) (p2 : Int32) (p3 : Int32) (σ : Mem) (K : Int32 → Mem → Prop) (X : String → Mem → Prop) (h : sp_X4_addPipe p0 p1 p2 p3 σ K X) : CtI yX4_addPipe cX4_addPipe 5 (some .int) 9 1 [.ref 0, .int p0, .int p1, .int p2, .int p3] σ K X := by
  have h := h
  exact ctI_of (by decide +kernel) (Nat.le_of_ble_eq_true rfl) (fun x C r => sg_X4_addPipe_0 C r p0 p1 p2 p3  σ h)
/-! HeatNetwork.part(I)I: level 9, exceptions 1 -/
def sp_X4_part (p0 : Int32) (σ : Mem) (K : Int32 → Mem → Prop) (X : String → Mem → Prop) : Prop := (sp_X4_needNode p0 σ (fun σ1 => sp_X0_partOf 1 p0 σ1 (fun r9 σ9 => K r9 σ9) X) X)
set_option maxRecDepth 4000 in
theorem sg_X4_part_0 {x : Ctx} {K : Int32 → Mem → Prop} {X : String → Mem → Prop} (C : Cx x RX4 cX4_part 2) (r : RtI x 9 1 (some .int) K X) (p0 : Int32)  (σ : Mem) (h : sp_X4_needNode p0 σ (fun σ1 => sp_X0_partOf 1 p0 σ1 (fun r9 σ9 => K r9 σ9) X) X) : Ws x 0 0 [(0, .ref 0), (1, .int p0)] [] σ := by
  refine r_iload_n (j := 1) C 1 dX4_part_0 rfl rfl ?_
  refine r_cSV (b := 0) (as := [.int p0]) (S := []) C r.px 4 (ct_X4_needNode _ _ _ _ h) dX4_part_1 rfl wd_1049 wd_1048 wd_1050 wd_90 yd_X4_needNode ⟨Nat.le_of_ble_eq_true rfl, Nat.le_of_ble_eq_true rfl⟩ (Nat.le_of_ble_eq_true rfl) (by decide) (fun σ1 h => ?_)
  refine r_aload_n (j := 0) C 5 dX4_part_4 rfl rfl ?_
  refine r_get (k := 0) C cl6 8 dX4_part_5 rfl kd_0 (by decide) wd_358 (.ref 1) (fun _ => rfl) ?_
  refine r_iload_n (j := 1) C 9 dX4_part_8 rfl rfl ?_
  refine r_cVI (as := [.int p0]) (S := []) C r.px 12 (ct_X0_partOf _ _ _ _ _ h) dX4_part_9 rfl cl2 kd_1 wd_752 wd_751 rfl wd_1109 wd_753 wd_91 yd_X0_partOf ⟨Nat.le_of_ble_eq_true rfl, Nat.le_of_ble_eq_true rfl⟩ (Nat.le_of_ble_eq_true rfl) (by decide) (fun r9 σ9 h => ?_)
  exact r_iret (S := []) C r dX4_part_12 (by decide) rfl h
theorem ct_X4_part (p0 : Int32) (σ : Mem) (K : Int32 → Mem → Prop) (X : String → Mem → Prop) (h : sp_X4_part p0 σ K X) : CtI yX4_part cX4_part 2 (some .int) 9 1 [.ref 0, .int p0] σ K X := by
  have h := h
  exact ctI_of (by decide +kernel) (Nat.le_of_ble_eq_true rfl) (fun x C r => sg_X4_part_0 C r p0  σ h)
