/-! HeatNetworkModel.keeps()V: level 1, exceptions 0 -/
/-- what was tried is laid into the u-th place -/
def kpP (σ : Mem) (u : Nat) : Mem := wi (cl (ci σ 216 212 0 (108 * u) 108) 217 213 0 (34 * u) 34) 209 5 (nI (u + 1))
/-- the eldest place is dropped -/
def kpS (σ : Mem) : Mem := wi (cl (ci σ 212 212 108 0 756) 213 213 34 0 238) 209 5 (nI 7)
def sp_X5_keeps (σ : Mem) (K : Mem → Prop) (X : String → Mem → Prop) : Prop := ∃ u : Nat, u ≤ 8 ∧ σ.1 209 5 = nI u ∧ K (if u = 8 then kpP (kpS σ) 7 else kpP σ u)
set_option maxRecDepth 4000 in
theorem sg_X5_keeps_0 {x : Ctx} {K : Mem → Prop} {X : String → Mem → Prop} (C : Cx x RX5 cX5_keeps 2) (r : RtV x 1 0 none K X)   (σ : Mem) (h : (¬ (σ.1 209 5) = 8 → Ws x 0 81 [(0, .ref 209), (1, .int 0)] [] σ) ∧ ((σ.1 209 5) = 8 → Ws x 0 11 [(0, .ref 209), (1, .int 0)] [] σ)) : Ws x 0 0 [(0, .ref 209)] [] σ := by
  refine r_aload_n (j := 0) C 1 dX5_keeps_0 rfl rfl ?_
  refine r_get (k := 5) C cl7 4 dX5_keeps_1 rfl kd_209 (by decide) wd_1217 (.int (σ.1 209 5)) (fun _ => rfl) ?_
  refine r_bipush C 6 (v := 8) dX5_keeps_4 rfl (by decide) ?_
  refine r_icmp_ne C 79 9 dX5_keeps_6 (by decide) rfl (fun c6 => ?_) (fun c6 => ?_)
  · have h := h.1 c6
    refine r_iconst C 80 (v := 0) dX5_keeps_79 rfl (by decide) ?_
    refine r_istore_n C 81 [(1, .int 0), (0, .ref 209)] dX5_keeps_80 rfl (by decide) rfl ?_
    exact Ws_pick [1, 0] rfl h
  · have h := h.2 c6
    refine r_iconst C 10 (v := 0) dX5_keeps_9 rfl (by decide) ?_
    refine r_istore_n C 11 [(1, .int 0), (0, .ref 209)] dX5_keeps_10 rfl (by decide) rfl ?_
    exact Ws_pick [1, 0] rfl h
set_option maxRecDepth 4000 in
theorem sg_X5_keeps_11 {x : Ctx} {K : Mem → Prop} {X : String → Mem → Prop} (C : Cx x RX5 cX5_keeps 2) (r : RtV x 1 0 none K X) (i1 : Int32)  (σ : Mem) (h : (756 ≤ i1 → Ws x 0 41 [(0, .ref 209), (1, .int 0)] [] σ) ∧ (¬ 756 ≤ i1 → (vp_in (108 + i1) 864) ∧ ((vp_in i1 864) ∧ (∀ σ32 : Mem, σ32 = wi σ 212 i1.toNatClampNeg (σ.1 212 ((108 + i1)).toNatClampNeg) → ∀ v33 : Int32, v33 = i1 + 1 → Ws x 0 11 [(0, .ref 209), (1, .int v33)] [] σ32)))) : Ws x 0 11 [(0, .ref 209), (1, .int i1)] [] σ := by
  refine r_iload_n (j := 1) C 12 dX5_keeps_11 rfl rfl ?_
  refine r_sipush C 15 (v := 756) dX5_keeps_12 rfl (by decide) ?_
  refine r_icmp_ge C 39 18 dX5_keeps_15 (by decide) rfl (fun c15 => ?_) (fun c15 => ?_)
  · have h := h.1 c15
    refine r_iconst C 40 (v := 0) dX5_keeps_39 rfl (by decide) ?_
    refine r_istore_n C 41 [(1, .int 0), (0, .ref 209)] dX5_keeps_40 rfl (by decide) rfl ?_
    exact Ws_pick [1, 0] rfl h
  · have h := h.2 c15
    refine r_aload_n (j := 0) C 19 dX5_keeps_18 rfl rfl ?_
    refine r_get (k := 3) C cl7 22 dX5_keeps_19 rfl kd_209 (by decide) wd_1215 (.ref 212) (fun _ => rfl) ?_
    refine r_iload_n (j := 1) C 23 dX5_keeps_22 rfl rfl ?_
    refine r_aload_n (j := 0) C 24 dX5_keeps_23 rfl rfl ?_
    refine r_get (k := 3) C cl7 27 dX5_keeps_24 rfl kd_209 (by decide) wd_1215 (.ref 212) (fun _ => rfl) ?_
    refine r_bipush C 29 (v := 108) dX5_keeps_27 rfl (by decide) ?_
    refine r_iload_n (j := 1) C 30 dX5_keeps_29 rfl rfl ?_
    refine r_iadd C 31 dX5_keeps_30 rfl ?_
    obtain ⟨o31, h⟩ := h
    refine r_iald C 32 dX5_keeps_31 rfl kd_212 o31 ?_
    obtain ⟨o32, h⟩ := h
    refine r_iast C 33 dX5_keeps_32 rfl kd_212 o32 ?_
    refine r_nmS (fun σ32 e32 => ?_)
    have h := h σ32 e32
    obtain ⟨v33, e33⟩ : ∃ y : Int32, y = i1 + 1 := ⟨_, rfl⟩
    have h := h v33 e33
    refine r_iinc (j := 1) C 36 [(1, .int v33), (0, .ref 209)] dX5_keeps_33 rfl rfl (by rw [e33]; rfl) (by decide) rfl ?_
    refine r_goto C 11 dX5_keeps_36 (by decide) ?_
    exact Ws_pick [1, 0] rfl h
set_option maxRecDepth 4000 in
theorem sg_X5_keeps_41 {x : Ctx} {K : Mem → Prop} {X : String → Mem → Prop} (C : Cx x RX5 cX5_keeps 2) (r : RtV x 1 0 none K X) (i1 : Int32)  (σ : Mem) (h : (238 ≤ i1 → ∀ σ76 : Mem, σ76 = wi σ 209 5 ((σ.1 209 5) - 1) → Ws x 0 81 [(0, .ref 209), (1, .int 0)] [] σ76) ∧ (¬ 238 ≤ i1 → (vp_in (34 + i1) 272) ∧ ((vp_in i1 272) ∧ (∀ σ62 : Mem, σ62 = wl σ 213 i1.toNatClampNeg (σ.2.1 213 ((34 + i1)).toNatClampNeg) → ∀ v63 : Int32, v63 = i1 + 1 → Ws x 0 41 [(0, .ref 209), (1, .int v63)] [] σ62)))) : Ws x 0 41 [(0, .ref 209), (1, .int i1)] [] σ := by
  refine r_iload_n (j := 1) C 42 dX5_keeps_41 rfl rfl ?_
  refine r_sipush C 45 (v := 238) dX5_keeps_42 rfl (by decide) ?_
  refine r_icmp_ge C 69 48 dX5_keeps_45 (by decide) rfl (fun c45 => ?_) (fun c45 => ?_)
  · have h := h.1 c45
    refine r_aload_n (j := 0) C 70 dX5_keeps_69 rfl rfl ?_
    refine r_dup C 71 dX5_keeps_70 rfl rfl ?_
    refine r_get (k := 5) C cl7 74 dX5_keeps_71 rfl kd_209 (by decide) wd_1217 (.int (σ.1 209 5)) (fun _ => rfl) ?_
    refine r_iconst C 75 (v := 1) dX5_keeps_74 rfl (by decide) ?_
    refine r_isub C 76 dX5_keeps_75 rfl ?_
    refine r_putI (k := 5) C cl7 79 dX5_keeps_76 rfl kd_209 (by decide) wd_1217 rfl rfl rfl rfl ?_
    refine r_nmS (fun σ76 e76 => ?_)
    have h := h σ76 e76
    refine r_iconst C 80 (v := 0) dX5_keeps_79 rfl (by decide) ?_
    refine r_istore_n C 81 [(1, .int 0), (0, .ref 209)] dX5_keeps_80 rfl (by decide) rfl ?_
    exact Ws_pick [1, 0] rfl h
  · have h := h.2 c45
    refine r_aload_n (j := 0) C 49 dX5_keeps_48 rfl rfl ?_
    refine r_get (k := 4) C cl7 52 dX5_keeps_49 rfl kd_209 (by decide) wd_1216 (.ref 213) (fun _ => rfl) ?_
    refine r_iload_n (j := 1) C 53 dX5_keeps_52 rfl rfl ?_
    refine r_aload_n (j := 0) C 54 dX5_keeps_53 rfl rfl ?_
    refine r_get (k := 4) C cl7 57 dX5_keeps_54 rfl kd_209 (by decide) wd_1216 (.ref 213) (fun _ => rfl) ?_
    refine r_bipush C 59 (v := 34) dX5_keeps_57 rfl (by decide) ?_
    refine r_iload_n (j := 1) C 60 dX5_keeps_59 rfl rfl ?_
    refine r_iadd C 61 dX5_keeps_60 rfl ?_
    obtain ⟨o61, h⟩ := h
    refine r_lald C 62 dX5_keeps_61 rfl kd_213 o61 ?_
    obtain ⟨o62, h⟩ := h
    refine r_last C 63 dX5_keeps_62 rfl kd_213 o62 ?_
    refine r_nmS (fun σ62 e62 => ?_)
    have h := h σ62 e62
    obtain ⟨v63, e63⟩ : ∃ y : Int32, y = i1 + 1 := ⟨_, rfl⟩
    have h := h v63 e63
    refine r_iinc (j := 1) C 66 [(1, .int v63), (0, .ref 209)] dX5_keeps_63 rfl rfl (by rw [e63]; rfl) (by decide) rfl ?_
    refine r_goto C 41 dX5_keeps_66 (by decide) ?_
    exact Ws_pick [1, 0] rfl h
set_option maxRecDepth 4000 in
theorem sg_X5_keeps_81 {x : Ctx} {K : Mem → Prop} {X : String → Mem → Prop} (C : Cx x RX5 cX5_keeps 2) (r : RtV x 1 0 none K X) (i1 : Int32)  (σ : Mem) (h : (108 ≤ i1 → Ws x 0 115 [(0, .ref 209), (1, .int 0)] [] σ) ∧ (¬ 108 ≤ i1 → (vp_in i1 108) ∧ ((vp_in ((108 * (σ.1 209 5)) + i1) 864) ∧ (∀ σ106 : Mem, σ106 = wi σ 212 (((108 * (σ.1 209 5)) + i1)).toNatClampNeg (σ.1 216 i1.toNatClampNeg) → ∀ v107 : Int32, v107 = i1 + 1 → Ws x 0 81 [(0, .ref 209), (1, .int v107)] [] σ106)))) : Ws x 0 81 [(0, .ref 209), (1, .int i1)] [] σ := by
  refine r_iload_n (j := 1) C 82 dX5_keeps_81 rfl rfl ?_
  refine r_bipush C 84 (v := 108) dX5_keeps_82 rfl (by decide) ?_
  refine r_icmp_ge C 113 87 dX5_keeps_84 (by decide) rfl (fun c84 => ?_) (fun c84 => ?_)
  · have h := h.1 c84
    refine r_iconst C 114 (v := 0) dX5_keeps_113 rfl (by decide) ?_
    refine r_istore_n C 115 [(1, .int 0), (0, .ref 209)] dX5_keeps_114 rfl (by decide) rfl ?_
    exact Ws_pick [1, 0] rfl h
  · have h := h.2 c84
    refine r_aload_n (j := 0) C 88 dX5_keeps_87 rfl rfl ?_
    refine r_get (k := 3) C cl7 91 dX5_keeps_88 rfl kd_209 (by decide) wd_1215 (.ref 212) (fun _ => rfl) ?_
    refine r_bipush C 93 (v := 108) dX5_keeps_91 rfl (by decide) ?_
    refine r_aload_n (j := 0) C 94 dX5_keeps_93 rfl rfl ?_
    refine r_get (k := 5) C cl7 97 dX5_keeps_94 rfl kd_209 (by decide) wd_1217 (.int (σ.1 209 5)) (fun _ => rfl) ?_
    refine r_imul C 98 dX5_keeps_97 rfl ?_
    refine r_iload_n (j := 1) C 99 dX5_keeps_98 rfl rfl ?_
    refine r_iadd C 100 dX5_keeps_99 rfl ?_
    refine r_aload_n (j := 0) C 101 dX5_keeps_100 rfl rfl ?_
    refine r_get (k := 9) C cl7 104 dX5_keeps_101 rfl kd_209 (by decide) wd_1221 (.ref 216) (fun _ => rfl) ?_
    refine r_iload_n (j := 1) C 105 dX5_keeps_104 rfl rfl ?_
    obtain ⟨o105, h⟩ := h
    refine r_iald C 106 dX5_keeps_105 rfl kd_216 o105 ?_
    obtain ⟨o106, h⟩ := h
    refine r_iast C 107 dX5_keeps_106 rfl kd_212 o106 ?_
    refine r_nmS (fun σ106 e106 => ?_)
    have h := h σ106 e106
    obtain ⟨v107, e107⟩ : ∃ y : Int32, y = i1 + 1 := ⟨_, rfl⟩
    have h := h v107 e107
    refine r_iinc (j := 1) C 110 [(1, .int v107), (0, .ref 209)] dX5_keeps_107 rfl rfl (by rw [e107]; rfl) (by decide) rfl ?_
    refine r_goto C 81 dX5_keeps_110 (by decide) ?_
    exact Ws_pick [1, 0] rfl h
set_option maxRecDepth 4000 in
theorem sg_X5_keeps_115 {x : Ctx} {K : Mem → Prop} {X : String → Mem → Prop} (C : Cx x RX5 cX5_keeps 2) (r : RtV x 1 0 none K X) (i1 : Int32)  (σ : Mem) (h : (34 ≤ i1 → ∀ σ154 : Mem, σ154 = wi σ 209 5 ((σ.1 209 5) + 1) → K σ154) ∧ (¬ 34 ≤ i1 → (vp_in i1 34) ∧ ((vp_in ((34 * (σ.1 209 5)) + i1) 272) ∧ (∀ σ140 : Mem, σ140 = wl σ 213 (((34 * (σ.1 209 5)) + i1)).toNatClampNeg (σ.2.1 217 i1.toNatClampNeg) → ∀ v141 : Int32, v141 = i1 + 1 → Ws x 0 115 [(0, .ref 209), (1, .int v141)] [] σ140)))) : Ws x 0 115 [(0, .ref 209), (1, .int i1)] [] σ := by
  refine r_iload_n (j := 1) C 116 dX5_keeps_115 rfl rfl ?_
  refine r_bipush C 118 (v := 34) dX5_keeps_116 rfl (by decide) ?_
  refine r_icmp_ge C 147 121 dX5_keeps_118 (by decide) rfl (fun c118 => ?_) (fun c118 => ?_)
  · have h := h.1 c118
    refine r_aload_n (j := 0) C 148 dX5_keeps_147 rfl rfl ?_
    refine r_dup C 149 dX5_keeps_148 rfl rfl ?_
    refine r_get (k := 5) C cl7 152 dX5_keeps_149 rfl kd_209 (by decide) wd_1217 (.int (σ.1 209 5)) (fun _ => rfl) ?_
    refine r_iconst C 153 (v := 1) dX5_keeps_152 rfl (by decide) ?_
    refine r_iadd C 154 dX5_keeps_153 rfl ?_
    refine r_putI (k := 5) C cl7 157 dX5_keeps_154 rfl kd_209 (by decide) wd_1217 rfl rfl rfl rfl ?_
    refine r_nmS (fun σ154 e154 => ?_)
    have h := h σ154 e154
    exact r_vret (S := []) C r dX5_keeps_157 (by decide) h
  · have h := h.2 c118
    refine r_aload_n (j := 0) C 122 dX5_keeps_121 rfl rfl ?_
    refine r_get (k := 4) C cl7 125 dX5_keeps_122 rfl kd_209 (by decide) wd_1216 (.ref 213) (fun _ => rfl) ?_
    refine r_bipush C 127 (v := 34) dX5_keeps_125 rfl (by decide) ?_
    refine r_aload_n (j := 0) C 128 dX5_keeps_127 rfl rfl ?_
    refine r_get (k := 5) C cl7 131 dX5_keeps_128 rfl kd_209 (by decide) wd_1217 (.int (σ.1 209 5)) (fun _ => rfl) ?_
    refine r_imul C 132 dX5_keeps_131 rfl ?_
    refine r_iload_n (j := 1) C 133 dX5_keeps_132 rfl rfl ?_
    refine r_iadd C 134 dX5_keeps_133 rfl ?_
    refine r_aload_n (j := 0) C 135 dX5_keeps_134 rfl rfl ?_
    refine r_get (k := 10) C cl7 138 dX5_keeps_135 rfl kd_209 (by decide) wd_1222 (.ref 217) (fun _ => rfl) ?_
    refine r_iload_n (j := 1) C 139 dX5_keeps_138 rfl rfl ?_
    obtain ⟨o139, h⟩ := h
    refine r_lald C 140 dX5_keeps_139 rfl kd_217 o139 ?_
    obtain ⟨o140, h⟩ := h
    refine r_last C 141 dX5_keeps_140 rfl kd_213 o140 ?_
    refine r_nmS (fun σ140 e140 => ?_)
    have h := h σ140 e140
    obtain ⟨v141, e141⟩ : ∃ y : Int32, y = i1 + 1 := ⟨_, rfl⟩
    have h := h v141 e141
    refine r_iinc (j := 1) C 144 [(1, .int v141), (0, .ref 209)] dX5_keeps_141 rfl rfl (by rw [e141]; rfl) (by decide) rfl ?_
    refine r_goto C 115 dX5_keeps_144 (by decide) ?_
    exact Ws_pick [1, 0] rfl h
theorem vc_X5_keeps {x : Ctx} {K : Mem → Prop} {X : String → Mem → Prop} (C : Cx x RX5 cX5_keeps 2) (r : RtV x 1 0 none K X) (σ : Mem) (h : sp_X5_keeps σ K X) : Ws x 0 0 [(0, .ref 209)] [] σ := by
  obtain ⟨u, hu, e5, hK⟩ := h
  -- the place is filled
  have H81 : ∀ (τ : Mem) (v : Nat), v ≤ 7 → τ.1 209 5 = nI v → K (kpP τ v) → Ws x 0 81 [(0, .ref 209), (1, .int 0)] [] τ := by
    intro τ v hv ev hk
    have ix1 : ∀ k : Nat, (108 * nI v) + nI k = nI (108 * v + k) := fun k => by rw [show (108 : Int32) = nI 108 from rfl, nI_mul, nI_add]
    have ix2 : ∀ k : Nat, (34 * nI v) + nI k = nI (34 * v + k) := fun k => by rw [show (34 : Int32) = nI 34 from rfl, nI_mul, nI_add]
    have f5 : ∀ k, (ci τ 216 212 0 (108 * v) k).1 209 5 = nI v := fun k => by rw [ci_i, if_neg (fun q => absurd q.1 (by decide))]; exact ev
    refine copyI (fun k υ => Ws x 0 81 [(0, .ref 209), (1, .int (nI k))] [] υ) 108 216 212 0 (108 * v) τ (.inl (by decide)) ?_ (fun k hk H => ?_)
    · refine sg_X5_keeps_81 C r (nI 108) _ ⟨fun _ => ?_, fun c => (lit_lt (by decide) (Nat.le_refl 108) (by decide) c).elim⟩
      have g5 : ∀ k, (cl (ci τ 216 212 0 (108 * v) 108) 217 213 0 (34 * v) k).1 209 5 = nI v := fun k => f5 108
      refine copyL (fun k υ => Ws x 0 115 [(0, .ref 209), (1, .int (nI k))] [] υ) 34 217 213 0 (34 * v) _ (.inl (by decide)) ?_ (fun k hk H => ?_)
      · refine sg_X5_keeps_115 C r (nI 34) _ ⟨fun _ σ154 e154 => ?_, fun c => (lit_lt (by decide) (Nat.le_refl 34) (by decide) c).elim⟩
        rw [g5, nI_1] at e154
        rw [e154]; exact hk
      · refine sg_X5_keeps_115 C r (nI k) _ ⟨fun c => (lit_ge (by decide) hk c).elim, fun _ => ⟨n_inR hk (by decide), ?_⟩⟩
        rw [g5, ix2, n_cl (n := 34 * v + k) (by omega), n_cl (n := k) (by omega)]
        refine ⟨n_inR (by omega) (by decide), fun σ140 e140 v141 e141 => ?_⟩
        rw [Nat.zero_add] at H
        rw [e140, e141, nI_1]
        exact H
    · refine sg_X5_keeps_81 C r (nI k) _ ⟨fun c => (lit_ge (by decide) hk c).elim, fun _ => ⟨n_inR hk (by decide), ?_⟩⟩
      rw [f5, ix1, n_cl (n := 108 * v + k) (by omega), n_cl (n := k) (by omega)]
      refine ⟨n_inR (by omega) (by decide), fun σ106 e106 v107 e107 => ?_⟩
      rw [Nat.zero_add] at H
      rw [e106, e107, nI_1]
      exact H
  refine sg_X5_keeps_0 C r σ ⟨fun q => ?_, fun q => ?_⟩
  · have hne : u ≠ 8 := fun e => q (by rw [e5, e]; rfl)
    rw [if_neg hne] at hK
    exact H81 σ u (by omega) e5 hK
  · have h8 : u = 8 := by
      rw [e5] at q
      exact nI_eq (b := 8) (by omega) (by decide) |>.mp q
    rw [if_pos h8] at hK
    have ix1 : ∀ k : Nat, 108 + nI k = nI (108 + k) := fun k => by rw [show (108 : Int32) = nI 108 from rfl, nI_add]
    have ix2 : ∀ k : Nat, 34 + nI k = nI (34 + k) := fun k => by rw [show (34 : Int32) = nI 34 from rfl, nI_add]
    refine copyI (fun k υ => Ws x 0 11 [(0, .ref 209), (1, .int (nI k))] [] υ) 756 212 212 108 0 σ (.inr (by decide)) ?_ (fun k hk H => ?_)
    · refine sg_X5_keeps_11 C r (nI 756) _ ⟨fun _ => ?_, fun c => (lit_lt (by decide) (Nat.le_refl 756) (by decide) c).elim⟩
      refine copyL (fun k υ => Ws x 0 41 [(0, .ref 209), (1, .int (nI k))] [] υ) 238 213 213 34 0 _ (.inr (by decide)) ?_ (fun k hk H => ?_)
      · refine sg_X5_keeps_41 C r (nI 238) _ ⟨fun _ σ76 e76 => ?_, fun c => (lit_lt (by decide) (Nat.le_refl 238) (by decide) c).elim⟩
        have e8 : (cl (ci σ 212 212 108 0 756) 213 213 34 0 238).1 209 5 = nI 8 := by
          rw [cl_i, ci_i, if_neg (fun q => absurd q.1 (by decide)), e5, h8]
        rw [e8, show nI 8 - 1 = nI 7 from nI_pred 7] at e76
        exact H81 σ76 7 (Nat.le_refl _) (by rw [e76, wi_i, if_pos ⟨rfl, rfl⟩]) (by rw [e76]; exact hK)
      · refine sg_X5_keeps_41 C r (nI k) _ ⟨fun c => (lit_ge (by decide) hk c).elim, fun _ => ?_⟩
        rw [ix2, n_cl (n := 34 + k) (by omega), n_cl (n := k) (by omega)]
        refine ⟨n_inR (by omega) (by decide), n_inR (by omega) (by decide), fun σ62 e62 v63 e63 => ?_⟩
        rw [Nat.zero_add] at H
        rw [e62, e63, nI_1]
        exact H
    · refine sg_X5_keeps_11 C r (nI k) _ ⟨fun c => (lit_ge (by decide) hk c).elim, fun _ => ?_⟩
      rw [ix1, n_cl (n := 108 + k) (by omega), n_cl (n := k) (by omega)]
      refine ⟨n_inR (by omega) (by decide), n_inR (by omega) (by decide), fun σ32 e32 v33 e33 => ?_⟩
      rw [Nat.zero_add] at H
      rw [e32, e33, nI_1]
      exact H
theorem ct_X5_keeps  (σ : Mem) (K : Mem → Prop) (X : String → Mem → Prop) (h : sp_X5_keeps  σ K X) : CtV yX5_keeps cX5_keeps 2 none 1 0 [.ref 209] σ K X :=
  ctV_of (by decide +kernel) (Nat.le_of_ble_eq_true rfl) (fun x C r => vc_X5_keeps C r  σ h)
/-! HeatNetworkModel.changes()V: level 2, exceptions 0 -/
def sp_X5_changes  (σ : Mem) (K : Mem → Prop) (X : String → Mem → Prop) : Prop := (sp_X5_tries  σ (fun σ1 => sp_X5_keeps  σ1 (fun σ5 => K σ5) X) X)
set_option maxRecDepth 4000 in
theorem sg_X5_changes_0 {x : Ctx} {K : Mem → Prop} {X : String → Mem → Prop} (C : Cx x RX5 cX5_changes 1) (r : RtV x 2 0 none K X)   (σ : Mem) (h : sp_X5_tries  σ (fun σ1 => sp_X5_keeps  σ1 (fun σ5 => K σ5) X) X) : Ws x 0 0 [(0, .ref 209)] [] σ := by
  refine r_aload_n (j := 0) C 1 dX5_changes_0 rfl rfl ?_
  refine r_cVV (as := []) (S := []) C r.px 4 (ct_X5_tries  _ _ _ h) dX5_changes_1 rfl cl7 kd_209 wd_42 wd_1337 rfl wd_1335 wd_1338 wd_95 yd_X5_tries ⟨Nat.le_of_ble_eq_true rfl, Nat.le_of_ble_eq_true rfl⟩ (Nat.le_of_ble_eq_true rfl) (by decide) (fun σ1 h => ?_)
  refine r_aload_n (j := 0) C 5 dX5_changes_4 rfl rfl ?_
  refine r_cVV (as := []) (S := []) C r.px 8 (ct_X5_keeps  _ _ _ h) dX5_changes_5 rfl cl7 kd_209 wd_43 wd_1341 rfl wd_1339 wd_1342 wd_95 yd_X5_keeps ⟨Nat.le_of_ble_eq_true rfl, Nat.le_of_ble_eq_true rfl⟩ (Nat.le_of_ble_eq_true rfl) (by decide) (fun σ5 h => ?_)
  exact r_vret (S := []) C r dX5_changes_8 (by decide) h
theorem ct_X5_changes  (σ : Mem) (K : Mem → Prop) (X : String → Mem → Prop) (h : sp_X5_changes  σ K X) : CtV yX5_changes cX5_changes 1 none 2 0 [.ref 209] σ K X := by
  have h := h
  exact ctV_of (by decide +kernel) (Nat.le_of_ble_eq_true rfl) (fun x C r => sg_X5_changes_0 C r   σ h)
/-! HeatNetworkModel.setMeter(III)I: level 3, exceptions 0 -/
def sp_X5_setMeter (p0 : Int32) (p1 : Int32) (p2 : Int32) (σ : Mem) (K : Int32 → Mem → Prop) (X : String → Mem → Prop) : Prop := (∀ σ2 : Mem, σ2 = wi σ 209 0 0 → sp_X5_hasStation p0 σ2 (fun r7 σ7 => (¬ r7 = 0 → sp_X5_in p1 0 2 σ7 (fun r22 σ22 => (r22 = 0 → sp_X5_raises 2 σ22 (fun r41 σ41 => K r41 σ41) X) ∧ (¬ r22 = 0 → sp_X5_in p2 0 2000 σ22 (fun r33 σ33 => (¬ r33 = 0 → sp_X5_changes  σ33 (fun σ46 => (vp_in ((48 + (6 * p0)) + 4) 108) ∧ (∀ v63 : Int32, v63 = (σ46.1 210 (((48 + (6 * p0)) + 4)).toNatClampNeg) → (vp_in ((48 + (6 * p0)) + 4) 108) ∧ (∀ σ79 : Mem, σ79 = wi σ46 210 (((48 + (6 * p0)) + 4)).toNatClampNeg p1 → (vp_in ((48 + (6 * p0)) + 5) 108) ∧ (∀ σ94 : Mem, σ94 = wi σ79 210 (((48 + (6 * p0)) + 5)).toNatClampNeg p2 → K v63 σ94)))) X) ∧ (r33 = 0 → sp_X5_raises 2 σ33 (fun r41 σ41 => K r41 σ41) X)) X)) X) ∧ (r7 = 0 → sp_X5_raises 1 σ7 (fun r15 σ15 => K r15 σ15) X)) X)
set_option maxRecDepth 4000 in
theorem sg_X5_setMeter_0 {x : Ctx} {K : Int32 → Mem → Prop} {X : String → Mem → Prop} (C : Cx x RX5 cX5_setMeter 5) (r : RtI x 3 0 (some .int) K X) (p0 : Int32) (p1 : Int32) (p2 : Int32)  (σ : Mem) (h : ∀ σ2 : Mem, σ2 = wi σ 209 0 0 → sp_X5_hasStation p0 σ2 (fun r7 σ7 => (¬ r7 = 0 → sp_X5_in p1 0 2 σ7 (fun r22 σ22 => (r22 = 0 → sp_X5_raises 2 σ22 (fun r41 σ41 => K r41 σ41) X) ∧ (¬ r22 = 0 → sp_X5_in p2 0 2000 σ22 (fun r33 σ33 => (¬ r33 = 0 → sp_X5_changes  σ33 (fun σ46 => (vp_in ((48 + (6 * p0)) + 4) 108) ∧ (∀ v63 : Int32, v63 = (σ46.1 210 (((48 + (6 * p0)) + 4)).toNatClampNeg) → (vp_in ((48 + (6 * p0)) + 4) 108) ∧ (∀ σ79 : Mem, σ79 = wi σ46 210 (((48 + (6 * p0)) + 4)).toNatClampNeg p1 → (vp_in ((48 + (6 * p0)) + 5) 108) ∧ (∀ σ94 : Mem, σ94 = wi σ79 210 (((48 + (6 * p0)) + 5)).toNatClampNeg p2 → K v63 σ94)))) X) ∧ (r33 = 0 → sp_X5_raises 2 σ33 (fun r41 σ41 => K r41 σ41) X)) X)) X) ∧ (r7 = 0 → sp_X5_raises 1 σ7 (fun r15 σ15 => K r15 σ15) X)) X) : Ws x 0 0 [(0, .ref 209), (1, .int p0), (2, .int p1), (3, .int p2)] [] σ := by
  refine r_aload_n (j := 0) C 1 dX5_setMeter_0 rfl rfl ?_
  refine r_iconst C 2 (v := 0) dX5_setMeter_1 rfl (by decide) ?_
  refine r_putI (k := 0) C cl7 5 dX5_setMeter_2 rfl kd_209 (by decide) wd_1212 rfl rfl rfl rfl ?_
  refine r_nmS (fun σ2 e2 => ?_)
  have h := h σ2 e2
  refine r_aload_n (j := 0) C 6 dX5_setMeter_5 rfl rfl ?_
  refine r_iload_n (j := 1) C 7 dX5_setMeter_6 rfl rfl ?_
  refine r_cVI (as := [.int p0]) (S := []) C r.px 10 (ct_X5_hasStation _ _ _ _ h) dX5_setMeter_7 rfl cl7 kd_209 wd_52 wd_1396 rfl wd_1394 wd_1397 wd_95 yd_X5_hasStation ⟨Nat.le_of_ble_eq_true rfl, Nat.le_of_ble_eq_true rfl⟩ (Nat.le_of_ble_eq_true rfl) (by decide) (fun r7 σ7 h => ?_)
  refine r_if_ne C 19 13 dX5_setMeter_10 (by decide) rfl (fun c10 => ?_) (fun c10 => ?_)
  · have h := h.1 c10
    refine r_iload_n (j := 2) C 20 dX5_setMeter_19 rfl rfl ?_
    refine r_iconst C 21 (v := 0) dX5_setMeter_20 rfl (by decide) ?_
    refine r_iconst C 22 (v := 2) dX5_setMeter_21 rfl (by decide) ?_
    refine r_cSI (b := 0) (as := [.int p1, .int 0, .int 2]) (S := []) C r.px 25 (ct_X5_in _ _ _ _ _ _ h) dX5_setMeter_22 rfl wd_1321 wd_1320 wd_1322 wd_95 yd_X5_in ⟨Nat.le_of_ble_eq_true rfl, Nat.le_of_ble_eq_true rfl⟩ (Nat.le_of_ble_eq_true rfl) (by decide) (fun r22 σ22 h => ?_)
    refine r_if_eq C 39 28 dX5_setMeter_25 (by decide) rfl (fun c25 => ?_) (fun c25 => ?_)
    · have h := h.1 c25
      refine r_aload_n (j := 0) C 40 dX5_setMeter_39 rfl rfl ?_
      refine r_iconst C 41 (v := 2) dX5_setMeter_40 rfl (by decide) ?_
      refine r_cVI (as := [.int 2]) (S := []) C r.px 44 (ct_X5_raises _ _ _ _ h) dX5_setMeter_41 rfl cl7 kd_209 wd_40 wd_1325 rfl wd_1323 wd_1326 wd_95 yd_X5_raises ⟨Nat.le_of_ble_eq_true rfl, Nat.le_of_ble_eq_true rfl⟩ (Nat.le_of_ble_eq_true rfl) (by decide) (fun r41 σ41 h => ?_)
      exact r_iret (S := []) C r dX5_setMeter_44 (by decide) rfl h
    · have h := h.2 c25
      refine r_iload_n (j := 3) C 29 dX5_setMeter_28 rfl rfl ?_
      refine r_iconst C 30 (v := 0) dX5_setMeter_29 rfl (by decide) ?_
      refine r_sipush C 33 (v := 2000) dX5_setMeter_30 rfl (by decide) ?_
      refine r_cSI (b := 0) (as := [.int p2, .int 0, .int 2000]) (S := []) C r.px 36 (ct_X5_in _ _ _ _ _ _ h) dX5_setMeter_33 rfl wd_1321 wd_1320 wd_1322 wd_95 yd_X5_in ⟨Nat.le_of_ble_eq_true rfl, Nat.le_of_ble_eq_true rfl⟩ (Nat.le_of_ble_eq_true rfl) (by decide) (fun r33 σ33 h => ?_)
      refine r_if_ne C 45 39 dX5_setMeter_36 (by decide) rfl (fun c36 => ?_) (fun c36 => ?_)
      · have h := h.1 c36
        refine r_aload_n (j := 0) C 46 dX5_setMeter_45 rfl rfl ?_
        refine r_cVV (as := []) (S := []) C r.px 49 (ct_X5_changes  _ _ _ h) dX5_setMeter_46 rfl cl7 kd_209 wd_41 wd_1333 rfl wd_1331 wd_1334 wd_95 yd_X5_changes ⟨Nat.le_of_ble_eq_true rfl, Nat.le_of_ble_eq_true rfl⟩ (Nat.le_of_ble_eq_true rfl) (by decide) (fun σ46 h => ?_)
        refine r_aload_n (j := 0) C 50 dX5_setMeter_49 rfl rfl ?_
        refine r_get (k := 1) C cl7 53 dX5_setMeter_50 rfl kd_209 (by decide) wd_1213 (.ref 210) (fun _ => rfl) ?_
        refine r_bipush C 55 (v := 48) dX5_setMeter_53 rfl (by decide) ?_
        refine r_bipush C 57 (v := 6) dX5_setMeter_55 rfl (by decide) ?_
        refine r_iload_n (j := 1) C 58 dX5_setMeter_57 rfl rfl ?_
        refine r_imul C 59 dX5_setMeter_58 rfl ?_
        refine r_iadd C 60 dX5_setMeter_59 rfl ?_
        refine r_iconst C 61 (v := 4) dX5_setMeter_60 rfl (by decide) ?_
        refine r_iadd C 62 dX5_setMeter_61 rfl ?_
        obtain ⟨o62, h⟩ := h
        refine r_iald C 63 dX5_setMeter_62 rfl kd_210 o62 ?_
        refine r_nmI (fun v63 e63 => ?_)
        have h := h v63 e63
        refine r_istore C 65 [(4, .int v63), (0, .ref 209), (1, .int p0), (2, .int p1), (3, .int p2)] dX5_setMeter_63 rfl (by decide) rfl ?_
        refine r_aload_n (j := 1) C 66 dX5_setMeter_65 rfl rfl ?_
        refine r_get (k := 1) C cl7 69 dX5_setMeter_66 rfl kd_209 (by decide) wd_1213 (.ref 210) (fun _ => rfl) ?_
        refine r_bipush C 71 (v := 48) dX5_setMeter_69 rfl (by decide) ?_
        refine r_bipush C 73 (v := 6) dX5_setMeter_71 rfl (by decide) ?_
        refine r_iload_n (j := 2) C 74 dX5_setMeter_73 rfl rfl ?_
        refine r_imul C 75 dX5_setMeter_74 rfl ?_
        refine r_iadd C 76 dX5_setMeter_75 rfl ?_
        refine r_iconst C 77 (v := 4) dX5_setMeter_76 rfl (by decide) ?_
        refine r_iadd C 78 dX5_setMeter_77 rfl ?_
        refine r_iload_n (j := 3) C 79 dX5_setMeter_78 rfl rfl ?_
        obtain ⟨o79, h⟩ := h
        refine r_iast C 80 dX5_setMeter_79 rfl kd_210 o79 ?_
        refine r_nmS (fun σ79 e79 => ?_)
        have h := h σ79 e79
        refine r_aload_n (j := 1) C 81 dX5_setMeter_80 rfl rfl ?_
        refine r_get (k := 1) C cl7 84 dX5_setMeter_81 rfl kd_209 (by decide) wd_1213 (.ref 210) (fun _ => rfl) ?_
        refine r_bipush C 86 (v := 48) dX5_setMeter_84 rfl (by decide) ?_
        refine r_bipush C 88 (v := 6) dX5_setMeter_86 rfl (by decide) ?_
        refine r_iload_n (j := 2) C 89 dX5_setMeter_88 rfl rfl ?_
        refine r_imul C 90 dX5_setMeter_89 rfl ?_
        refine r_iadd C 91 dX5_setMeter_90 rfl ?_
        refine r_iconst C 92 (v := 5) dX5_setMeter_91 rfl (by decide) ?_
        refine r_iadd C 93 dX5_setMeter_92 rfl ?_
        refine r_iload_n (j := 4) C 94 dX5_setMeter_93 rfl rfl ?_
        obtain ⟨o94, h⟩ := h
        refine r_iast C 95 dX5_setMeter_94 rfl kd_210 o94 ?_
        refine r_nmS (fun σ94 e94 => ?_)
        have h := h σ94 e94
        refine r_iload (j := 0) C 97 dX5_setMeter_95 rfl rfl ?_
        exact r_iret (S := []) C r dX5_setMeter_97 (by decide) rfl h
      · have h := h.2 c36
        refine r_aload_n (j := 0) C 40 dX5_setMeter_39 rfl rfl ?_
        refine r_iconst C 41 (v := 2) dX5_setMeter_40 rfl (by decide) ?_
        refine r_cVI (as := [.int 2]) (S := []) C r.px 44 (ct_X5_raises _ _ _ _ h) dX5_setMeter_41 rfl cl7 kd_209 wd_40 wd_1325 rfl wd_1323 wd_1326 wd_95 yd_X5_raises ⟨Nat.le_of_ble_eq_true rfl, Nat.le_of_ble_eq_true rfl⟩ (Nat.le_of_ble_eq_true rfl) (by decide) (fun r41 σ41 h => ?_)
        exact r_iret (S := []) C r dX5_setMeter_44 (by decide) rfl h
  · have h := h.2 c10
    refine r_aload_n (j := 0) C 14 dX5_setMeter_13 rfl rfl ?_
    refine r_iconst C 15 (v := 1) dX5_setMeter_14 rfl (by decide) ?_
    refine r_cVI (as := [.int 1]) (S := []) C r.px 18 (ct_X5_raises _ _ _ _ h) dX5_setMeter_15 rfl cl7 kd_209 wd_40 wd_1325 rfl wd_1323 wd_1326 wd_95 yd_X5_raises ⟨Nat.le_of_ble_eq_true rfl, Nat.le_of_ble_eq_true rfl⟩ (Nat.le_of_ble_eq_true rfl) (by decide) (fun r15 σ15 h => ?_)
    exact r_iret (S := []) C r dX5_setMeter_18 (by decide) rfl h
theorem ct_X5_setMeter (p0 : Int32) (p1 : Int32) (p2 : Int32) (σ : Mem) (K : Int32 → Mem → Prop) (X : String → Mem → Prop) (h : sp_X5_setMeter p0 p1 p2 σ K X) : CtI yX5_setMeter cX5_setMeter 5 (some .int) 3 0 [.ref 209, .int p0, .int p1, .int p2] σ K X := by
  have h := h
  exact ctI_of (by decide +kernel) (Nat.le_of_ble_eq_true rfl) (fun x C r => sg_X5_setMeter_0 C r p0 p1 p2  σ h)
/-! HeatNetworkModel.setReturn(II)I: level 3, exceptions 0 -/
def sp_X5_setReturn (p0 : Int32) (p1 : Int32) (σ : Mem) (K : Int32 → Mem → Prop) (X : String → Mem → Prop) : Prop := (∀ σ2 : Mem, σ2 = wi σ 209 0 0 → sp_X5_hasStation p0 σ2 (fun r7 σ7 => (¬ r7 = 0 → sp_X5_in p1 200 600 σ7 (fun r26 σ26 => (¬ r26 = 0 → sp_X5_changes  σ26 (fun σ39 => (vp_in ((48 + (6 * p0)) + 2) 108) ∧ (∀ v56 : Int32, v56 = (σ39.1 210 (((48 + (6 * p0)) + 2)).toNatClampNeg) → (vp_in ((48 + (6 * p0)) + 2) 108) ∧ (∀ σ71 : Mem, σ71 = wi σ39 210 (((48 + (6 * p0)) + 2)).toNatClampNeg p1 → K v56 σ71))) X) ∧ (r26 = 0 → sp_X5_raises 2 σ26 (fun r34 σ34 => K r34 σ34) X)) X) ∧ (r7 = 0 → sp_X5_raises 1 σ7 (fun r15 σ15 => K r15 σ15) X)) X)
set_option maxRecDepth 4000 in
theorem sg_X5_setReturn_0 {x : Ctx} {K : Int32 → Mem → Prop} {X : String → Mem → Prop} (C : Cx x RX5 cX5_setReturn 4) (r : RtI x 3 0 (some .int) K X) (p0 : Int32) (p1 : Int32)  (σ : Mem) (h : ∀ σ2 : Mem, σ2 = wi σ 209 0 0 → sp_X5_hasStation p0 σ2 (fun r7 σ7 => (¬ r7 = 0 → sp_X5_in p1 200 600 σ7 (fun r26 σ26 => (¬ r26 = 0 → sp_X5_changes  σ26 (fun σ39 => (vp_in ((48 + (6 * p0)) + 2) 108) ∧ (∀ v56 : Int32, v56 = (σ39.1 210 (((48 + (6 * p0)) + 2)).toNatClampNeg) → (vp_in ((48 + (6 * p0)) + 2) 108) ∧ (∀ σ71 : Mem, σ71 = wi σ39 210 (((48 + (6 * p0)) + 2)).toNatClampNeg p1 → K v56 σ71))) X) ∧ (r26 = 0 → sp_X5_raises 2 σ26 (fun r34 σ34 => K r34 σ34) X)) X) ∧ (r7 = 0 → sp_X5_raises 1 σ7 (fun r15 σ15 => K r15 σ15) X)) X) : Ws x 0 0 [(0, .ref 209), (1, .int p0), (2, .int p1)] [] σ := by
  refine r_aload_n (j := 0) C 1 dX5_setReturn_0 rfl rfl ?_
  refine r_iconst C 2 (v := 0) dX5_setReturn_1 rfl (by decide) ?_
  refine r_putI (k := 0) C cl7 5 dX5_setReturn_2 rfl kd_209 (by decide) wd_1212 rfl rfl rfl rfl ?_
  refine r_nmS (fun σ2 e2 => ?_)
  have h := h σ2 e2
  refine r_aload_n (j := 0) C 6 dX5_setReturn_5 rfl rfl ?_
  refine r_iload_n (j := 1) C 7 dX5_setReturn_6 rfl rfl ?_
  refine r_cVI (as := [.int p0]) (S := []) C r.px 10 (ct_X5_hasStation _ _ _ _ h) dX5_setReturn_7 rfl cl7 kd_209 wd_52 wd_1396 rfl wd_1394 wd_1397 wd_95 yd_X5_hasStation ⟨Nat.le_of_ble_eq_true rfl, Nat.le_of_ble_eq_true rfl⟩ (Nat.le_of_ble_eq_true rfl) (by decide) (fun r7 σ7 h => ?_)
  refine r_if_ne C 19 13 dX5_setReturn_10 (by decide) rfl (fun c10 => ?_) (fun c10 => ?_)
  · have h := h.1 c10
    refine r_iload_n (j := 2) C 20 dX5_setReturn_19 rfl rfl ?_
    refine r_sipush C 23 (v := 200) dX5_setReturn_20 rfl (by decide) ?_
    refine r_sipush C 26 (v := 600) dX5_setReturn_23 rfl (by decide) ?_
    refine r_cSI (b := 0) (as := [.int p1, .int 200, .int 600]) (S := []) C r.px 29 (ct_X5_in _ _ _ _ _ _ h) dX5_setReturn_26 rfl wd_1321 wd_1320 wd_1322 wd_95 yd_X5_in ⟨Nat.le_of_ble_eq_true rfl, Nat.le_of_ble_eq_true rfl⟩ (Nat.le_of_ble_eq_true rfl) (by decide) (fun r26 σ26 h => ?_)
    refine r_if_ne C 38 32 dX5_setReturn_29 (by decide) rfl (fun c29 => ?_) (fun c29 => ?_)
    · have h := h.1 c29
      refine r_aload_n (j := 0) C 39 dX5_setReturn_38 rfl rfl ?_
      refine r_cVV (as := []) (S := []) C r.px 42 (ct_X5_changes  _ _ _ h) dX5_setReturn_39 rfl cl7 kd_209 wd_41 wd_1333 rfl wd_1331 wd_1334 wd_95 yd_X5_changes ⟨Nat.le_of_ble_eq_true rfl, Nat.le_of_ble_eq_true rfl⟩ (Nat.le_of_ble_eq_true rfl) (by decide) (fun σ39 h => ?_)
      refine r_aload_n (j := 0) C 43 dX5_setReturn_42 rfl rfl ?_
      refine r_get (k := 1) C cl7 46 dX5_setReturn_43 rfl kd_209 (by decide) wd_1213 (.ref 210) (fun _ => rfl) ?_
      refine r_bipush C 48 (v := 48) dX5_setReturn_46 rfl (by decide) ?_
      refine r_bipush C 50 (v := 6) dX5_setReturn_48 rfl (by decide) ?_
      refine r_iload_n (j := 1) C 51 dX5_setReturn_50 rfl rfl ?_
      refine r_imul C 52 dX5_setReturn_51 rfl ?_
      refine r_iadd C 53 dX5_setReturn_52 rfl ?_
      refine r_iconst C 54 (v := 2) dX5_setReturn_53 rfl (by decide) ?_
      refine r_iadd C 55 dX5_setReturn_54 rfl ?_
      obtain ⟨o55, h⟩ := h
      refine r_iald C 56 dX5_setReturn_55 rfl kd_210 o55 ?_
      refine r_nmI (fun v56 e56 => ?_)
      have h := h v56 e56
      refine r_istore_n C 57 [(3, .int v56), (0, .ref 209), (1, .int p0), (2, .int p1)] dX5_setReturn_56 rfl (by decide) rfl ?_
      refine r_aload_n (j := 1) C 58 dX5_setReturn_57 rfl rfl ?_
      refine r_get (k := 1) C cl7 61 dX5_setReturn_58 rfl kd_209 (by decide) wd_1213 (.ref 210) (fun _ => rfl) ?_
      refine r_bipush C 63 (v := 48) dX5_setReturn_61 rfl (by decide) ?_
      refine r_bipush C 65 (v := 6) dX5_setReturn_63 rfl (by decide) ?_
      refine r_iload_n (j := 2) C 66 dX5_setReturn_65 rfl rfl ?_
      refine r_imul C 67 dX5_setReturn_66 rfl ?_
      refine r_iadd C 68 dX5_setReturn_67 rfl ?_
      refine r_iconst C 69 (v := 2) dX5_setReturn_68 rfl (by decide) ?_
      refine r_iadd C 70 dX5_setReturn_69 rfl ?_
      refine r_iload_n (j := 3) C 71 dX5_setReturn_70 rfl rfl ?_
      obtain ⟨o71, h⟩ := h
      refine r_iast C 72 dX5_setReturn_71 rfl kd_210 o71 ?_
      refine r_nmS (fun σ71 e71 => ?_)
      have h := h σ71 e71
      refine r_iload_n (j := 0) C 73 dX5_setReturn_72 rfl rfl ?_
      exact r_iret (S := []) C r dX5_setReturn_73 (by decide) rfl h
    · have h := h.2 c29
      refine r_aload_n (j := 0) C 33 dX5_setReturn_32 rfl rfl ?_
      refine r_iconst C 34 (v := 2) dX5_setReturn_33 rfl (by decide) ?_
      refine r_cVI (as := [.int 2]) (S := []) C r.px 37 (ct_X5_raises _ _ _ _ h) dX5_setReturn_34 rfl cl7 kd_209 wd_40 wd_1325 rfl wd_1323 wd_1326 wd_95 yd_X5_raises ⟨Nat.le_of_ble_eq_true rfl, Nat.le_of_ble_eq_true rfl⟩ (Nat.le_of_ble_eq_true rfl) (by decide) (fun r34 σ34 h => ?_)
      exact r_iret (S := []) C r dX5_setReturn_37 (by decide) rfl h
  · have h := h.2 c10
    refine r_aload_n (j := 0) C 14 dX5_setReturn_13 rfl rfl ?_
    refine r_iconst C 15 (v := 1) dX5_setReturn_14 rfl (by decide) ?_
    refine r_cVI (as := [.int 1]) (S := []) C r.px 18 (ct_X5_raises _ _ _ _ h) dX5_setReturn_15 rfl cl7 kd_209 wd_40 wd_1325 rfl wd_1323 wd_1326 wd_95 yd_X5_raises ⟨Nat.le_of_ble_eq_true rfl, Nat.le_of_ble_eq_true rfl⟩ (Nat.le_of_ble_eq_true rfl) (by decide) (fun r15 σ15 h => ?_)
    exact r_iret (S := []) C r dX5_setReturn_18 (by decide) rfl h
theorem ct_X5_setReturn (p0 : Int32) (p1 : Int32) (σ : Mem) (K : Int32 → Mem → Prop) (X : String → Mem → Prop) (h : sp_X5_setReturn p0 p1 σ K X) : CtI yX5_setReturn cX5_setReturn 4 (some .int) 3 0 [.ref 209, .int p0, .int p1] σ K X := by
  have h := h
  exact ctI_of (by decide +kernel) (Nat.le_of_ble_eq_true rfl) (fun x C r => sg_X5_setReturn_0 C r p0 p1  σ h)
/-! HeatNetworkModel.setSetting(II)I: level 3, exceptions 0 -/
def sp_X5_setSetting (p0 : Int32) (p1 : Int32) (σ : Mem) (K : Int32 → Mem → Prop) (X : String → Mem → Prop) : Prop := (∀ σ2 : Mem, σ2 = wi σ 209 0 0 → sp_X5_in p0 0 6 σ2 (fun r9 σ9 => (¬ r9 = 0 → sp_X5_isSettingValue p0 p1 σ9 (fun r23 σ23 => (¬ r23 = 0 → sp_X5_changes  σ23 (fun σ36 => (vp_in p0 108) ∧ (∀ v45 : Int32, v45 = (σ36.1 210 p0.toNatClampNeg) → (vp_in p0 108) ∧ (∀ σ52 : Mem, σ52 = wi σ36 210 p0.toNatClampNeg p1 → K v45 σ52))) X) ∧ (r23 = 0 → sp_X5_raises 2 σ23 (fun r31 σ31 => K r31 σ31) X)) X) ∧ (r9 = 0 → sp_X5_raises 1 σ9 (fun r17 σ17 => K r17 σ17) X)) X)
set_option maxRecDepth 4000 in
theorem sg_X5_setSetting_0 {x : Ctx} {K : Int32 → Mem → Prop} {X : String → Mem → Prop} (C : Cx x RX5 cX5_setSetting 4) (r : RtI x 3 0 (some .int) K X) (p0 : Int32) (p1 : Int32)  (σ : Mem) (h : ∀ σ2 : Mem, σ2 = wi σ 209 0 0 → sp_X5_in p0 0 6 σ2 (fun r9 σ9 => (¬ r9 = 0 → sp_X5_isSettingValue p0 p1 σ9 (fun r23 σ23 => (¬ r23 = 0 → sp_X5_changes  σ23 (fun σ36 => (vp_in p0 108) ∧ (∀ v45 : Int32, v45 = (σ36.1 210 p0.toNatClampNeg) → (vp_in p0 108) ∧ (∀ σ52 : Mem, σ52 = wi σ36 210 p0.toNatClampNeg p1 → K v45 σ52))) X) ∧ (r23 = 0 → sp_X5_raises 2 σ23 (fun r31 σ31 => K r31 σ31) X)) X) ∧ (r9 = 0 → sp_X5_raises 1 σ9 (fun r17 σ17 => K r17 σ17) X)) X) : Ws x 0 0 [(0, .ref 209), (1, .int p0), (2, .int p1)] [] σ := by
  refine r_aload_n (j := 0) C 1 dX5_setSetting_0 rfl rfl ?_
  refine r_iconst C 2 (v := 0) dX5_setSetting_1 rfl (by decide) ?_
  refine r_putI (k := 0) C cl7 5 dX5_setSetting_2 rfl kd_209 (by decide) wd_1212 rfl rfl rfl rfl ?_
  refine r_nmS (fun σ2 e2 => ?_)
  have h := h σ2 e2
  refine r_iload_n (j := 1) C 6 dX5_setSetting_5 rfl rfl ?_
  refine r_iconst C 7 (v := 0) dX5_setSetting_6 rfl (by decide) ?_
  refine r_bipush C 9 (v := 6) dX5_setSetting_7 rfl (by decide) ?_
  refine r_cSI (b := 0) (as := [.int p0, .int 0, .int 6]) (S := []) C r.px 12 (ct_X5_in _ _ _ _ _ _ h) dX5_setSetting_9 rfl wd_1321 wd_1320 wd_1322 wd_95 yd_X5_in ⟨Nat.le_of_ble_eq_true rfl, Nat.le_of_ble_eq_true rfl⟩ (Nat.le_of_ble_eq_true rfl) (by decide) (fun r9 σ9 h => ?_)
  refine r_if_ne C 21 15 dX5_setSetting_12 (by decide) rfl (fun c12 => ?_) (fun c12 => ?_)
  · have h := h.1 c12
    refine r_iload_n (j := 1) C 22 dX5_setSetting_21 rfl rfl ?_
    refine r_iload_n (j := 2) C 23 dX5_setSetting_22 rfl rfl ?_
    refine r_cSI (b := 0) (as := [.int p0, .int p1]) (S := []) C r.px 26 (ct_X5_isSettingValue _ _ _ _ _ h) dX5_setSetting_23 rfl wd_1328 wd_1327 wd_1329 wd_95 yd_X5_isSettingValue ⟨Nat.le_of_ble_eq_true rfl, Nat.le_of_ble_eq_true rfl⟩ (Nat.le_of_ble_eq_true rfl) (by decide) (fun r23 σ23 h => ?_)
    refine r_if_ne C 35 29 dX5_setSetting_26 (by decide) rfl (fun c26 => ?_) (fun c26 => ?_)
    · have h := h.1 c26
      refine r_aload_n (j := 0) C 36 dX5_setSetting_35 rfl rfl ?_
      refine r_cVV (as := []) (S := []) C r.px 39 (ct_X5_changes  _ _ _ h) dX5_setSetting_36 rfl cl7 kd_209 wd_41 wd_1333 rfl wd_1331 wd_1334 wd_95 yd_X5_changes ⟨Nat.le_of_ble_eq_true rfl, Nat.le_of_ble_eq_true rfl⟩ (Nat.le_of_ble_eq_true rfl) (by decide) (fun σ36 h => ?_)
      refine r_aload_n (j := 0) C 40 dX5_setSetting_39 rfl rfl ?_
      refine r_get (k := 1) C cl7 43 dX5_setSetting_40 rfl kd_209 (by decide) wd_1213 (.ref 210) (fun _ => rfl) ?_
      refine r_iload_n (j := 1) C 44 dX5_setSetting_43 rfl rfl ?_
      obtain ⟨o44, h⟩ := h
      refine r_iald C 45 dX5_setSetting_44 rfl kd_210 o44 ?_
      refine r_nmI (fun v45 e45 => ?_)
      have h := h v45 e45
      refine r_istore_n C 46 [(3, .int v45), (0, .ref 209), (1, .int p0), (2, .int p1)] dX5_setSetting_45 rfl (by decide) rfl ?_
      refine r_aload_n (j := 1) C 47 dX5_setSetting_46 rfl rfl ?_
      refine r_get (k := 1) C cl7 50 dX5_setSetting_47 rfl kd_209 (by decide) wd_1213 (.ref 210) (fun _ => rfl) ?_
      refine r_iload_n (j := 2) C 51 dX5_setSetting_50 rfl rfl ?_
      refine r_iload_n (j := 3) C 52 dX5_setSetting_51 rfl rfl ?_
      obtain ⟨o52, h⟩ := h
      refine r_iast C 53 dX5_setSetting_52 rfl kd_210 o52 ?_
      refine r_nmS (fun σ52 e52 => ?_)
      have h := h σ52 e52
      refine r_iload_n (j := 0) C 54 dX5_setSetting_53 rfl rfl ?_
      exact r_iret (S := []) C r dX5_setSetting_54 (by decide) rfl h
    · have h := h.2 c26
      refine r_aload_n (j := 0) C 30 dX5_setSetting_29 rfl rfl ?_
      refine r_iconst C 31 (v := 2) dX5_setSetting_30 rfl (by decide) ?_
      refine r_cVI (as := [.int 2]) (S := []) C r.px 34 (ct_X5_raises _ _ _ _ h) dX5_setSetting_31 rfl cl7 kd_209 wd_40 wd_1325 rfl wd_1323 wd_1326 wd_95 yd_X5_raises ⟨Nat.le_of_ble_eq_true rfl, Nat.le_of_ble_eq_true rfl⟩ (Nat.le_of_ble_eq_true rfl) (by decide) (fun r31 σ31 h => ?_)
      exact r_iret (S := []) C r dX5_setSetting_34 (by decide) rfl h
  · have h := h.2 c12
    refine r_aload_n (j := 0) C 16 dX5_setSetting_15 rfl rfl ?_
    refine r_iconst C 17 (v := 1) dX5_setSetting_16 rfl (by decide) ?_
    refine r_cVI (as := [.int 1]) (S := []) C r.px 20 (ct_X5_raises _ _ _ _ h) dX5_setSetting_17 rfl cl7 kd_209 wd_40 wd_1325 rfl wd_1323 wd_1326 wd_95 yd_X5_raises ⟨Nat.le_of_ble_eq_true rfl, Nat.le_of_ble_eq_true rfl⟩ (Nat.le_of_ble_eq_true rfl) (by decide) (fun r17 σ17 h => ?_)
    exact r_iret (S := []) C r dX5_setSetting_20 (by decide) rfl h
theorem ct_X5_setSetting (p0 : Int32) (p1 : Int32) (σ : Mem) (K : Int32 → Mem → Prop) (X : String → Mem → Prop) (h : sp_X5_setSetting p0 p1 σ K X) : CtI yX5_setSetting cX5_setSetting 4 (some .int) 3 0 [.ref 209, .int p0, .int p1] σ K X := by
  have h := h
  exact ctI_of (by decide +kernel) (Nat.le_of_ble_eq_true rfl) (fun x C r => sg_X5_setSetting_0 C r p0 p1  σ h)
/-! HeatNetwork$State.allStationHeat(LHeatNetwork$Network;)J: level 4, exceptions 0 -/
def sp_X2_allStationHeat (t a : Nat) (σ : Mem) (K : Int64 → Mem → Prop) (X : String → Mem → Prop) : Prop := StaA t ∧ NetA a ∧ ∃ (w : Nat → Int32) (g : Gr) (dr T : Nat → Nat), WFw w g ∧ NR σ a w g ∧ (∀ n, n < 10 → (σ.1 (t + 1) n = nI (dr n) ∧ dr n ≤ 999) ∧ σ.1 (t + 6) n = nI (T n) ∧ T n ≤ 1200) ∧ K (zL (smZ (htZ w dr T) 10)) σ
set_option maxRecDepth 4000 in
theorem sg_X2_allStationHeat_0 {x : Ctx} {K : Int64 → Mem → Prop} {X : String → Mem → Prop} (C : Cx x RX2 cX2_allStationHeat 5) (r : RtL x 4 0 (some .long) K X) (t : Nat) (a : Nat) (ht : StaA t) (ha : NetA a) (σ : Mem) (h : Ws x 0 5 [(0, .ref t), (1, .ref a), (2, .long 0), (4, .int 0)] [] σ) : Ws x 0 0 [(0, .ref t), (1, .ref a)] [] σ := by
  refine r_lconst C 1 (v := 0) dX2_allStationHeat_0 rfl rfl ?_
  refine r_lstore_n C 2 [(2, .long 0), (0, .ref t), (1, .ref a)] dX2_allStationHeat_1 rfl (by decide) rfl ?_
  refine r_iconst C 3 (v := 0) dX2_allStationHeat_2 rfl (by decide) ?_
  refine r_istore C 5 [(4, .int 0), (2, .long 0), (0, .ref t), (1, .ref a)] dX2_allStationHeat_3 rfl (by decide) rfl ?_
  exact Ws_pick [2, 3, 1, 0] rfl h
set_option maxRecDepth 4000 in
theorem sg_X2_allStationHeat_5 {x : Ctx} {K : Int64 → Mem → Prop} {X : String → Mem → Prop} (C : Cx x RX2 cX2_allStationHeat 5) (r : RtL x 4 0 (some .long) K X) (t : Nat) (a : Nat) (l2 : Int64) (i4 : Int32) (ht : StaA t) (ha : NetA a) (σ : Mem) (h : (10 ≤ i4 → K l2 σ) ∧ (¬ 10 ≤ i4 → sp_X0_hasStation a i4 σ (fun r15 σ15 => (r15 = 0 → ∀ v31 : Int32, v31 = i4 + 1 → Ws x 0 5 [(0, .ref t), (1, .ref a), (2, .long l2), (4, .int v31)] [] σ15) ∧ (¬ r15 = 0 → sp_X2_stationHeat t a i4 σ15 (fun r26 σ26 => ∀ v30 : Int64, v30 = (l2 + r26) → ∀ v31 : Int32, v31 = i4 + 1 → Ws x 0 5 [(0, .ref t), (1, .ref a), (2, .long v30), (4, .int v31)] [] σ26) X)) X)) : Ws x 0 5 [(0, .ref t), (1, .ref a), (2, .long l2), (4, .int i4)] [] σ := by
  refine r_iload (j := 3) C 7 dX2_allStationHeat_5 rfl rfl ?_
  refine r_bipush C 9 (v := 10) dX2_allStationHeat_7 rfl (by decide) ?_
  refine r_icmp_ge C 37 12 dX2_allStationHeat_9 (by decide) rfl (fun c9 => ?_) (fun c9 => ?_)
  · have h := h.1 c9
    refine r_lload_n (j := 2) C 38 dX2_allStationHeat_37 rfl rfl ?_
    exact r_lret (S := []) C r dX2_allStationHeat_38 (by decide) h
  · have h := h.2 c9
    refine r_aload_n (j := 1) C 13 dX2_allStationHeat_12 rfl rfl ?_
    refine r_iload (j := 3) C 15 dX2_allStationHeat_13 rfl rfl ?_
    refine r_cVI (as := [.int i4]) (S := []) C r.px 18 (ct_X0_hasStation _ _ _ _ _ h) dX2_allStationHeat_15 rfl cl2 (net0 ha) wd_468 wd_467 rfl wd_466 wd_469 wd_91 yd_X0_hasStation ⟨Nat.le_of_ble_eq_true rfl, Nat.le_of_ble_eq_true rfl⟩ (Nat.le_of_ble_eq_true rfl) (by decide) (fun r15 σ15 h => ?_)
    refine r_if_eq C 31 21 dX2_allStationHeat_18 (by decide) rfl (fun c18 => ?_) (fun c18 => ?_)
    · have h := h.1 c18
      obtain ⟨v31, e31⟩ : ∃ y : Int32, y = i4 + 1 := ⟨_, rfl⟩
      have h := h v31 e31
      refine r_iinc (j := 3) C 34 [(4, .int v31), (0, .ref t), (1, .ref a), (2, .long l2)] dX2_allStationHeat_31 rfl rfl (by rw [e31]; rfl) (by decide) rfl ?_
      refine r_goto C 5 dX2_allStationHeat_34 (by decide) ?_
      exact Ws_pick [1, 2, 3, 0] rfl h
    · have h := h.2 c18
      refine r_lload_n (j := 2) C 22 dX2_allStationHeat_21 rfl rfl ?_
      refine r_aload_n (j := 0) C 23 dX2_allStationHeat_22 rfl rfl ?_
      refine r_aload_n (j := 1) C 24 dX2_allStationHeat_23 rfl rfl ?_
      refine r_iload (j := 3) C 26 dX2_allStationHeat_24 rfl rfl ?_
      refine r_cVL (as := [.ref a, .int i4]) (S := [.long l2]) C r.px 29 (ct_X2_stationHeat _ _ _ _ _ _ h) dX2_allStationHeat_26 rfl cl4 (sta0 ht) wd_896 wd_895 rfl wd_925 wd_897 wd_93 yd_X2_stationHeat ⟨Nat.le_of_ble_eq_true rfl, Nat.le_of_ble_eq_true rfl⟩ (Nat.le_of_ble_eq_true rfl) (by decide) (fun r26 σ26 h => ?_)
      refine r_ladd C 30 dX2_allStationHeat_29 rfl ?_
      refine r_nmL (fun v30 e30 => ?_)
      have h := h v30 e30
      refine r_lstore_n C 31 [(2, .long v30), (0, .ref t), (1, .ref a), (4, .int i4)] dX2_allStationHeat_30 rfl (by decide) rfl ?_
      obtain ⟨v31, e31⟩ : ∃ y : Int32, y = i4 + 1 := ⟨_, rfl⟩
      have h := h v31 e31
      refine r_iinc (j := 3) C 34 [(4, .int v31), (2, .long v30), (0, .ref t), (1, .ref a)] dX2_allStationHeat_31 rfl rfl (by rw [e31]; rfl) (by decide) rfl ?_
      refine r_goto C 5 dX2_allStationHeat_34 (by decide) ?_
      exact Ws_pick [2, 3, 1, 0] rfl h
theorem vc_X2_allStationHeat {x : Ctx} {K : Int64 → Mem → Prop} {X : String → Mem → Prop} (C : Cx x RX2 cX2_allStationHeat 5) (r : RtL x 4 0 (some .long) K X) (t a : Nat) (σ : Mem) (h : sp_X2_allStationHeat t a σ K X) : Ws x 0 0 [(0, .ref t), (1, .ref a)] [] σ := by
  obtain ⟨ht, ha, w, g, dr, T, hw, hN, hd, hK⟩ := h
  refine sg_X2_allStationHeat_0 C r t a ht ha σ ?_
  refine cnt 10 (fun _ (_ : Unit) => True) (fun k _ => Ws x 0 5 [(0, .ref t), (1, .ref a), (2, .long (zL (smZ (htZ w dr T) k))), (4, .int (nI k))] [] σ) ?_ ?_ 0 () (Nat.zero_le _) trivial
  · intro _ _
    exact sg_X2_allStationHeat_5 C r t a _ _ ht ha σ ⟨fun _ => hK, fun q => (lit_lt (by decide) (Nat.le_refl 10) (by decide) q).elim⟩
  · intro k _ hk _ ih
    have ih := ih () trivial
    have es : smZ (htZ w dr T) (k + 1) = smZ (htZ w dr T) k + htZ w dr T k := rfl
    rw [es] at ih
    refine sg_X2_allStationHeat_5 C r t a _ _ ht ha σ ⟨fun q => (lit_ge (by decide) hk q).elim, fun _ => i_X0_hasStation ha hk ?_⟩
    by_cases hh : hasW w k
    · obtain ⟨b1, -⟩ := (hN.2.2.2 k hk).1 hh
      obtain ⟨q1, -⟩ := hw.2.2.2.2.2.2.2.2.2.2.2.2 k hk hh
      obtain ⟨s0, s1, s2⟩ := q1.val (by decide)
      have hpos : ¬ σ.1 (a + 6) k ≤ 0 := by
        rw [b1, s0]
        intro z
        have := n_le (b := 0) (by omega) (by decide) z
        omega
      rw [if_pos hpos]
      refine ⟨fun q => absurd q (by decide), fun _ => i_X2_stationHeat ht ha hw hN hk hh (hd k hk).1 (hd k hk).2 (fun v30 e30 v31 e31 => ?_)⟩
      rw [e30, e31, nI_1, zL_add]
      exact ih
    · have b1 := (hN.2.2.2 k hk).2 hh
      have hz : ¬ ¬ σ.1 (a + 6) k ≤ 0 := by rw [b1]; decide
      rw [if_neg hz]
      refine ⟨fun _ v31 e31 => ?_, fun q => absurd rfl q⟩
      have h0 : htZ w dr T k = 0 := by unfold htZ; rw [if_neg (fun q => hh (hasB_iff.mp q))]
      rw [h0, Int.add_zero] at ih
      rw [e31, nI_1]
      exact ih
theorem ct_X2_allStationHeat (t : Nat) (a : Nat) (σ : Mem) (K : Int64 → Mem → Prop) (X : String → Mem → Prop) (h : sp_X2_allStationHeat t a σ K X) : CtL yX2_allStationHeat cX2_allStationHeat 5 (some .long) 4 0 [.ref t, .ref a] σ K X :=
  ctL_of (by decide +kernel) (Nat.le_of_ble_eq_true rfl) (fun x C r => vc_X2_allStationHeat C r t a σ h)
/-! HeatNetworkModel.allHeat()J: level 4, exceptions 0 -/
def sp_X5_allHeat (σ : Mem) (K : Int64 → Mem → Prop) (X : String → Mem → Prop) : Prop := ∃ (w : Nat → Int32) (g : Gr) (dr T : Nat → Nat), WFw w g ∧ (∀ k, k < 108 → σ.1 210 k = w k) ∧ (∀ n, n < 10 → (σ.1 225 n = nI (dr n) ∧ dr n ≤ 999) ∧ σ.1 229 n = nI (T n) ∧ T n ≤ 1200) ∧ K (zL (smZ (htZ w dr T) 10)) σ
set_option maxRecDepth 4000 in
theorem sg_X5_allHeat_0 {x : Ctx} {K : Int64 → Mem → Prop} {X : String → Mem → Prop} (C : Cx x RX5 cX5_allHeat 4) (r : RtL x 4 0 (some .long) K X)   (σ : Mem) (h : Ws x 0 4 [(0, .ref 209), (1, .long 0), (3, .int 0)] [] σ) : Ws x 0 0 [(0, .ref 209)] [] σ := by
  refine r_lconst C 1 (v := 0) dX5_allHeat_0 rfl rfl ?_
  refine r_lstore_n C 2 [(1, .long 0), (0, .ref 209)] dX5_allHeat_1 rfl (by decide) rfl ?_
  refine r_iconst C 3 (v := 0) dX5_allHeat_2 rfl (by decide) ?_
  refine r_istore_n C 4 [(3, .int 0), (1, .long 0), (0, .ref 209)] dX5_allHeat_3 rfl (by decide) rfl ?_
  exact Ws_pick [2, 1, 0] rfl h
set_option maxRecDepth 4000 in
theorem sg_X5_allHeat_4 {x : Ctx} {K : Int64 → Mem → Prop} {X : String → Mem → Prop} (C : Cx x RX5 cX5_allHeat 4) (r : RtL x 4 0 (some .long) K X) (l1 : Int64) (i3 : Int32)  (σ : Mem) (h : (10 ≤ i3 → K l1 σ) ∧ (¬ 10 ≤ i3 → sp_X5_heat i3 σ (fun r13 σ13 => ∀ v17 : Int64, v17 = (l1 + r13) → ∀ v18 : Int32, v18 = i3 + 1 → Ws x 0 4 [(0, .ref 209), (1, .long v17), (3, .int v18)] [] σ13) X)) : Ws x 0 4 [(0, .ref 209), (1, .long l1), (3, .int i3)] [] σ := by
  refine r_iload_n (j := 2) C 5 dX5_allHeat_4 rfl rfl ?_
  refine r_bipush C 7 (v := 10) dX5_allHeat_5 rfl (by decide) ?_
  refine r_icmp_ge C 24 10 dX5_allHeat_7 (by decide) rfl (fun c7 => ?_) (fun c7 => ?_)
  · have h := h.1 c7
    refine r_lload_n (j := 1) C 25 dX5_allHeat_24 rfl rfl ?_
    exact r_lret (S := []) C r dX5_allHeat_25 (by decide) h
  · have h := h.2 c7
    refine r_lload_n (j := 1) C 11 dX5_allHeat_10 rfl rfl ?_
    refine r_aload_n (j := 0) C 12 dX5_allHeat_11 rfl rfl ?_
    refine r_iload_n (j := 2) C 13 dX5_allHeat_12 rfl rfl ?_
    refine r_cVL (as := [.int i3]) (S := [.long l1]) C r.px 16 (ct_X5_heat _ _ _ _ h) dX5_allHeat_13 rfl cl7 kd_209 wd_76 wd_1519 rfl wd_1517 wd_1520 wd_95 yd_X5_heat ⟨Nat.le_of_ble_eq_true rfl, Nat.le_of_ble_eq_true rfl⟩ (Nat.le_of_ble_eq_true rfl) (by decide) (fun r13 σ13 h => ?_)
    refine r_ladd C 17 dX5_allHeat_16 rfl ?_
    refine r_nmL (fun v17 e17 => ?_)
    have h := h v17 e17
    refine r_lstore_n C 18 [(1, .long v17), (0, .ref 209), (3, .int i3)] dX5_allHeat_17 rfl (by decide) rfl ?_
    obtain ⟨v18, e18⟩ : ∃ y : Int32, y = i3 + 1 := ⟨_, rfl⟩
    have h := h v18 e18
    refine r_iinc (j := 2) C 21 [(3, .int v18), (1, .long v17), (0, .ref 209)] dX5_allHeat_18 rfl rfl (by rw [e18]; rfl) (by decide) rfl ?_
    refine r_goto C 4 dX5_allHeat_21 (by decide) ?_
    exact Ws_pick [2, 1, 0] rfl h
theorem vc_X5_allHeat {x : Ctx} {K : Int64 → Mem → Prop} {X : String → Mem → Prop} (C : Cx x RX5 cX5_allHeat 4) (r : RtL x 4 0 (some .long) K X) (σ : Mem) (h : sp_X5_allHeat σ K X) : Ws x 0 0 [(0, .ref 209)] [] σ := by
  obtain ⟨w, g, dr, T, hw, hr, hd, hK⟩ := h
  refine sg_X5_allHeat_0 C r σ ?_
  refine cnt 10 (fun _ (_ : Unit) => True) (fun k _ => Ws x 0 4 [(0, .ref 209), (1, .long (zL (smZ (htZ w dr T) k))), (3, .int (nI k))] [] σ) ?_ ?_ 0 () (Nat.zero_le _) trivial
  · intro _ _
    exact sg_X5_allHeat_4 C r _ _ σ ⟨fun _ => hK, fun q => (lit_lt (by decide) (Nat.le_refl 10) (by decide) q).elim⟩
  · intro k _ hk _ ih
    have ih := ih () trivial
    have es : smZ (htZ w dr T) (k + 1) = smZ (htZ w dr T) k + htZ w dr T k := rfl
    rw [es] at ih
    refine sg_X5_allHeat_4 C r _ _ σ ⟨fun q => (lit_ge (by decide) hk q).elim, fun _ => i_X5_heat hw hr hk (hd k hk).1 (hd k hk).2 (fun v17 e17 v18 e18 => ?_)⟩
    rw [e17, e18, nI_1, zL_add]
    exact ih
theorem ct_X5_allHeat  (σ : Mem) (K : Int64 → Mem → Prop) (X : String → Mem → Prop) (h : sp_X5_allHeat  σ K X) : CtL yX5_allHeat cX5_allHeat 4 (some .long) 4 0 [.ref 209] σ K X :=
  ctL_of (by decide +kernel) (Nat.le_of_ble_eq_true rfl) (fun x C r => vc_X5_allHeat C r  σ h)
/-! HeatNetworkModel.removeStation(I)I: level 4, exceptions 0 -/
def sp_X5_removeStation (p0 : Int32) (σ : Mem) (K : Int32 → Mem → Prop) (X : String → Mem → Prop) : Prop := (∀ σ2 : Mem, σ2 = wi σ 209 0 0 → sp_X5_tries  σ2 (fun σ6 => sp_X5_goneBy p0 σ6 (fun r11 σ11 => (r11 ≤ 0 → sp_X5_keeps  σ11 (fun σ27 => sp_X5_stations  σ27 (fun r31 σ31 => K r31 σ31) X) X) ∧ (¬ r11 ≤ 0 → sp_X5_refuses r11 1 σ11 (fun r22 σ22 => K r22 σ22) X)) X) X)
set_option maxRecDepth 4000 in
theorem sg_X5_removeStation_0 {x : Ctx} {K : Int32 → Mem → Prop} {X : String → Mem → Prop} (C : Cx x RX5 cX5_removeStation 3) (r : RtI x 4 0 (some .int) K X) (p0 : Int32)  (σ : Mem) (h : ∀ σ2 : Mem, σ2 = wi σ 209 0 0 → sp_X5_tries  σ2 (fun σ6 => sp_X5_goneBy p0 σ6 (fun r11 σ11 => (r11 ≤ 0 → sp_X5_keeps  σ11 (fun σ27 => sp_X5_stations  σ27 (fun r31 σ31 => K r31 σ31) X) X) ∧ (¬ r11 ≤ 0 → sp_X5_refuses r11 1 σ11 (fun r22 σ22 => K r22 σ22) X)) X) X) : Ws x 0 0 [(0, .ref 209), (1, .int p0)] [] σ := by
  refine r_aload_n (j := 0) C 1 dX5_removeStation_0 rfl rfl ?_
  refine r_iconst C 2 (v := 0) dX5_removeStation_1 rfl (by decide) ?_
  refine r_putI (k := 0) C cl7 5 dX5_removeStation_2 rfl kd_209 (by decide) wd_1212 rfl rfl rfl rfl ?_
  refine r_nmS (fun σ2 e2 => ?_)
  have h := h σ2 e2
  refine r_aload_n (j := 0) C 6 dX5_removeStation_5 rfl rfl ?_
  refine r_cVV (as := []) (S := []) C r.px 9 (ct_X5_tries  _ _ _ h) dX5_removeStation_6 rfl cl7 kd_209 wd_42 wd_1337 rfl wd_1335 wd_1338 wd_95 yd_X5_tries ⟨Nat.le_of_ble_eq_true rfl, Nat.le_of_ble_eq_true rfl⟩ (Nat.le_of_ble_eq_true rfl) (by decide) (fun σ6 h => ?_)
  refine r_aload_n (j := 0) C 10 dX5_removeStation_9 rfl rfl ?_
  refine r_iload_n (j := 1) C 11 dX5_removeStation_10 rfl rfl ?_
  refine r_cVI (as := [.int p0]) (S := []) C r.px 14 (ct_X5_goneBy _ _ _ _ h) dX5_removeStation_11 rfl cl7 kd_209 wd_54 wd_1408 rfl wd_1406 wd_1409 wd_95 yd_X5_goneBy ⟨Nat.le_of_ble_eq_true rfl, Nat.le_of_ble_eq_true rfl⟩ (Nat.le_of_ble_eq_true rfl) (by decide) (fun r11 σ11 h => ?_)
  refine r_istore_n C 15 [(2, .int r11), (0, .ref 209), (1, .int p0)] dX5_removeStation_14 rfl (by decide) rfl ?_
  refine r_iload_n (j := 0) C 16 dX5_removeStation_15 rfl rfl ?_
  refine r_if_le C 26 19 dX5_removeStation_16 (by decide) rfl (fun c16 => ?_) (fun c16 => ?_)
  · have h := h.1 c16
    refine r_aload_n (j := 1) C 27 dX5_removeStation_26 rfl rfl ?_
    refine r_cVV (as := []) (S := []) C r.px 30 (ct_X5_keeps  _ _ _ h) dX5_removeStation_27 rfl cl7 kd_209 wd_43 wd_1341 rfl wd_1339 wd_1342 wd_95 yd_X5_keeps ⟨Nat.le_of_ble_eq_true rfl, Nat.le_of_ble_eq_true rfl⟩ (Nat.le_of_ble_eq_true rfl) (by decide) (fun σ27 h => ?_)
    refine r_aload_n (j := 1) C 31 dX5_removeStation_30 rfl rfl ?_
    refine r_cVI (as := []) (S := []) C r.px 34 (ct_X5_stations  _ _ _ h) dX5_removeStation_31 rfl cl7 kd_209 wd_53 wd_1400 rfl wd_1398 wd_1401 wd_95 yd_X5_stations ⟨Nat.le_of_ble_eq_true rfl, Nat.le_of_ble_eq_true rfl⟩ (Nat.le_of_ble_eq_true rfl) (by decide) (fun r31 σ31 h => ?_)
    exact r_iret (S := []) C r dX5_removeStation_34 (by decide) rfl h
  · have h := h.2 c16
    refine r_aload_n (j := 1) C 20 dX5_removeStation_19 rfl rfl ?_
    refine r_iload_n (j := 0) C 21 dX5_removeStation_20 rfl rfl ?_
    refine r_iconst C 22 (v := 1) dX5_removeStation_21 rfl (by decide) ?_
    refine r_cVI (as := [.int r11, .int 1]) (S := []) C r.px 25 (ct_X5_refuses _ _ _ _ _ h) dX5_removeStation_22 rfl cl7 kd_209 wd_49 wd_1376 rfl wd_1374 wd_1377 wd_95 yd_X5_refuses ⟨Nat.le_of_ble_eq_true rfl, Nat.le_of_ble_eq_true rfl⟩ (Nat.le_of_ble_eq_true rfl) (by decide) (fun r22 σ22 h => ?_)
    exact r_iret (S := []) C r dX5_removeStation_25 (by decide) rfl h
theorem ct_X5_removeStation (p0 : Int32) (σ : Mem) (K : Int32 → Mem → Prop) (X : String → Mem → Prop) (h : sp_X5_removeStation p0 σ K X) : CtI yX5_removeStation cX5_removeStation 3 (some .int) 4 0 [.ref 209, .int p0] σ K X := by
  have h := h
  exact ctI_of (by decide +kernel) (Nat.le_of_ble_eq_true rfl) (fun x C r => sg_X5_removeStation_0 C r p0  σ h)
/-! HeatNetworkModel.addPipe(IIII)I: level 5, exceptions 0 -/
def sp_X5_addPipe (p0 : Int32) (p1 : Int32) (p2 : Int32) (p3 : Int32) (σ : Mem) (K : Int32 → Mem → Prop) (X : String → Mem → Prop) : Prop := (∀ σ2 : Mem, σ2 = wi σ 209 0 0 → sp_X5_tries  σ2 (fun σ6 => sp_X5_pipeBy p0 p1 p2 p3 σ6 (fun r15 σ15 => (r15 ≤ 0 → sp_X5_keeps  σ15 (fun σ34 => sp_X5_pipes  σ34 (fun r38 σ38 => K (r38 - 1) σ38) X) X) ∧ (¬ r15 ≤ 0 → sp_X5_refuses r15 1 σ15 (fun r29 σ29 => K r29 σ29) X)) X) X)
set_option maxRecDepth 4000 in
theorem sg_X5_addPipe_0 {x : Ctx} {K : Int32 → Mem → Prop} {X : String → Mem → Prop} (C : Cx x RX5 cX5_addPipe 6) (r : RtI x 5 0 (some .int) K X) (p0 : Int32) (p1 : Int32) (p2 : Int32) (p3 : Int32)  (σ : Mem) (h : ∀ σ2 : Mem, σ2 = wi σ 209 0 0 → sp_X5_tries  σ2 (fun σ6 => sp_X5_pipeBy p0 p1 p2 p3 σ6 (fun r15 σ15 => (r15 ≤ 0 → sp_X5_keeps  σ15 (fun σ34 => sp_X5_pipes  σ34 (fun r38 σ38 => K (r38 - 1) σ38) X) X) ∧ (¬ r15 ≤ 0 → sp_X5_refuses r15 1 σ15 (fun r29 σ29 => K r29 σ29) X)) X) X) : Ws x 0 0 [(0, .ref 209), (1, .int p0), (2, .int p1), (3, .int p2), (4, .int p3)] [] σ := by
  refine r_aload_n (j := 0) C 1 dX5_addPipe_0 rfl rfl ?_
  refine r_iconst C 2 (v := 0) dX5_addPipe_1 rfl (by decide) ?_
  refine r_putI (k := 0) C cl7 5 dX5_addPipe_2 rfl kd_209 (by decide) wd_1212 rfl rfl rfl rfl ?_
  refine r_nmS (fun σ2 e2 => ?_)
  have h := h σ2 e2
  refine r_aload_n (j := 0) C 6 dX5_addPipe_5 rfl rfl ?_
  refine r_cVV (as := []) (S := []) C r.px 9 (ct_X5_tries  _ _ _ h) dX5_addPipe_6 rfl cl7 kd_209 wd_42 wd_1337 rfl wd_1335 wd_1338 wd_95 yd_X5_tries ⟨Nat.le_of_ble_eq_true rfl, Nat.le_of_ble_eq_true rfl⟩ (Nat.le_of_ble_eq_true rfl) (by decide) (fun σ6 h => ?_)
  refine r_aload_n (j := 0) C 10 dX5_addPipe_9 rfl rfl ?_
  refine r_iload_n (j := 1) C 11 dX5_addPipe_10 rfl rfl ?_
  refine r_iload_n (j := 2) C 12 dX5_addPipe_11 rfl rfl ?_
  refine r_iload_n (j := 3) C 13 dX5_addPipe_12 rfl rfl ?_
  refine r_iload (j := 4) C 15 dX5_addPipe_13 rfl rfl ?_
  refine r_cVI (as := [.int p0, .int p1, .int p2, .int p3]) (S := []) C r.px 18 (ct_X5_pipeBy _ _ _ _ _ _ _ h) dX5_addPipe_15 rfl cl7 kd_209 wd_44 wd_1353 rfl wd_1351 wd_1354 wd_95 yd_X5_pipeBy ⟨Nat.le_of_ble_eq_true rfl, Nat.le_of_ble_eq_true rfl⟩ (Nat.le_of_ble_eq_true rfl) (by decide) (fun r15 σ15 h => ?_)
  refine r_istore C 20 [(5, .int r15), (0, .ref 209), (1, .int p0), (2, .int p1), (3, .int p2), (4, .int p3)] dX5_addPipe_18 rfl (by decide) rfl ?_
  refine r_iload (j := 0) C 22 dX5_addPipe_20 rfl rfl ?_
  refine r_if_le C 33 25 dX5_addPipe_22 (by decide) rfl (fun c22 => ?_) (fun c22 => ?_)
  · have h := h.1 c22
    refine r_aload_n (j := 1) C 34 dX5_addPipe_33 rfl rfl ?_
    refine r_cVV (as := []) (S := []) C r.px 37 (ct_X5_keeps  _ _ _ h) dX5_addPipe_34 rfl cl7 kd_209 wd_43 wd_1341 rfl wd_1339 wd_1342 wd_95 yd_X5_keeps ⟨Nat.le_of_ble_eq_true rfl, Nat.le_of_ble_eq_true rfl⟩ (Nat.le_of_ble_eq_true rfl) (by decide) (fun σ34 h => ?_)
    refine r_aload_n (j := 1) C 38 dX5_addPipe_37 rfl rfl ?_
    refine r_cVI (as := []) (S := []) C r.px 41 (ct_X5_pipes  _ _ _ h) dX5_addPipe_38 rfl cl7 kd_209 wd_45 wd_1360 rfl wd_1358 wd_1361 wd_95 yd_X5_pipes ⟨Nat.le_of_ble_eq_true rfl, Nat.le_of_ble_eq_true rfl⟩ (Nat.le_of_ble_eq_true rfl) (by decide) (fun r38 σ38 h => ?_)
    refine r_iconst C 42 (v := 1) dX5_addPipe_41 rfl (by decide) ?_
    refine r_isub C 43 dX5_addPipe_42 rfl ?_
    exact r_iret (S := []) C r dX5_addPipe_43 (by decide) rfl h
  · have h := h.2 c22
    refine r_aload_n (j := 1) C 26 dX5_addPipe_25 rfl rfl ?_
    refine r_iload (j := 0) C 28 dX5_addPipe_26 rfl rfl ?_
    refine r_iconst C 29 (v := 1) dX5_addPipe_28 rfl (by decide) ?_
    refine r_cVI (as := [.int r15, .int 1]) (S := []) C r.px 32 (ct_X5_refuses _ _ _ _ _ h) dX5_addPipe_29 rfl cl7 kd_209 wd_49 wd_1376 rfl wd_1374 wd_1377 wd_95 yd_X5_refuses ⟨Nat.le_of_ble_eq_true rfl, Nat.le_of_ble_eq_true rfl⟩ (Nat.le_of_ble_eq_true rfl) (by decide) (fun r29 σ29 h => ?_)
    exact r_iret (S := []) C r dX5_addPipe_32 (by decide) rfl h
theorem ct_X5_addPipe (p0 : Int32) (p1 : Int32) (p2 : Int32) (p3 : Int32) (σ : Mem) (K : Int32 → Mem → Prop) (X : String → Mem → Prop) (h : sp_X5_addPipe p0 p1 p2 p3 σ K X) : CtI yX5_addPipe cX5_addPipe 6 (some .int) 5 0 [.ref 209, .int p0, .int p1, .int p2, .int p3] σ K X := by
  have h := h
  exact ctI_of (by decide +kernel) (Nat.le_of_ble_eq_true rfl) (fun x C r => sg_X5_addPipe_0 C r p0 p1 p2 p3  σ h)
/-! HeatNetworkModel.efficiency()D: level 7, exceptions 0 -/
def sp_X5_efficiency  (σ : Mem) (K : UInt64 → Mem → Prop) (X : String → Mem → Prop) : Prop := (∀ σ2 : Mem, σ2 = wi σ 209 0 0 → sp_X5_looks  σ2 (fun σ6 => sp_X5_made  σ6 (fun r10 σ10 => (¬ r10 = 0 → sp_X5_allHeat  σ10 (fun r28 σ28 => sp_X5_made  σ28 (fun r33 σ33 => (vf_n64 (FP.ddiv (FP.l2d r28) (FP.l2d r33))) ∧ (K (FP.ddiv (FP.l2d r28) (FP.l2d r33)) σ33)) X) X) ∧ (r10 = 0 → sp_X5_raises 1 σ10 (fun r20 σ20 => K (FP.i2d r20) σ20) X)) X) X)
set_option maxRecDepth 4000 in
theorem sg_X5_efficiency_0 {x : Ctx} {K : UInt64 → Mem → Prop} {X : String → Mem → Prop} (C : Cx x RX5 cX5_efficiency 1) (r : RtD x 7 0 (some .double) K X)   (σ : Mem) (h : ∀ σ2 : Mem, σ2 = wi σ 209 0 0 → sp_X5_looks  σ2 (fun σ6 => sp_X5_made  σ6 (fun r10 σ10 => (¬ r10 = 0 → sp_X5_allHeat  σ10 (fun r28 σ28 => sp_X5_made  σ28 (fun r33 σ33 => (vf_n64 (FP.ddiv (FP.l2d r28) (FP.l2d r33))) ∧ (K (FP.ddiv (FP.l2d r28) (FP.l2d r33)) σ33)) X) X) ∧ (r10 = 0 → sp_X5_raises 1 σ10 (fun r20 σ20 => K (FP.i2d r20) σ20) X)) X) X) : Ws x 0 0 [(0, .ref 209)] [] σ := by
  refine r_aload_n (j := 0) C 1 dX5_efficiency_0 rfl rfl ?_
  refine r_iconst C 2 (v := 0) dX5_efficiency_1 rfl (by decide) ?_
  refine r_putI (k := 0) C cl7 5 dX5_efficiency_2 rfl kd_209 (by decide) wd_1212 rfl rfl rfl rfl ?_
  refine r_nmS (fun σ2 e2 => ?_)
  have h := h σ2 e2
  refine r_aload_n (j := 0) C 6 dX5_efficiency_5 rfl rfl ?_
  refine r_cVV (as := []) (S := []) C r.px 9 (ct_X5_looks  _ _ _ h) dX5_efficiency_6 rfl cl7 kd_209 wd_56 wd_1428 rfl wd_1426 wd_1429 wd_95 yd_X5_looks ⟨Nat.le_of_ble_eq_true rfl, Nat.le_of_ble_eq_true rfl⟩ (Nat.le_of_ble_eq_true rfl) (by decide) (fun σ6 h => ?_)
  refine r_aload_n (j := 0) C 10 dX5_efficiency_9 rfl rfl ?_
  refine r_cVL (as := []) (S := []) C r.px 13 (ct_X5_made  _ _ _ h) dX5_efficiency_10 rfl cl7 kd_209 wd_74 wd_1511 rfl wd_1509 wd_1512 wd_95 yd_X5_made ⟨Nat.le_of_ble_eq_true rfl, Nat.le_of_ble_eq_true rfl⟩ (Nat.le_of_ble_eq_true rfl) (by decide) (fun r10 σ10 h => ?_)
  refine r_lconst C 14 (v := 0) dX5_efficiency_13 rfl rfl ?_
  refine r_lcmp_ne C 15 27 18 dX5_efficiency_14 rfl dX5_efficiency_15 (by decide) rfl (fun c14 => ?_) (fun c14 => ?_)
  · have h := h.1 c14
    refine r_aload_n (j := 0) C 28 dX5_efficiency_27 rfl rfl ?_
    refine r_cVL (as := []) (S := []) C r.px 31 (ct_X5_allHeat  _ _ _ h) dX5_efficiency_28 rfl cl7 kd_209 wd_75 wd_1515 rfl wd_1513 wd_1516 wd_95 yd_X5_allHeat ⟨Nat.le_of_ble_eq_true rfl, Nat.le_of_ble_eq_true rfl⟩ (Nat.le_of_ble_eq_true rfl) (by decide) (fun r28 σ28 h => ?_)
    refine r_l2d C 32 dX5_efficiency_31 rfl ?_
    refine r_aload_n (j := 0) C 33 dX5_efficiency_32 rfl rfl ?_
    refine r_cVL (as := []) (S := [.double (FP.l2d r28)]) C r.px 36 (ct_X5_made  _ _ _ h) dX5_efficiency_33 rfl cl7 kd_209 wd_74 wd_1511 rfl wd_1509 wd_1512 wd_95 yd_X5_made ⟨Nat.le_of_ble_eq_true rfl, Nat.le_of_ble_eq_true rfl⟩ (Nat.le_of_ble_eq_true rfl) (by decide) (fun r33 σ33 h => ?_)
    refine r_l2d C 37 dX5_efficiency_36 rfl ?_
    obtain ⟨o37, h⟩ := h
    refine r_ddiv C 38 dX5_efficiency_37 rfl o37 ?_
    exact r_dret (S := []) C r dX5_efficiency_38 (by decide) h
  · have h := h.2 c14
    refine r_aload_n (j := 0) C 19 dX5_efficiency_18 rfl rfl ?_
    refine r_iconst C 20 (v := 1) dX5_efficiency_19 rfl (by decide) ?_
    refine r_cVI (as := [.int 1]) (S := []) C r.px 23 (ct_X5_raises _ _ _ _ h) dX5_efficiency_20 rfl cl7 kd_209 wd_40 wd_1325 rfl wd_1323 wd_1326 wd_95 yd_X5_raises ⟨Nat.le_of_ble_eq_true rfl, Nat.le_of_ble_eq_true rfl⟩ (Nat.le_of_ble_eq_true rfl) (by decide) (fun r20 σ20 h => ?_)
    refine r_i2d C 24 dX5_efficiency_23 rfl ?_
    refine r_goto C 38 dX5_efficiency_24 (by decide) ?_
    exact r_dret (S := []) C r dX5_efficiency_38 (by decide) h
theorem ct_X5_efficiency  (σ : Mem) (K : UInt64 → Mem → Prop) (X : String → Mem → Prop) (h : sp_X5_efficiency  σ K X) : CtD yX5_efficiency cX5_efficiency 1 (some .double) 7 0 [.ref 209] σ K X := by
  have h := h
  exact ctD_of (by decide +kernel) (Nat.le_of_ble_eq_true rfl) (fun x C r => sg_X5_efficiency_0 C r   σ h)
/-! HeatNetwork.efficiency()D: level 8, exceptions 1 -/
def sp_X4_efficiency  (σ : Mem) (K : UInt64 → Mem → Prop) (X : String → Mem → Prop) : Prop := (sp_X4_settle  σ (fun σ1 => sp_X2_madeHeat 53 1 σ1 (fun r12 σ12 => (¬ r12 = 0 → sp_X2_allStationHeat 53 1 σ12 (fun r41 σ41 => (vf_n64 (FP.ddiv (FP.l2d r41) (FP.l2d r12))) ∧ (K (FP.ddiv (FP.l2d r41) (FP.l2d r12)) σ41)) X) ∧ (r12 = 0 → X "java/lang/ArithmeticException" σ12)) X) X)
set_option maxRecDepth 4000 in
theorem sg_X4_efficiency_0 {x : Ctx} {K : UInt64 → Mem → Prop} {X : String → Mem → Prop} (C : Cx x RX4 cX4_efficiency 3) (r : RtD x 8 1 (some .double) K X)   (σ : Mem) (h : sp_X4_settle  σ (fun σ1 => sp_X2_madeHeat 53 1 σ1 (fun r12 σ12 => (¬ r12 = 0 → sp_X2_allStationHeat 53 1 σ12 (fun r41 σ41 => (vf_n64 (FP.ddiv (FP.l2d r41) (FP.l2d r12))) ∧ (K (FP.ddiv (FP.l2d r41) (FP.l2d r12)) σ41)) X) ∧ (r12 = 0 → X "java/lang/ArithmeticException" σ12)) X) X) : Ws x 0 0 [(0, .ref 0)] [] σ := by
  refine r_aload_n (j := 0) C 1 dX4_efficiency_0 rfl rfl ?_
  refine r_cVV (as := []) (S := []) C r.px 4 (ct_X4_settle  _ _ _ h) dX4_efficiency_1 rfl cl6 kd_0 wd_0 wd_411 rfl wd_409 wd_412 wd_90 yd_X4_settle ⟨Nat.le_of_ble_eq_true rfl, Nat.le_of_ble_eq_true rfl⟩ (Nat.le_of_ble_eq_true rfl) (by decide) (fun σ1 h => ?_)
  refine r_aload_n (j := 0) C 5 dX4_efficiency_4 rfl rfl ?_
  refine r_get (k := 5) C cl6 8 dX4_efficiency_5 rfl kd_0 (by decide) wd_363 (.ref 53) (fun _ => rfl) ?_
  refine r_aload_n (j := 0) C 9 dX4_efficiency_8 rfl rfl ?_
  refine r_get (k := 0) C cl6 12 dX4_efficiency_9 rfl kd_0 (by decide) wd_358 (.ref 1) (fun _ => rfl) ?_
  refine r_cVL (as := [.ref 1]) (S := []) C r.px 15 (ct_X2_madeHeat _ _ _ _ _ h) dX4_efficiency_12 rfl cl4 kd_53 wd_919 wd_918 rfl wd_917 wd_920 wd_93 yd_X2_madeHeat ⟨Nat.le_of_ble_eq_true rfl, Nat.le_of_ble_eq_true rfl⟩ (Nat.le_of_ble_eq_true rfl) (by decide) (fun r12 σ12 h => ?_)
  refine r_lstore_n C 16 [(1, .long r12), (0, .ref 0)] dX4_efficiency_15 rfl (by decide) rfl ?_
  refine r_lload_n (j := 0) C 17 dX4_efficiency_16 rfl rfl ?_
  refine r_lconst C 18 (v := 0) dX4_efficiency_17 rfl rfl ?_
  refine r_lcmp_ne C 19 33 22 dX4_efficiency_18 rfl dX4_efficiency_19 (by decide) rfl (fun c18 => ?_) (fun c18 => ?_)
  · have h := h.1 c18
    refine r_aload_n (j := 1) C 34 dX4_efficiency_33 rfl rfl ?_
    refine r_get (k := 5) C cl6 37 dX4_efficiency_34 rfl kd_0 (by decide) wd_363 (.ref 53) (fun _ => rfl) ?_
    refine r_aload_n (j := 1) C 38 dX4_efficiency_37 rfl rfl ?_
    refine r_get (k := 0) C cl6 41 dX4_efficiency_38 rfl kd_0 (by decide) wd_358 (.ref 1) (fun _ => rfl) ?_
    refine r_cVL (as := [.ref 1]) (S := []) C r.px 44 (ct_X2_allStationHeat _ _ _ _ _ h) dX4_efficiency_41 rfl cl4 kd_53 wd_923 wd_922 rfl wd_921 wd_924 wd_93 yd_X2_allStationHeat ⟨Nat.le_of_ble_eq_true rfl, Nat.le_of_ble_eq_true rfl⟩ (Nat.le_of_ble_eq_true rfl) (by decide) (fun r41 σ41 h => ?_)
    refine r_l2d C 45 dX4_efficiency_44 rfl ?_
    refine r_lload_n (j := 0) C 46 dX4_efficiency_45 rfl rfl ?_
    refine r_l2d C 47 dX4_efficiency_46 rfl ?_
    obtain ⟨o47, h⟩ := h
    refine r_ddiv C 48 dX4_efficiency_47 rfl o47 ?_
    exact r_dret (S := []) C r dX4_efficiency_48 (by decide) h
  · have h := h.2 c18
    exact r_throwW (own := "") (text := "no heat is made") C r.px dX4_efficiency_22 dX4_efficiency_25 dX4_efficiency_26 dX4_efficiency_29 dX4_efficiency_32 thARI.1 thN wd_1179 thARI.2.1 (by decide) thARI.2.2.1 thARI.2.2.2.1 thARI.2.2.2.2 (Nat.le_of_ble_eq_true rfl) (Nat.le_of_ble_eq_true rfl) (by decide) h
theorem ct_X4_efficiency  (σ : Mem) (K : UInt64 → Mem → Prop) (X : String → Mem → Prop) (h : sp_X4_efficiency  σ K X) : CtD yX4_efficiency cX4_efficiency 3 (some .double) 8 1 [.ref 0] σ K X := by
  have h := h
  exact ctD_of (by decide +kernel) (Nat.le_of_ble_eq_true rfl) (fun x C r => sg_X4_efficiency_0 C r   σ h)
/-! HeatNetwork.account(I)J: level 9, exceptions 1 -/
def sp_X4_account (p0 : Int32) (σ : Mem) (K : Int64 → Mem → Prop) (X : String → Mem → Prop) : Prop := (sp_X4_needRange p0 0 7 σ (fun σ4 => sp_X4_settle  σ4 (fun σ8 => (p0 = 0 → sp_X2_madeHeat 53 1 σ8 (fun r64 σ64 => K r64 σ64) X) ∧ (p0 = 1 → sp_X2_allStationHeat 53 1 σ8 (fun r76 σ76 => K r76 σ76) X) ∧ (p0 = 2 → sp_X4_sumOf 64 10 σ8 (fun r87 σ87 => K r87 σ87) X) ∧ (p0 = 3 → sp_X4_sumOf 63 10 σ8 (fun r98 σ98 => K r98 σ98) X) ∧ (p0 = 4 → K (σ8.2.1 1 14) σ8) ∧ (p0 = 5 → K (σ8.2.1 1 15) σ8) ∧ (p0 = 6 → K (σ8.2.1 1 16) σ8) ∧ (¬ p0 = 0 → ¬ p0 = 1 → ¬ p0 = 2 → ¬ p0 = 3 → ¬ p0 = 4 → ¬ p0 = 5 → ¬ p0 = 6 → K (σ8.2.1 1 17) σ8)) X) X)
set_option maxRecDepth 4000 in
theorem sg_X4_account_0 {x : Ctx} {K : Int64 → Mem → Prop} {X : String → Mem → Prop} (C : Cx x RX4 cX4_account 2) (r : RtL x 9 1 (some .long) K X) (p0 : Int32)  (σ : Mem) (h : sp_X4_needRange p0 0 7 σ (fun σ4 => sp_X4_settle  σ4 (fun σ8 => (p0 = 0 → sp_X2_madeHeat 53 1 σ8 (fun r64 σ64 => K r64 σ64) X) ∧ (p0 = 1 → sp_X2_allStationHeat 53 1 σ8 (fun r76 σ76 => K r76 σ76) X) ∧ (p0 = 2 → sp_X4_sumOf 64 10 σ8 (fun r87 σ87 => K r87 σ87) X) ∧ (p0 = 3 → sp_X4_sumOf 63 10 σ8 (fun r98 σ98 => K r98 σ98) X) ∧ (p0 = 4 → K (σ8.2.1 1 14) σ8) ∧ (p0 = 5 → K (σ8.2.1 1 15) σ8) ∧ (p0 = 6 → K (σ8.2.1 1 16) σ8) ∧ (¬ p0 = 0 → ¬ p0 = 1 → ¬ p0 = 2 → ¬ p0 = 3 → ¬ p0 = 4 → ¬ p0 = 5 → ¬ p0 = 6 → K (σ8.2.1 1 17) σ8)) X) X) : Ws x 0 0 [(0, .ref 0), (1, .int p0)] [] σ := by
  refine r_iload_n (j := 1) C 1 dX4_account_0 rfl rfl ?_
  refine r_iconst C 2 (v := 0) dX4_account_1 rfl (by decide) ?_
  refine r_bipush C 4 (v := 7) dX4_account_2 rfl (by decide) ?_
  refine r_cSV (b := 0) (as := [.int p0, .int 0, .int 7]) (S := []) C r.px 7 (ct_X4_needRange _ _ _ _ _ _ h) dX4_account_4 rfl wd_869 wd_868 wd_870 wd_90 yd_X4_needRange ⟨Nat.le_of_ble_eq_true rfl, Nat.le_of_ble_eq_true rfl⟩ (Nat.le_of_ble_eq_true rfl) (by decide) (fun σ4 h => ?_)
  refine r_aload_n (j := 0) C 8 dX4_account_7 rfl rfl ?_
  refine r_cVV (as := []) (S := []) C r.px 11 (ct_X4_settle  _ _ _ h) dX4_account_8 rfl cl6 kd_0 wd_0 wd_411 rfl wd_409 wd_412 wd_90 yd_X4_settle ⟨Nat.le_of_ble_eq_true rfl, Nat.le_of_ble_eq_true rfl⟩ (Nat.le_of_ble_eq_true rfl) (by decide) (fun σ8 h => ?_)
  refine r_iload_n (j := 1) C 12 dX4_account_11 rfl rfl ?_
  by_cases c12_0 : p0 = 0
  · have h := h.1 c12_0
    refine r_tblIn C 56 (off := 44) dX4_account_12 (by rw [c12_0]; decide) (by rw [c12_0]; decide) (by rw [c12_0] <;> rfl) (by decide) ?_
    refine r_aload_n (j := 0) C 57 dX4_account_56 rfl rfl ?_
    refine r_get (k := 5) C cl6 60 dX4_account_57 rfl kd_0 (by decide) wd_363 (.ref 53) (fun _ => rfl) ?_
    refine r_aload_n (j := 0) C 61 dX4_account_60 rfl rfl ?_
    refine r_get (k := 0) C cl6 64 dX4_account_61 rfl kd_0 (by decide) wd_358 (.ref 1) (fun _ => rfl) ?_
    refine r_cVL (as := [.ref 1]) (S := []) C r.px 67 (ct_X2_madeHeat _ _ _ _ _ h) dX4_account_64 rfl cl4 kd_53 wd_919 wd_918 rfl wd_917 wd_920 wd_93 yd_X2_madeHeat ⟨Nat.le_of_ble_eq_true rfl, Nat.le_of_ble_eq_true rfl⟩ (Nat.le_of_ble_eq_true rfl) (by decide) (fun r64 σ64 h => ?_)
    exact r_lret (S := []) C r dX4_account_67 (by decide) h
  by_cases c12_1 : p0 = 1
  · have h := h.2.1 c12_1
    refine r_tblIn C 68 (off := 56) dX4_account_12 (by rw [c12_1]; decide) (by rw [c12_1]; decide) (by rw [c12_1] <;> rfl) (by decide) ?_
    refine r_aload_n (j := 0) C 69 dX4_account_68 rfl rfl ?_
    refine r_get (k := 5) C cl6 72 dX4_account_69 rfl kd_0 (by decide) wd_363 (.ref 53) (fun _ => rfl) ?_
    refine r_aload_n (j := 0) C 73 dX4_account_72 rfl rfl ?_
    refine r_get (k := 0) C cl6 76 dX4_account_73 rfl kd_0 (by decide) wd_358 (.ref 1) (fun _ => rfl) ?_
    refine r_cVL (as := [.ref 1]) (S := []) C r.px 79 (ct_X2_allStationHeat _ _ _ _ _ h) dX4_account_76 rfl cl4 kd_53 wd_923 wd_922 rfl wd_921 wd_924 wd_93 yd_X2_allStationHeat ⟨Nat.le_of_ble_eq_true rfl, Nat.le_of_ble_eq_true rfl⟩ (Nat.le_of_ble_eq_true rfl) (by decide) (fun r76 σ76 h => ?_)
    exact r_lret (S := []) C r dX4_account_79 (by decide) h
  by_cases c12_2 : p0 = 2
  · have h := h.2.2.1 c12_2
    refine r_tblIn C 80 (off := 68) dX4_account_12 (by rw [c12_2]; decide) (by rw [c12_2]; decide) (by rw [c12_2] <;> rfl) (by decide) ?_
    refine r_aload_n (j := 0) C 81 dX4_account_80 rfl rfl ?_
    refine r_get (k := 5) C cl6 84 dX4_account_81 rfl kd_0 (by decide) wd_363 (.ref 53) (fun _ => rfl) ?_
    refine r_get (k := 10) C cl4 87 dX4_account_84 rfl kd_53 (by decide) wd_292 (.ref 64) (fun _ => rfl) ?_
    refine r_cSL (b := 0) (as := [.ref 64]) (S := []) C r.px 90 (ct_X4_sumOf _ _ _ _ _ h) dX4_account_87 rfl wd_1156 wd_1155 wd_1157 wd_90 yd_X4_sumOf ⟨Nat.le_of_ble_eq_true rfl, Nat.le_of_ble_eq_true rfl⟩ (Nat.le_of_ble_eq_true rfl) (by decide) (fun r87 σ87 h => ?_)
    exact r_lret (S := []) C r dX4_account_90 (by decide) h
  by_cases c12_3 : p0 = 3
  · have h := h.2.2.2.1 c12_3
    refine r_tblIn C 91 (off := 79) dX4_account_12 (by rw [c12_3]; decide) (by rw [c12_3]; decide) (by rw [c12_3] <;> rfl) (by decide) ?_
    refine r_aload_n (j := 0) C 92 dX4_account_91 rfl rfl ?_
    refine r_get (k := 5) C cl6 95 dX4_account_92 rfl kd_0 (by decide) wd_363 (.ref 53) (fun _ => rfl) ?_
    refine r_get (k := 9) C cl4 98 dX4_account_95 rfl kd_53 (by decide) wd_290 (.ref 63) (fun _ => rfl) ?_
    refine r_cSL (b := 0) (as := [.ref 63]) (S := []) C r.px 101 (ct_X4_sumOf _ _ _ _ _ h) dX4_account_98 rfl wd_1156 wd_1155 wd_1157 wd_90 yd_X4_sumOf ⟨Nat.le_of_ble_eq_true rfl, Nat.le_of_ble_eq_true rfl⟩ (Nat.le_of_ble_eq_true rfl) (by decide) (fun r98 σ98 h => ?_)
    exact r_lret (S := []) C r dX4_account_101 (by decide) h
  by_cases c12_4 : p0 = 4
  · have h := h.2.2.2.2.1 c12_4
    refine r_tblIn C 102 (off := 90) dX4_account_12 (by rw [c12_4]; decide) (by rw [c12_4]; decide) (by rw [c12_4] <;> rfl) (by decide) ?_
    refine r_aload_n (j := 0) C 103 dX4_account_102 rfl rfl ?_
    refine r_get (k := 0) C cl6 106 dX4_account_103 rfl kd_0 (by decide) wd_358 (.ref 1) (fun _ => rfl) ?_
    refine r_get (k := 14) C cl2 109 dX4_account_106 rfl kd_1 (by decide) wd_171 (.long (σ8.2.1 1 14)) (fun _ => rfl) ?_
    exact r_lret (S := []) C r dX4_account_109 (by decide) h
  by_cases c12_5 : p0 = 5
  · have h := h.2.2.2.2.2.1 c12_5
    refine r_tblIn C 110 (off := 98) dX4_account_12 (by rw [c12_5]; decide) (by rw [c12_5]; decide) (by rw [c12_5] <;> rfl) (by decide) ?_
    refine r_aload_n (j := 0) C 111 dX4_account_110 rfl rfl ?_
    refine r_get (k := 0) C cl6 114 dX4_account_111 rfl kd_0 (by decide) wd_358 (.ref 1) (fun _ => rfl) ?_
    refine r_get (k := 15) C cl2 117 dX4_account_114 rfl kd_1 (by decide) wd_173 (.long (σ8.2.1 1 15)) (fun _ => rfl) ?_
    exact r_lret (S := []) C r dX4_account_117 (by decide) h
  by_cases c12_6 : p0 = 6
  · have h := h.2.2.2.2.2.2.1 c12_6
    refine r_tblIn C 118 (off := 106) dX4_account_12 (by rw [c12_6]; decide) (by rw [c12_6]; decide) (by rw [c12_6] <;> rfl) (by decide) ?_
    refine r_aload_n (j := 0) C 119 dX4_account_118 rfl rfl ?_
    refine r_get (k := 0) C cl6 122 dX4_account_119 rfl kd_0 (by decide) wd_358 (.ref 1) (fun _ => rfl) ?_
    refine r_get (k := 16) C cl2 125 dX4_account_122 rfl kd_1 (by decide) wd_175 (.long (σ8.2.1 1 16)) (fun _ => rfl) ?_
    exact r_lret (S := []) C r dX4_account_125 (by decide) h
  have h := h.2.2.2.2.2.2.2 c12_0 c12_1 c12_2 c12_3 c12_4 c12_5 c12_6
  refine r_tblOut C 126 dX4_account_12 (tsw_out 7 (by decide) (fun k hk => by
    match k, hk with
    | 0, _ => exact c12_0
    | 1, _ => exact c12_1
    | 2, _ => exact c12_2
    | 3, _ => exact c12_3
    | 4, _ => exact c12_4
    | 5, _ => exact c12_5
    | 6, _ => exact c12_6
    | k + 7, hk => exact absurd hk (by omega))) (by decide) ?_
  refine r_aload_n (j := 0) C 127 dX4_account_126 rfl rfl ?_
  refine r_get (k := 0) C cl6 130 dX4_account_127 rfl kd_0 (by decide) wd_358 (.ref 1) (fun _ => rfl) ?_
  refine r_get (k := 17) C cl2 133 dX4_account_130 rfl kd_1 (by decide) wd_177 (.long (σ8.2.1 1 17)) (fun _ => rfl) ?_
  exact r_lret (S := []) C r dX4_account_133 (by decide) h
theorem ct_X4_account (p0 : Int32) (σ : Mem) (K : Int64 → Mem → Prop) (X : String → Mem → Prop) (h : sp_X4_account p0 σ K X) : CtL yX4_account cX4_account 2 (some .long) 9 1 [.ref 0, .int p0] σ K X := by
  have h := h
  exact ctL_of (by decide +kernel) (Nat.le_of_ble_eq_true rfl) (fun x C r => sg_X4_account_0 C r p0  σ h)
