theorem fp_b32 : FP.Core.b32.exps = 256 ∧ FP.Core.b32.tails = 8388608 := by decide +kernel
theorem f2d_inf (s : Bool) : FP.Core.encode FP.Core.b64 (FP.Core.round FP.Core.b64 (.inf s)) % 2 ^ 64 % 2 ^ 63 ≤ 9218868437227405312 := by
  cases s <;> decide +kernel
theorem f2d_n {r : UInt32} (h : vf_n32 r) : vf_n64 (FP.f2d r) := by
  have hd : FP.Core.decode FP.Core.b32 r.toNat ≠ .nan := by
    unfold vf_n32 at h
    rw [UInt32.le_iff_toNat_le, UInt32.toNat_and, show (0x7fffffff : UInt32).toNat = 2 ^ 31 - 1 from rfl, Nat.and_two_pow_sub_one_eq_mod, show (0x7f800000 : UInt32).toNat = 2139095040 from rfl] at h
    obtain ⟨f1, f2⟩ := fp_b32
    have hT : FP.Core.fieldT FP.Core.b32 r.toNat = r.toNat % 8388608 := by
      show r.toNat % FP.Core.b32.tails = _
      rw [f2]
    have hE : FP.Core.fieldE FP.Core.b32 r.toNat = r.toNat / 8388608 % 256 := by
      show r.toNat / FP.Core.b32.tails % FP.Core.b32.exps = _
      rw [f1, f2]
    unfold FP.Core.decode
    rw [hT, hE, f1]
    by_cases c : r.toNat / 8388608 % 256 = 256 - 1
    · rw [if_pos c, if_pos (by omega)]
      exact fun z => by cases z
    · rw [if_neg c]
      by_cases c2 : r.toNat / 8388608 % 256 = 0
      · rw [if_pos c2]; exact fun z => by cases z
      · rw [if_neg c2]; exact fun z => by cases z
  have hn : FP.Core.fIsNaN r = false := decide_eq_false hd
  have e0 : FP.f2d r = FP.Core.f2d r := by
    unfold FP.f2d
    rw [hn]
    rfl
  have e : (FP.f2d r).toNat = FP.Core.encode FP.Core.b64 (FP.Core.round FP.Core.b64 (FP.Core.decode FP.Core.b32 r.toNat)) % 2 ^ 64 := by
    rw [e0]
    show (UInt64.ofNat (FP.Core.encode FP.Core.b64 (FP.Core.round FP.Core.b64 (FP.Core.decode FP.Core.b32 r.toNat)))).toNat = _
    rw [UInt64.toNat_ofNat']
  unfold vf_n64
  rw [UInt64.le_iff_toNat_le, UInt64.toNat_and, show (0x7fffffffffffffff : UInt64).toNat = 2 ^ 63 - 1 from rfl, Nat.and_two_pow_sub_one_eq_mod, show (0x7ff0000000000000 : UInt64).toNat = 9218868437227405312 from rfl, e]
  generalize FP.Core.decode FP.Core.b32 r.toNat = dd at *
  cases dd with
  | nan => exact absurd rfl hd
  | inf s => exact f2d_inf s
  | fin s c q => exact fp_end (s := s) (num := c) (den := 1) (e := q)
theorem r_f2d {x : Ctx} {own : String} {cc : ByteArray} {nL n pc : Nat} {L : List (Nat × Value)} {S : List Value} {σ : Mem} (C : Cx x own cc nL) (pc' : Nat) {a : UInt32} (d : decode cc pc = .ok (.f2d, 1)) (hp : pc + 1 = pc') (h0 : vf_n64 (FP.f2d a)) (k : Ws x n pc' L (.double (FP.f2d a) :: S) σ) : Ws x n pc L (.float a :: S) σ := by
  obtain ⟨p, l, e, R, s, m, args, below, meth, c, g, QQ, c0, s0, nL'⟩ := x
  obtain ⟨hx, hb, hml, hown, hts, hKE, hlk, htr, rfl⟩ := C
  subst hp
  intro H locs ls hP hS hl
  exact lv_f2d hx hb d h0 (k H locs ls hP hS hl)
theorem r_dcmp {x : Ctx} {own : String} {cc : ByteArray} {nL n pc : Nat} {L : List (Nat × Value)} {S : List Value} {σ : Mem} (C : Cx x own cc nL) (pc' : Nat) {a b : UInt64} {op : CmpOp} (d : decode cc pc = .ok (.dcmp op, 1)) (hp : pc + 1 = pc') (k : Ws x n pc' L (.int (Op.cmpValue (FP.dcmp a b) op) :: S) σ) : Ws x n pc L (.double b :: .double a :: S) σ := by
  obtain ⟨p, l, e, R, s, m, args, below, meth, c, g, QQ, c0, s0, nL'⟩ := x
  obtain ⟨hx, hb, hml, hown, hts, hKE, hlk, htr, rfl⟩ := C
  subst hp
  intro H locs ls hP hS hl
  exact lv_dcmp hx hb d (k H locs ls hP hS hl)
def KwD (k : Int32) (τ2 : Mem) : Prop := ∃ r τ, FO τ τ2 ∧ AnD sp_X5_efficiency k r τ ∧ (k = 0 → τ2.2.2 234 0 = r)
theorem KwD.a {r : UInt64} {τ : Mem} (h : AnD sp_X5_efficiency 0 r τ) : KwD 0 (wd τ 234 0 r) := ⟨r, τ, FO_wd _ _, h, fun _ => by simp [wd]⟩
theorem KwD.b {k : Int32} {τ : Mem} (hk : ¬ k = 0) (h : AnD sp_X5_efficiency k 0 τ) : KwD k τ := ⟨0, τ, FO.rfl' _, h, fun z => absurd z hk⟩
theorem st_34 {x : Ctx} {n : Nat} {i : Int32} {σ : Mem} {Len : Nat} {xs : Nat → Int32} (C : Cx x RL cL_law 10) (Sc : Scr x Len xs) (hL : Lw x n) (hin : ∀ c : Nat, c ≤ 4 → vp_in (i + Int32.ofNat c) Len) (hR : Rel σ) (hc : ∀ υ n', n' ≤ n + 4 → Rel υ → Ws x n' 2348 (LL i) [] υ) : Ws x n 2148 (LL i) [] σ := by
  show Ws x n 2148 [(5, .int i), (4, .ref 234), (3, .ref 233), (2, .ref 209), (1, .ref 0), (0, .ref 1003)] [] σ
  refine r_aload_n C 2149 (j := 4) dL_law_2148 rfl rfl ?_
  refine r_lVF (as := []) (S := []) C 2152 (ct_X4_returnDegrees σ (fun r τ => vf_n32 r ∧ AnF sp_X5_returnDegrees 0 r τ) (fun _ _ => False) (q_returnDegrees hR (fun r τ hn hA => ⟨hn, hA⟩))) dL_law_2149 rfl cl6 kd_0 wq_580 wq_579 rfl wq_578 wq_581 wd_90 yd_X4_returnDegrees ⟨Nat.le_trans (Nat.le_of_ble_eq_true rfl) hL.1, Nat.le_trans (Nat.le_of_ble_eq_true rfl) hL.2.1⟩ (Nat.le_of_ble_eq_true rfl) ⟨by have := hL.2.2.1; omega, by have := hL.2.2.2; omega⟩ (fun r τ h => ?_)
  obtain ⟨hn32, hA⟩ := h
  refine r_f2d C 2153 dL_law_2152 rfl (f2d_n hn32) ?_
  refine r_dstore C 2155 [(6, .double (FP.f2d r)), (5, .int i), (4, .ref 234), (3, .ref 233), (2, .ref 209), (1, .ref 0), (0, .ref 1003)] dL_law_2153 rfl (by decide) rfl ?_
  refine r_aload_n C 2156 (j := 4) dL_law_2155 rfl rfl ?_
  refine r_lVF (as := []) (S := []) C 2159 (ct_X5_returnDegrees τ (fun b υ => b = r ∧ Rel υ) (fun _ _ => False) (hA τ (FO.rfl' _) _ _ (fun b υ e1 e2 e3 => ⟨e2 rfl, e3.1⟩))) dL_law_2156 rfl cl7 kd_209 wq_1674 wq_1673 rfl wq_1672 wq_1675 wd_95 yd_X5_returnDegrees ⟨Nat.le_trans (Nat.le_of_ble_eq_true rfl) hL.1, Nat.le_trans (Nat.le_of_ble_eq_true rfl) hL.2.1⟩ (Nat.le_of_ble_eq_true rfl) ⟨by have := hL.2.2.1; omega, by have := hL.2.2.2; omega⟩ (fun b υ h => ?_)
  obtain ⟨rfl, hRe⟩ := h
  refine r_f2d C 2160 dL_law_2159 rfl (f2d_n hn32) ?_
  generalize FP.f2d b = dd
  refine r_dstore C 2162 [(8, .double dd), (6, .double dd), (5, .int i), (4, .ref 234), (3, .ref 233), (2, .ref 209), (1, .ref 0), (0, .ref 1003)] dL_law_2160 rfl (by decide) rfl ?_
  refine r_dload C 2164 (j := 1) dL_law_2162 rfl rfl ?_
  refine r_dload C 2166 (j := 0) dL_law_2164 rfl rfl ?_
  refine r_dcmp C 2167 dL_law_2166 rfl ?_
  refine r_if_eq C 2188 2170 dL_law_2167 (by decide) rfl (fun _ => r_goto C 2348 dL_law_2188 (by decide) (Ws_sub (L' := LL i) (fun q hq => List.mem_cons_of_mem _ (List.mem_cons_of_mem _ hq)) (hc _ _ (by omega) hRe))) (fun z => ?_)
  refine r_dload C 2172 (j := 1) dL_law_2170 rfl rfl ?_
  refine r_dload C 2174 (j := 1) dL_law_2172 rfl rfl ?_
  refine r_dcmp C 2175 dL_law_2174 rfl ?_
  refine r_if_eq C 2186 2178 dL_law_2175 (by decide) rfl (fun w => absurd w z) (fun _ => ?_)
  refine r_dload C 2180 (j := 0) dL_law_2178 rfl rfl ?_
  refine r_dload C 2182 (j := 0) dL_law_2180 rfl rfl ?_
  refine r_dcmp C 2183 dL_law_2182 rfl ?_
  exact r_if_ne C 2188 2186 dL_law_2183 (by decide) rfl (fun _ => r_goto C 2348 dL_law_2188 (by decide) (Ws_sub (L' := LL i) (fun q hq => List.mem_cons_of_mem _ (List.mem_cons_of_mem _ hq)) (hc _ _ (by omega) hRe))) (fun w => absurd w z)
theorem st_33 {x : Ctx} {n : Nat} {i : Int32} {σ : Mem} {Len : Nat} {xs : Nat → Int32} (C : Cx x RL cL_law 10) (Sc : Scr x Len xs) (hL : Lw x n) (hin : ∀ c : Nat, c ≤ 4 → vp_in (i + Int32.ofNat c) Len) (hR : Rel σ) (hc : ∀ υ n', n' ≤ n + 4 → Rel υ → Ws x n' 2348 (LL i) [] υ) : Ws x n 2083 (LL i) [] σ := by
  show Ws x n 2083 [(5, .int i), (4, .ref 234), (3, .ref 233), (2, .ref 209), (1, .ref 0), (0, .ref 1003)] [] σ
  refine r_aload_n C 2084 (j := 4) dL_law_2083 rfl rfl ?_
  refine r_aload C 2086 (j := 1) dL_law_2084 rfl rfl ?_
  refine r_lW (b := 0) (as := [.ref 0, .ref 234]) (S := []) C 2089 (cw_efficiency σ KwD (q_efficiency hR (fun r τ _ hA => KwD.a hA) (fun τ hA => ⟨rfl, KwD.b (by decide) hA⟩))) dL_law_2086 rfl wq_1159 wq_1158 wq_1160 wd_89 yd_L_efficiency ⟨Nat.le_trans (Nat.le_of_ble_eq_true rfl) hL.1, Nat.le_trans (Nat.le_of_ble_eq_true rfl) hL.2.1⟩ (Nat.le_of_ble_eq_true rfl) ⟨by have := hL.2.2.1; omega, by have := hL.2.2.2; omega⟩ (fun k τ2 h => ?_)
  obtain ⟨r, τ, hF, hA, hO⟩ := h
  refine r_istore C 2091 [(6, .int k), (5, .int i), (4, .ref 234), (3, .ref 233), (2, .ref 209), (1, .ref 0), (0, .ref 1003)] dL_law_2089 rfl (by decide) rfl ?_
  refine r_aload_n C 2092 (j := 4) dL_law_2091 rfl rfl ?_
  refine r_lVD (as := []) (S := []) C 2095 (ct_X5_efficiency τ2 (fun b υ => υ.1 209 0 = k ∧ (k = 0 → b = r) ∧ RV τ2 υ) (fun _ _ => False) (hA τ2 hF _ _ (fun b υ e1 e2 e3 => ⟨e1, e2, e3⟩))) dL_law_2092 rfl cl7 kd_209 wq_1670 wq_1669 rfl wq_1668 wq_1671 wd_95 yd_X5_efficiency ⟨Nat.le_trans (Nat.le_of_ble_eq_true rfl) hL.1, Nat.le_trans (Nat.le_of_ble_eq_true rfl) hL.2.1⟩ (Nat.le_of_ble_eq_true rfl) ⟨by have := hL.2.2.1; omega, by have := hL.2.2.2; omega⟩ (fun b υ h => ?_)
  obtain ⟨hk, hb, hU⟩ := h
  refine r_dstore C 2097 [(7, .double b), (6, .int k), (5, .int i), (4, .ref 234), (3, .ref 233), (2, .ref 209), (1, .ref 0), (0, .ref 1003)] dL_law_2095 rfl (by decide) rfl ?_
  refine r_aload_n C 2098 (j := 5) dL_law_2097 rfl rfl ?_
  refine r_lVI (as := []) (S := []) C 2101 (ct_X5_thrown υ (fun t ω => t = υ.1 209 0 ∧ ω = υ) (fun _ _ => False) ⟨rfl, rfl⟩) dL_law_2098 rfl cl7 kd_209 wq_1314 wq_1313 rfl wq_1312 wq_1315 wd_95 yd_X5_thrown ⟨Nat.le_trans (Nat.le_of_ble_eq_true rfl) hL.1, Nat.le_trans (Nat.le_of_ble_eq_true rfl) hL.2.1⟩ (Nat.le_of_ble_eq_true rfl) ⟨by have := hL.2.2.1; omega, by have := hL.2.2.2; omega⟩ (fun t ω h => ?_)
  obtain ⟨rfl, rfl⟩ := h
  refine r_iload C 2103 (j := 1) dL_law_2101 rfl rfl ?_
  refine r_icmp_eq C 2108 2106 dL_law_2103 (by decide) rfl (fun _ => ?_) (fun z => absurd hk z)
  refine r_iload C 2110 (j := 1) dL_law_2108 rfl rfl ?_
  refine r_if_ne C 2145 2113 dL_law_2110 (by decide) rfl (fun _ => r_goto C 2348 dL_law_2145 (by decide) (Ws_sub (L' := LL i) (fun q hq => List.mem_cons_of_mem _ (List.mem_cons_of_mem _ hq)) (hc _ _ (by omega) hU.1))) (fun hk0 => ?_)
  have hbr : b = r := hb hk0
  subst hbr
  have hv : ∀ z, ω.2.2 234 ((0 : Int32).toNatClampNeg) = z → z = b := fun z e => by rw [← e, show (0 : Int32).toNatClampNeg = 0 from rfl, hU.2, hO hk0]
  refine r_aload C 2115 (j := 3) dL_law_2113 rfl rfl ?_
  refine r_iconst C 2116 (v := 0) dL_law_2115 rfl (by decide) ?_
  refine r_dald C 2117 dL_law_2116 rfl kd_234 (by unfold vp_in; decide) ?_
  generalize hz1 : ω.2.2 234 ((0 : Int32).toNatClampNeg) = z1
  obtain rfl := hv _ hz1
  refine r_dload C 2119 (j := 0) dL_law_2117 rfl rfl ?_
  refine r_dcmp C 2120 dL_law_2119 rfl ?_
  refine r_if_eq C 2145 2123 dL_law_2120 (by decide) rfl (fun _ => r_goto C 2348 dL_law_2145 (by decide) (Ws_sub (L' := LL i) (fun q hq => List.mem_cons_of_mem _ (List.mem_cons_of_mem _ hq)) (hc _ _ (by omega) hU.1))) (fun z => ?_)
  refine r_aload C 2125 (j := 3) dL_law_2123 rfl rfl ?_
  refine r_iconst C 2126 (v := 0) dL_law_2125 rfl (by decide) ?_
  refine r_dald C 2127 dL_law_2126 rfl kd_234 (by unfold vp_in; decide) ?_
  refine r_aload C 2129 (j := 3) dL_law_2127 rfl rfl ?_
  refine r_iconst C 2130 (v := 0) dL_law_2129 rfl (by decide) ?_
  refine r_dald C 2131 dL_law_2130 rfl kd_234 (by unfold vp_in; decide) ?_
  rw [hz1]
  refine r_dcmp C 2132 dL_law_2131 rfl ?_
  refine r_if_eq C 2143 2135 dL_law_2132 (by decide) rfl (fun w => absurd w z) (fun _ => ?_)
  refine r_dload C 2137 (j := 0) dL_law_2135 rfl rfl ?_
  refine r_dload C 2139 (j := 0) dL_law_2137 rfl rfl ?_
  refine r_dcmp C 2140 dL_law_2139 rfl ?_
  exact r_if_ne C 2145 2143 dL_law_2140 (by decide) rfl (fun _ => r_goto C 2348 dL_law_2145 (by decide) (Ws_sub (L' := LL i) (fun q hq => List.mem_cons_of_mem _ (List.mem_cons_of_mem _ hq)) (hc _ _ (by omega) hU.1))) (fun w => absurd w z)
