/-! ===== quotients that are numbers ===== -/
theorem fp_b64 : FP.Core.b64.p = 53 ∧ FP.Core.b64.tails = 4503599627370496 ∧ FP.Core.b64.exps = 2048 ∧ FP.Core.b64.qmin = -1074 ∧ FP.Core.b64.qmax = 971 := by decide +kernel
theorem fp_small {n : Nat} (s : Bool) (h0 : 0 < n) (h : n < 9007199254740992) : ∃ (c : Nat) (q : Int), FP.Core.roundRatio FP.Core.b64 s n 1 0 = .fin s c q ∧ 4503599627370496 ≤ c ∧ c < 9007199254740992 ∧ -52 ≤ q ∧ q ≤ 0 := by
  obtain ⟨f1, f2, f3, f4, f5⟩ := fp_b64
  have l1 : 2 ^ n.log2 ≤ n := Nat.log2_self_le (by omega)
  have l2 : n < 2 ^ (n.log2 + 1) := Nat.lt_log2_self
  have l3 : n.log2 < 53 := (Nat.pow_lt_pow_iff_right (by decide : 1 < 2)).mp (Nat.lt_of_le_of_lt l1 (by simpa using h))
  have e1 : Nat.log2 1 = 0 := by decide +kernel
  have hlead : FP.Core.leading n 1 = (n.log2 : Int) := by
    show (if 1 * 2 ^ ((n.log2 : Int) - (Nat.log2 1 : Int)).toNat ≤ n * 2 ^ (-((n.log2 : Int) - (Nat.log2 1 : Int))).toNat then ((n.log2 : Int) - (Nat.log2 1 : Int)) else (n.log2 : Int) - (Nat.log2 1 : Int) - 1) = _
    rw [e1, show ((n.log2 : Int) - ((0 : Nat) : Int)) = (n.log2 : Int) by omega, if_pos (by
      rw [show ((n.log2 : Int)).toNat = n.log2 by omega, show (-(n.log2 : Int)).toNat = 0 by omega, Nat.pow_zero]
      omega)]
  have hq : FP.Core.quantum FP.Core.b64 n 1 0 = (n.log2 : Int) - 52 := by
    unfold FP.Core.quantum
    rw [hlead, f4, f1]
    omega
  have hu : FP.Core.unitsNum n 0 ((n.log2 : Int) - 52) = n * 2 ^ (52 - n.log2) := by
    unfold FP.Core.unitsNum
    rw [show (0 - ((n.log2 : Int) - 52)).toNat = 52 - n.log2 by omega]
  have hd : FP.Core.unitsDen 1 0 ((n.log2 : Int) - 52) = 1 := by
    unfold FP.Core.unitsDen
    rw [show ((n.log2 : Int) - 52 - 0).toNat = 0 by omega]
  have b1 : 4503599627370496 ≤ n * 2 ^ (52 - n.log2) := by
    have : 2 ^ n.log2 * 2 ^ (52 - n.log2) ≤ n * 2 ^ (52 - n.log2) := Nat.mul_le_mul_right _ l1
    rw [← Nat.pow_add, show n.log2 + (52 - n.log2) = 52 by omega] at this
    exact this
  have b2 : n * 2 ^ (52 - n.log2) < 9007199254740992 := by
    have : n * 2 ^ (52 - n.log2) < 2 ^ (n.log2 + 1) * 2 ^ (52 - n.log2) := Nat.mul_lt_mul_of_pos_right l2 (Nat.two_pow_pos _)
    rw [← Nat.pow_add, show n.log2 + 1 + (52 - n.log2) = 53 by omega] at this
    exact this
  refine ⟨n * 2 ^ (52 - n.log2), (n.log2 : Int) - 52, ?_, b1, b2, by omega, by omega⟩
  unfold FP.Core.roundRatio
  rw [if_neg (by omega), hq]
  unfold FP.Core.roundAt
  rw [hu, hd]
  have hn : FP.Core.nearest (n * 2 ^ (52 - n.log2)) 1 = n * 2 ^ (52 - n.log2) := by
    unfold FP.Core.nearest
    rw [Nat.mod_one, Nat.div_one, if_pos (by decide)]
  rw [hn]
  unfold FP.Core.settle
  rw [f1, if_pos b2]
  unfold FP.Core.bound
  rw [f5, if_pos (by omega)]
theorem fp_asm (s : Bool) (e t : Nat) : FP.Core.assemble FP.Core.b64 s e t = (s.toNat * 2048 + e) * 4503599627370496 + t := by
  obtain ⟨f1, f2, f3, f4, f5⟩ := fp_b64
  unfold FP.Core.assemble
  rw [f2, f3]
theorem fp_dec {n : Nat} (h1 : n / 4503599627370496 % 2048 ≠ 2047) : ∃ (s : Bool) (c : Nat) (q : Int), FP.Core.decode FP.Core.b64 n = .fin s c q ∧ (n / 4503599627370496 % 2048 ≠ 0 → c ≠ 0) := by
  obtain ⟨f1, f2, f3, f4, f5⟩ := fp_b64
  unfold FP.Core.decode FP.Core.fieldE
  rw [f2, f3, if_neg h1]
  by_cases c : n / 4503599627370496 % 2048 = 0
  · rw [if_pos c]; exact ⟨_, _, _, rfl, fun q => absurd c q⟩
  · rw [if_neg c]; exact ⟨_, _, _, rfl, fun _ q => by omega⟩
theorem l2d_dec {a : Int64} (h : a.toInt.natAbs < 9007199254740992) : ∃ (s : Bool) (c : Nat) (q : Int), FP.Core.decode FP.Core.b64 (FP.l2d a).toNat = .fin s c q ∧ (a ≠ 0 → c ≠ 0) := by
  obtain ⟨f1, f2, f3, f4, f5⟩ := fp_b64
  have e : (FP.l2d a).toNat = FP.Core.encode FP.Core.b64 (FP.Core.roundRatio FP.Core.b64 (decide (a.toInt < 0)) a.toInt.natAbs 1 0) % 2 ^ 64 := by
    show (UInt64.ofNat _).toNat = _
    rw [UInt64.toNat_ofNat']
    rfl
  by_cases c : a.toInt.natAbs = 0
  · have e0 : FP.Core.roundRatio FP.Core.b64 (decide (a.toInt < 0)) a.toInt.natAbs 1 0 = .fin (decide (a.toInt < 0)) 0 (-1074) := by
      unfold FP.Core.roundRatio
      rw [if_pos c, f4]
    have e1 : FP.Core.encode FP.Core.b64 (.fin (decide (a.toInt < 0)) 0 (-1074)) = ((decide (a.toInt < 0)).toNat * 2048 + 0) * 4503599627370496 + 0 := by
      rw [← fp_asm, FP.Core.encode, f2, if_pos (by decide)]
    rw [e0, e1] at e
    have hs : (decide (a.toInt < 0)).toNat ≤ 1 := Bool.toNat_le _
    obtain ⟨s, c', q, h1, -⟩ := fp_dec (n := (FP.l2d a).toNat) (by rw [e]; omega)
    refine ⟨s, c', q, h1, fun z => absurd ?_ z⟩
    apply Int64.toInt_inj.mp
    show a.toInt = 0
    omega
  · obtain ⟨m, q, h1, h2, h3, h4, h5⟩ := fp_small (decide (a.toInt < 0)) (by omega) h
    have e1 : FP.Core.encode FP.Core.b64 (.fin (decide (a.toInt < 0)) m q) = ((decide (a.toInt < 0)).toNat * 2048 + ((q + 1074).toNat + 1)) * 4503599627370496 + (m - 4503599627370496) := by
      rw [← fp_asm]
      show (if m < FP.Core.b64.tails then _ else FP.Core.assemble _ _ ((q - FP.Core.b64.qmin).toNat + 1) (m - FP.Core.b64.tails)) = _
      rw [f2, if_neg (by omega), f4]
      rfl
    rw [h1, e1] at e
    have hs : (decide (a.toInt < 0)).toNat ≤ 1 := Bool.toNat_le _
    obtain ⟨s, c', q', k1, k2⟩ := fp_dec (n := (FP.l2d a).toNat) (by rw [e]; omega)
    exact ⟨s, c', q', k1, fun _ => k2 (by rw [e]; omega)⟩
theorem fp_rr (s : Bool) (num den : Nat) (e : Int) : FP.Core.roundRatio FP.Core.b64 s num den e = .inf s ∨ ∃ (c : Nat) (q : Int), FP.Core.roundRatio FP.Core.b64 s num den e = .fin s c q ∧ c < 9007199254740992 ∧ q ≤ 971 := by
  obtain ⟨f1, f2, f3, f4, f5⟩ := fp_b64
  unfold FP.Core.roundRatio
  by_cases c : num = 0
  · rw [if_pos c]; exact .inr ⟨0, _, rfl, by decide, by rw [f4]; decide⟩
  · rw [if_neg c]
    unfold FP.Core.roundAt FP.Core.settle
    by_cases d : FP.Core.nearest (FP.Core.unitsNum num e (FP.Core.quantum FP.Core.b64 num den e)) (FP.Core.unitsDen den e (FP.Core.quantum FP.Core.b64 num den e)) < 2 ^ FP.Core.b64.p
    · rw [if_pos d]
      rw [f1] at d
      unfold FP.Core.bound
      by_cases t : FP.Core.quantum FP.Core.b64 num den e ≤ FP.Core.b64.qmax
      · rw [if_pos t]; exact .inr ⟨_, _, rfl, d, by rw [← f5]; exact t⟩
      · rw [if_neg t]; exact .inl rfl
    · rw [if_neg d]
      unfold FP.Core.bound
      by_cases t : FP.Core.quantum FP.Core.b64 num den e + 1 ≤ FP.Core.b64.qmax
      · rw [if_pos t]; exact .inr ⟨_, _, rfl, by rw [f2]; decide, by rw [← f5]; exact t⟩
      · rw [if_neg t]; exact .inl rfl
theorem fp_end {s : Bool} {num den : Nat} {e : Int} : FP.Core.encode FP.Core.b64 (FP.Core.roundRatio FP.Core.b64 s num den e) % 2 ^ 64 % 2 ^ 63 ≤ 9218868437227405312 := by
  obtain ⟨f1, f2, f3, f4, f5⟩ := fp_b64
  have hs : s.toNat ≤ 1 := Bool.toNat_le _
  rcases fp_rr s num den e with h | ⟨c, q, h, h1, h2⟩
  · rw [h]
    have e1 : FP.Core.encode FP.Core.b64 (.inf s) = (s.toNat * 2048 + 2047) * 4503599627370496 + 0 := by
      rw [← fp_asm]
      show FP.Core.assemble _ _ (FP.Core.b64.exps - 1) 0 = _
      rw [f3]
    rw [e1]
    omega
  · rw [h]
    by_cases d : c < 4503599627370496
    · have e1 : FP.Core.encode FP.Core.b64 (.fin s c q) = (s.toNat * 2048 + 0) * 4503599627370496 + c := by
        rw [← fp_asm]
        show (if c < FP.Core.b64.tails then _ else _) = _
        rw [f2, if_pos d]
      rw [e1]
      omega
    · have e1 : FP.Core.encode FP.Core.b64 (.fin s c q) = (s.toNat * 2048 + ((q + 1074).toNat + 1)) * 4503599627370496 + (c - 4503599627370496) := by
        rw [← fp_asm]
        show (if c < FP.Core.b64.tails then _ else FP.Core.assemble _ _ ((q - FP.Core.b64.qmin).toNat + 1) (c - FP.Core.b64.tails)) = _
        rw [f2, if_neg d, f4]
        rfl
      rw [e1]
      omega
theorem nn64 {a b : Int64} (ha : a.toInt.natAbs < 9007199254740992) (hb : b.toInt.natAbs < 9007199254740992) (h : b ≠ 0) : vf_n64 (FP.ddiv (FP.l2d a) (FP.l2d b)) := by
  obtain ⟨s, c, q, h1, -⟩ := l2d_dec ha
  obtain ⟨t, d, r, h2, h3⟩ := l2d_dec hb
  have e : (FP.ddiv (FP.l2d a) (FP.l2d b)).toNat = FP.Core.encode FP.Core.b64 (FP.Core.roundRatio FP.Core.b64 (s != t) c d (q - r)) % 2 ^ 64 := by
    show (UInt64.ofNat (FP.Core.encode FP.Core.b64 (FP.Core.quotient FP.Core.b64 (FP.Core.decode FP.Core.b64 (FP.l2d a).toNat) (FP.Core.decode FP.Core.b64 (FP.l2d b).toNat)))).toNat = _
    rw [UInt64.toNat_ofNat', h1, h2]
    show FP.Core.encode FP.Core.b64 (if d = 0 then _ else _) % 2 ^ 64 = _
    rw [if_neg (h3 h)]
  unfold vf_n64
  rw [UInt64.le_iff_toNat_le, UInt64.toNat_and, show (0x7fffffffffffffff : UInt64).toNat = 2 ^ 63 - 1 from rfl, Nat.and_two_pow_sub_one_eq_mod, show (0x7ff0000000000000 : UInt64).toNat = 9218868437227405312 from rfl, e]
  exact fp_end
theorem nn32_all : ∀ n : Nat, n < 1201 → FP.fdiv (FP.i2f (nI n)) 1092616192 &&& 0x7fffffff ≤ 0x7f800000 := by decide +kernel
theorem nn32 {n : Nat} (h : n ≤ 1200) : vf_n32 (FP.fdiv (FP.i2f (nI n)) 1092616192) := nn32_all n (by omega)
