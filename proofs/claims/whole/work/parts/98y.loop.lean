/-! ===== the loop of the law ===== -/
theorem nI5 {j c : Nat} (h : 5 * j + c < 2 ^ 31) : nI (5 * j) + Int32.ofNat c = nI (5 * j + c) := by
  show nI (5 * j) + nI c = _
  rw [← nI_add]
theorem len5 {Len : Nat} (h : Len ≤ 2560) : (Int32.ofNat Len - 5).toInt = (Len : Int) - 5 := by
  show (nI Len - 5).toInt = _
  rw [Int32.toInt_sub, nI_toInt (by omega), show (5 : Int32).toInt = 5 from rfl]
  exact Int.bmod_eq_of_le (by omega) (by omega)
theorem law_sw {x : Ctx} {n : Nat} {i : Int32} {σ : Mem} {Len : Nat} {xs : Nat → Int32} (C : Cx x RL cL_law 10) (Sc : Scr x Len xs) (hL : Lw x n) (hin : ∀ c : Nat, c ≤ 4 → vp_in (i + Int32.ofNat c) Len) (hin0 : vp_in i Len) (hR : Rel σ) (hc : ∀ υ n', n' ≤ n + 4 → Rel υ → Ws x n' 2348 (LL i) [] υ) : Ws x n 37 (LL i) [] σ := by
  show Ws x n 37 [(5, .int i), (4, .ref 234), (3, .ref 233), (2, .ref 209), (1, .ref 0), (0, .ref 1003)] [] σ
  refine r_aload_n C 38 (j := 5) dL_law_37 rfl rfl ?_
  refine r_iload C 40 (j := 0) dL_law_38 rfl rfl ?_
  refine r_sld C Sc 41 dL_law_40 rfl hin0 ?_
  refine r_bipush C 43 (v := 63) dL_law_41 rfl (by decide) ?_
  refine r_iand C 44 dL_law_43 rfl ?_
  generalize (xs i.toNatClampNeg) &&& 63 = a
  by_cases h : a.toInt < 0 ∨ 38 < a.toInt
  · exact r_tblOut C 2348 dL_law_44 h (by decide) (hc σ n (by omega) hR)
  · have h1 : ¬ a.toInt < 0 := fun z => h (.inl z)
    have h2 : ¬ 38 < a.toInt := fun z => h (.inr z)
    obtain ⟨k, hk, ek⟩ : ∃ k : Nat, k < 39 ∧ a.toInt = (k : Int) := ⟨a.toInt.toNat, by omega, by omega⟩
    have go : ∀ (off : Int) (tgt : Nat), (#[172, 240, 296, 388, 444, 536, 592, 660, 740, 795, 851, 895, 908, 952, 1020, 1088, 1155, 1211, 1267, 1351, 1406, 1461, 1516, 1530, 1573, 1586, 1642, 1698, 1754, 1817, 1861, 1928, 1984, 2039, 2104, 2147, 2203, 2247, 2260] : Array Int)[k]? = some off → (44 : Int) + off = (tgt : Int) → Ws x n tgt (LL i) [] σ → Ws x n 44 (LL i) [.int a] σ := fun off tgt e1 e2 e3 => r_tblIn C tgt dL_law_44 h1 h2 (by rw [ek, show (((k : Int) - 0).toNat) = k by omega]; exact e1) e2 e3
    match k, hk with
    | 0, hk => exact go 172 216 rfl (by decide) (st_0 C Sc hL hin hR hc)
    | 1, hk => exact go 240 284 rfl (by decide) (st_1 C Sc hL hin hR hc)
    | 2, hk => exact go 296 340 rfl (by decide) (st_2 C Sc hL hin hR hc)
    | 3, hk => exact go 388 432 rfl (by decide) (st_3 C Sc hL hin hR hc)
    | 4, hk => exact go 444 488 rfl (by decide) (st_4 C Sc hL hin hR hc)
    | 5, hk => exact go 536 580 rfl (by decide) (st_5 C Sc hL hin hR hc)
    | 6, hk => exact go 592 636 rfl (by decide) (st_6 C Sc hL hin hR hc)
    | 7, hk => exact go 660 704 rfl (by decide) (st_7 C Sc hL hin hR hc)
    | 8, hk => exact go 740 784 rfl (by decide) (st_8 C Sc hL hin hR hc)
    | 9, hk => exact go 795 839 rfl (by decide) (st_9 C Sc hL hin hR hc)
    | 10, hk => exact go 851 895 rfl (by decide) (st_10 C Sc hL hin hR hc)
    | 11, hk => exact go 895 939 rfl (by decide) (st_11 C Sc hL hin hR hc)
    | 12, hk => exact go 908 952 rfl (by decide) (st_12 C Sc hL hin hR hc)
    | 13, hk => exact go 952 996 rfl (by decide) (st_13 C Sc hL hin hR hc)
    | 14, hk => exact go 1020 1064 rfl (by decide) (st_14 C Sc hL hin hR hc)
    | 15, hk => exact go 1088 1132 rfl (by decide) (st_15 C Sc hL hin hR hc)
    | 16, hk => exact go 1155 1199 rfl (by decide) (st_16 C Sc hL hin hR hc)
    | 17, hk => exact go 1211 1255 rfl (by decide) (st_17 C Sc hL hin hR hc)
    | 18, hk => exact go 1267 1311 rfl (by decide) (st_18 C Sc hL hin hR hc)
    | 19, hk => exact go 1351 1395 rfl (by decide) (st_19 C Sc hL hin hR hc)
    | 20, hk => exact go 1406 1450 rfl (by decide) (st_20 C Sc hL hin hR hc)
    | 21, hk => exact go 1461 1505 rfl (by decide) (st_21 C Sc hL hin hR hc)
    | 22, hk => exact go 1516 1560 rfl (by decide) (st_22 C Sc hL hin hR hc)
    | 23, hk => exact go 1530 1574 rfl (by decide) (st_23 C Sc hL hin hR hc)
    | 24, hk => exact go 1573 1617 rfl (by decide) (st_24 C Sc hL hin hR hc)
    | 25, hk => exact go 1586 1630 rfl (by decide) (st_25 C Sc hL hin hR hc)
    | 26, hk => exact go 1642 1686 rfl (by decide) (st_26 C Sc hL hin hR hc)
    | 27, hk => exact go 1698 1742 rfl (by decide) (st_27 C Sc hL hin hR hc)
    | 28, hk => exact go 1754 1798 rfl (by decide) (st_28 C Sc hL hin hR hc)
    | 29, hk => exact go 1817 1861 rfl (by decide) (st_29 C Sc hL hin hR hc)
    | 30, hk => exact go 1861 1905 rfl (by decide) (st_30 C Sc hL hin hR hc)
    | 31, hk => exact go 1928 1972 rfl (by decide) (st_31 C Sc hL hin hR hc)
    | 32, hk => exact go 1984 2028 rfl (by decide) (st_32 C Sc hL hin hR hc)
    | 33, hk => exact go 2039 2083 rfl (by decide) (st_33 C Sc hL hin hR hc)
    | 34, hk => exact go 2104 2148 rfl (by decide) (st_34 C Sc hL hin hR hc)
    | 35, hk => exact go 2147 2191 rfl (by decide) (st_35 C Sc hL hin hR hc)
    | 36, hk => exact go 2203 2247 rfl (by decide) (st_36 C Sc hL hin hR hc)
    | 37, hk => exact go 2247 2291 rfl (by decide) (st_37 C Sc hL hin hR hc)
    | 38, hk => exact go 2260 2304 rfl (by decide) (st_38 C Sc hL hin hR hc)
    | k + 39, hk => exact absurd hk (by omega)
theorem law_loop {x : Ctx} {Len : Nat} {xs : Nat → Int32} (C : Cx x RL cL_law 10) (Sc : Scr x Len xs) (hLen : Len ≤ 2560) (hL : Lw x (4 * (Len / 5))) (he : ∀ υ n', n' ≤ 4 * (Len / 5) → Ws x n' 2354 [] [] υ) : ∀ (m j n : Nat) (σ : Mem), j + m = Len / 5 → n ≤ 4 * j → Rel σ → Ws x n 28 (LL (nI (5 * j))) [] σ := by
  intro m
  have hlen : ∀ j : Nat, j ≤ Len / 5 → 5 * j ≤ Len := fun j hj => by omega
  induction m with
  | zero =>
    intro j n σ hj hn hR
    show Ws x n 28 [(5, .int (nI (5 * j))), (4, .ref 234), (3, .ref 233), (2, .ref 209), (1, .ref 0), (0, .ref 1003)] [] σ
    refine r_iload C 30 (j := 0) dL_law_28 rfl rfl ?_
    refine r_aload_n C 31 (j := 5) dL_law_30 rfl rfl ?_
    refine r_slen C Sc 32 dL_law_31 rfl ?_
    refine r_iconst C 33 (v := 5) dL_law_32 rfl (by decide) ?_
    refine r_isub C 34 dL_law_33 rfl ?_
    refine r_icmp_gt C 2354 37 dL_law_34 (by decide) rfl (fun _ => Ws_sub (L' := []) (fun q hq => absurd hq List.not_mem_nil) (he σ n (by omega))) (fun z => absurd ?_ z)
    rw [Int32.lt_iff_toInt_lt, nI_toInt (by omega), len5 hLen]
    omega
  | succ m ih =>
    intro j n σ hj hn hR
    have h5 : 5 * j + 5 ≤ Len := by omega
    show Ws x n 28 [(5, .int (nI (5 * j))), (4, .ref 234), (3, .ref 233), (2, .ref 209), (1, .ref 0), (0, .ref 1003)] [] σ
    refine r_iload C 30 (j := 0) dL_law_28 rfl rfl ?_
    refine r_aload_n C 31 (j := 5) dL_law_30 rfl rfl ?_
    refine r_slen C Sc 32 dL_law_31 rfl ?_
    refine r_iconst C 33 (v := 5) dL_law_32 rfl (by decide) ?_
    refine r_isub C 34 dL_law_33 rfl ?_
    refine r_icmp_gt C 2354 37 dL_law_34 (by decide) rfl (fun z => absurd z ?_) (fun _ => ?_)
    · rw [Int32.lt_iff_toInt_lt, nI_toInt (by omega), len5 hLen]
      omega
    · refine law_sw C Sc ⟨hL.1, hL.2.1, by have := hL.2.2.1; omega, by have := hL.2.2.2; omega⟩ (fun c hc => by rw [nI5 (by omega)]; exact n_inR (by omega) (by omega)) (n_inR (by omega) (by omega)) hR (fun υ n' hn' hRυ => ?_)
      show Ws x n' 2348 [(5, .int (nI (5 * j))), (4, .ref 234), (3, .ref 233), (2, .ref 209), (1, .ref 0), (0, .ref 1003)] [] υ
      refine r_iinc C 2351 [(5, .int (nI (5 * (j + 1)))), (4, .ref 234), (3, .ref 233), (2, .ref 209), (1, .ref 0), (0, .ref 1003)] (j := 0) (w := nI (5 * (j + 1))) dL_law_2348 rfl rfl ?_ (by decide) rfl ?_
      · rw [show (Int32.ofInt 5) = nI 5 from rfl, nI_add, show 5 * j + 5 = 5 * (j + 1) by omega]
      · exact r_goto C 28 dL_law_2351 (by decide) (ih (j + 1) n' υ (by omega) (by omega) hRυ)
