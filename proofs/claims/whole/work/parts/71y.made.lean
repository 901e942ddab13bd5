/-! ===== what flows out of the plant; what pipes lose ===== -/
theorem smN_plus {f f' : Nat → Nat} : ∀ n : Nat, smN (fun k => f k + f' k) n = smN f n + smN f' n
  | 0 => rfl
  | n + 1 => by
    have ih := smN_plus (f := f) (f' := f') n
    show smN (fun k => f k + f' k) n + (f n + f' n) = smN f n + f n + (smN f' n + f' n)
    omega
theorem B0_is {w : Nat → Int32} {g : Gr} {c : Lp} {L : List Rec} {dr B : Nat → Nat} {z : Int} {f : Nat → Int32} (hw : WFw w g) (hT : Tre g 0 L) (hL : LP0 g L c) (h : FlB w g L c dr B z f) : B 0 = flC g (flR f) dr 0 := by
  obtain ⟨hE, hb, hX, hF⟩ := h
  have hg := hw.2.1
  have h0 : 0 ∈ nds L := hT.src.1
  have key : ∀ p, p < g.1 → fC g (flR f) 0 p = tm g L c B 0 p + (if qB c p = true then fC g (flR f) 0 p else 0) := by
    intro p hp
    by_cases hq : inQ c p
    · rw [if_pos (qB_iff.mpr hq)]
      have : tm g L c B 0 p = 0 := by
        unfold tm
        cases ac g p 0 with
        | none => rfl
        | some e => exact if_pos (.inl (qB_iff.mpr hq))
      omega
    · rw [if_neg (fun q => hq (qB_iff.mp q)), Nat.add_zero]
      unfold fC tm
      cases hac : ac g p 0 with
      | none =>
        show _ = 0
        refine if_neg (fun q => ?_)
        obtain ⟨n, hn, -⟩ := fr_to q
        rw [fr_ac hg hp q hn] at hac
        cases hac
      | some e =>
        rcases hL.off hg hT hp hac h0 hq with ⟨e0, e1, e2, e3, e4⟩ | ⟨e0, -⟩
        · have hf := hF.1 e e1 e0 e4
          rw [e3, e2] at hf
          have hbe := hb e e1
          have hs := sgn_bd (g := g) (p := p) (f := 0) (v := (B e : Int)) (A := 9990) (by omega) (by omega)
          have hfl := flR_of hf (by omega) (by omega)
          obtain ⟨s1, s2, s3⟩ := sgn_fr hg hp hac hfl
          have hup := (hT.up e1 e0).2.1
          rw [e2] at hup
          show _ = if qB c p = true ∨ di L e ≤ di L 0 then 0 else B e
          have e5 : (if qB c p = true ∨ di L e ≤ di L 0 then 0 else B e) = B e := if_neg (fun q => by
            rcases q with q | q
            · exact hq (qB_iff.mp q)
            · omega)
          rw [e5]
          by_cases hz : B e = 0
          · rw [(s3 (by omega)).1, if_neg (fun q => by cases q), hz]
          · rw [(s1 (by omega)).1, if_pos rfl]
            unfold flN
            rw [hfl]
            unfold sgn
            split <;> omega
        · exact absurd rfl e0
  have atQ : ∀ p, p < g.1 → inQ c p → frO g (flR f) p = some 0 → 0 < c.1 ∧ c.2.1 0 = 0 ∧ (p = c.2.2 0 ∨ p = c.2.2 (c.1 - 1)) := by
    intro p hp hq hfr
    obtain ⟨n, hn, -⟩ := fr_to hfr
    have hac := fr_ac hg hp hfr hn
    obtain ⟨i, hi, hip⟩ := hq
    have hci := (hL.2.1 i hi).2
    rw [hip] at hci
    have hN : inN c 0 := by
      rcases ac_two hci hac with ⟨q, -⟩ | ⟨-, q⟩
      · exact ⟨i, hi, q.symm⟩
      · rcases ac_two hac hci with ⟨u, -⟩ | ⟨u, -⟩
        · exact ⟨i, hi, u⟩
        · rcases ac_two hci hac with ⟨v, -⟩ | ⟨v, w'⟩
          · exact ⟨i, hi, v.symm⟩
          · have hh := (ac_lt hg hp hac)
            have := ac_sym hci
            rcases ac_two this hac with ⟨v1, v2⟩ | ⟨v1, v2⟩
            · exact ⟨nxt c i, nxt_lt hi, v1.symm⟩
            · exact ⟨i, hi, v2.symm⟩
    by_cases ht : inT c 0
    · exact absurd rfl (chain_ix hT hL hg ht).2.1
    · obtain ⟨c0, c1⟩ := inT_N hN ht
      refine ⟨c0, c1.symm, ?_⟩
      rw [c1] at hac
      rcases hL.at c0 hac ⟨i, hi, hip⟩ with ⟨q, -⟩ | ⟨q, -⟩
      · exact .inl q
      · exact .inr q
  have hsum : smN (fun p => if qB c p = true then fC g (flR f) 0 p else 0) g.1 = if 0 < c.1 ∧ c.2.1 0 = 0 then smN (fun k => if k = 0 then 0 else outF g L c dr B (c.2.1 k)) c.1 else 0 := by
    by_cases hc : 0 < c.1 ∧ c.2.1 0 = 0
    · rw [if_pos hc]
      have c3 : 3 ≤ c.1 := by
        rcases hL.2.2.1 with q | q
        · omega
        · exact q
      obtain ⟨z0, z1, -, -⟩ := hX hc.1
      have hlast := XS.last hw hL (hX hc.1) hc.1
      have hsk := skF_le (g := g) (L := L) (c := c) (dr := dr) hE hb hL (k := c.1 - 1) (by omega)
      have hab : c.2.2 0 ≠ c.2.2 (c.1 - 1) := fun q => by
        have := hL.pinj (i := 0) (j := c.1 - 1) (by omega) (by omega) q
        omega
      have pa := (hL.2.1 0 (by omega)).1
      have pb := (hL.2.1 (c.1 - 1) (by omega)).1
      rw [smN_two pa pb hab (fun p hp n1 n2 => by
        by_cases hq : qB c p = true
        · rw [if_pos hq]
          refine if_neg (fun q => ?_)
          rcases (atQ p hp (qB_iff.mp hq) q).2.2 with e | e
          · exact n1 e
          · exact n2 e
        · exact if_neg hq)]
      rw [if_pos (qB_iff.mpr ⟨0, by omega, rfl⟩), if_pos (qB_iff.mpr ⟨c.1 - 1, by omega, rfl⟩)]
      have ha : fC g (flR f) 0 (c.2.2 0) = z.toNat := by
        have hf := hF.2.1 0 (by omega)
        rw [hc.2, skF_0] at hf
        have hac := (hL.2.1 0 (by omega)).2
        rw [hc.2] at hac
        have hs := sgn_bd (g := g) (p := c.2.2 0) (f := 0) (v := z - ((0 : Nat) : Int)) (A := 20000) (by omega) (by omega)
        have hfl := flR_of hf (by omega) (by omega)
        obtain ⟨s1, s2, s3⟩ := sgn_fr hg pa hac hfl
        unfold fC
        by_cases hz : z = 0
        · rw [(s3 (by omega)).1, if_neg (fun q => by cases q), hz]; rfl
        · rw [(s1 (by omega)).1, if_pos rfl]
          unfold flN
          rw [hfl]
          unfold sgn
          split <;> omega
      have hb' : fC g (flR f) 0 (c.2.2 (c.1 - 1)) = (((skF g L c dr B (c.1 - 1) : Nat) : Int) - z).toNat := by
        have hf := hF.2.1 (c.1 - 1) (by omega)
        have hac := (hL.2.1 (c.1 - 1) (by omega)).2
        rw [show nxt c (c.1 - 1) = 0 by unfold nxt; rw [if_pos (by omega)], hc.2] at hac
        have hs := sgn_bd (g := g) (p := c.2.2 (c.1 - 1)) (f := c.2.1 (c.1 - 1)) (v := z - ((skF g L c dr B (c.1 - 1) : Nat) : Int)) (A := 20000) (by omega) (by omega)
        have hfl := flR_of hf (by omega) (by omega)
        obtain ⟨s1, s2, s3⟩ := sgn_fr hg pb hac hfl
        unfold fC
        by_cases hz : z - ((skF g L c dr B (c.1 - 1) : Nat) : Int) = 0
        · rw [(s3 hz).1, if_neg (fun q => by cases q)]; omega
        · rw [(s2 (by omega)).1, if_pos rfl]
          unfold flN
          rw [hfl]
          unfold sgn
          split <;> omega
      rw [ha, hb']
      have : skF g L c dr B (c.1 - 1) = smN (fun k => if k = 0 then 0 else outF g L c dr B (c.2.1 k)) c.1 := by
        unfold skF
        rw [show c.1 - 1 + 1 = c.1 by omega]
      rw [← this]
      omega
    · rw [if_neg hc]
      refine smN_0 (fun p hp => ?_)
      by_cases hq : qB c p = true
      · rw [if_pos hq]
        refine if_neg (fun q => ?_)
        have := atQ p hp (qB_iff.mp hq) q
        exact hc ⟨this.1, this.2.1⟩
      · exact if_neg hq
  have hfin : smN (fC g (flR f) 0) g.1 = smN (tm g L c B 0) g.1 + smN (fun p => if qB c p = true then fC g (flR f) 0 p else 0) g.1 := by
    rw [← smN_plus]
    exact smN_congr key
  rw [hE 0 h0, ← hsum]
  unfold outF flC
  omega
theorem loss_num {F a b c d : Nat} (hF : F ≤ 20000) (h1 : b ≤ a) (h2 : a ≤ 1200) (h3 : d ≤ c) (h4 : c ≤ 1200) : (nI F).toInt64 * (((nI a - nI b) + nI c) - nI d).toInt64 = lN (F * (a - b) + F * (c - d)) := by
  rw [pk_sub h1, nI_add, pk_sub (by omega), nI_l (by omega), nI_l (by omega), lN_mul, ← Nat.mul_add]
  congr 2
  omega
theorem i_X5_loses {w : Nat → Int32} {g : Gr} {c : Lp} {R p : Nat} {dr B T S : Nat → Nat} {z : Int} {f : Nat → Int32} {σ : Mem} {K : Int64 → Mem → Prop} {X : String → Mem → Prop} (hw : WFw w g) (hr : ∀ k, k < 108 → σ.1 210 k = w k) (hL : LPo g (bfs g 0) c) (hK : LkB w g c dr B T S z f) (hR : ReF w g c R dr B T S z f σ) (hp : p < g.1) (h : K (lN (lsH w g (flR f) T p + lsC w g (flR f) S p)) σ) : sp_X5_loses (nI p) σ K X := by
  have hg := hw.2.1
  have h10 : p < 10 := by have := hg.1; omega
  have hbd := (hK.1.bd hL.1 hp).1
  have e228 : σ.1 228 p = zI (flR f p) := by rw [hR.2.2.2.2.2.1 p hp, ← flR_z]
  have hG : GM σ g := GM_of hw hr
  refine ⟨n_inR h10 (by decide), fun q => ?_, fun q => ?_⟩
  · rw [n_cl (by omega), e228] at q
    have hne : flR f p ≠ 0 := fun e => q (by rw [e]; rfl)
    refine i_X5_from hg hG hp e228 hbd ?_
    cases hfr : frO g (flR f) p with
    | none => 
      unfold frO at hfr
      by_cases c1 : 0 < flR f p
      · rw [if_pos c1] at hfr; cases hfr
      · rw [if_neg c1, if_pos (by omega)] at hfr; cases hfr
    | some e =>
      obtain ⟨n, hn, -⟩ := fr_to hfr
      have he10 := frO_lt hg hp e hfr
      have hn10 := toO_lt hg hp n hn
      refine ⟨n_inR he10 (by decide), fun v21 e21 => i_X5_to hg hG hp e228 hbd ?_⟩
      rw [hn]
      refine ⟨n_inR hn10 (by decide), fun v32 e32 => ⟨n_inR h10 (by decide), ?_⟩⟩
      rw [show fI (some e) = nI e from rfl, n_cl (by omega), (hR.2.2.2.2.2.2.1 e he10).1] at e21
      rw [show fI (some n) = nI n from rfl, n_cl (by omega), (hR.2.2.2.2.2.2.1 n hn10).2.1] at e32
      rw [n_cl (n := p) (by omega), e228]
      refine i_abI (by omega) (by omega) ?_
      rw [e21, e32]
      have bT := (hK.2.2 e he10).1.2
      have bS := (hK.2.2 n hn10).2.2
      refine i_X5_through hw hr hp e228 hne hbd bT.1 bT.2 (i_X5_through hw hr hp e228 hne hbd bS.1 bS.2 ?_)
      have t1 := thr_bd (w := w) (fl := flR f) (p := p) bT.1
      have t2 := thr_bd (w := w) (fl := flR f) (p := p) bS.1
      rw [ab_N, ← nI_z, loss_num (by omega) t1.2 bT.2 t2.2 bS.2]
      unfold lsH lsC at h
      rw [hfr, hn] at h
      exact h
  · rw [n_cl (by omega), e228] at q
    have hz : flR f p = 0 := (zI_eq (by omega) (by omega) (by decide) (by decide)).mp q
    have h1 : frO g (flR f) p = none := by unfold frO; rw [if_neg (by omega), if_neg (by omega)]
    have h2 : toO g (flR f) p = none := by unfold toO; rw [if_neg (by omega), if_neg (by omega)]
    unfold lsH lsC at h
    rw [h1, h2] at h
    exact h
/-! ===== the best return temperature ===== -/
/-- what the station at n pays for an hour with the j-th return temperature -/
def PyOk (w : Nat → Int32) (g : Gr) (n j : Nat) (v : Int64) : Prop := ∃ (c : Lp) (R : Nat) (D T : Nat → Nat → Nat) (B S : Nat → Nat) (z : Int) (f : Nat → Int32), Sol (wr w n (nI (200 + 50 * j))) g c R D T B S z f ∧ v = pyW (wr w n (nI (200 + 50 * j))) n (cnW (wr w n (nI (200 + 50 * j))) n (zL (htZ (wr w n (nI (200 + 50 * j))) (D R) (T R) n)))
/-- the first least of the first ones -/
def bsF (py : Nat → Int64) : Nat → Nat × Int64
  | 0 => (0, py 0)
  | m + 1 => if py (m + 1) < (bsF py m).2 then (m + 1, py (m + 1)) else bsF py m
theorem bsF_le (py : Nat → Int64) : ∀ m, (bsF py m).1 ≤ m
  | 0 => Nat.le_refl 0
  | m + 1 => by
    have ih := bsF_le py m
    unfold bsF
    split
    · exact Nat.le_refl _
    · omega
theorem bsF_cg {p q : Nat → Int64} : ∀ m, (∀ j, j ≤ m → p j = q j) → bsF p m = bsF q m
  | 0, h => by unfold bsF; rw [h 0 (Nat.le_refl 0)]
  | m + 1, h => by
    unfold bsF
    rw [bsF_cg m (fun j hj => h j (by omega)), h (m + 1) (Nat.le_refl _)]
theorem fqL_big (x : Int64) : ¬ (9223372036854775807 : Int64) ≤ fqL x 1000 := by
  have hx := Int64.toInt_lt x
  have hx2 := Int64.le_toInt x
  have hd : (x / 1000).toInt = x.toInt.tdiv 1000 := by
    rw [Int64.toInt_div]
    rw [show (1000 : Int64).toInt = 1000 from rfl]
    have b1 : -9223372036854776 ≤ x.toInt.tdiv 1000 ∧ x.toInt.tdiv 1000 ≤ 9223372036854776 := by
      have h := Int.natAbs_tdiv x.toInt 1000
      have h' : (x.toInt.tdiv 1000).natAbs = x.toInt.natAbs / 1000 := h
      omega
    exact Int.bmod_eq_of_le (by omega) (by omega)
  have b : -9223372036854776 ≤ (x / 1000).toInt ∧ (x / 1000).toInt ≤ 9223372036854776 := by
    have h' : (x.toInt.tdiv 1000).natAbs = x.toInt.natAbs / 1000 := Int.natAbs_tdiv x.toInt 1000
    rw [hd]; omega
  have hm : ((9223372036854775807 : Int64)).toInt = 9223372036854775807 := rfl
  rw [Int64.le_iff_toInt_le, hm]
  unfold fqL
  split
  · omega
  · split
    · omega
    · rw [Int64.toInt_sub, show (1 : Int64).toInt = 1 from rfl, Int.bmod_eq_of_le (by omega) (by omega)]
      omega
theorem pyW_big (w : Nat → Int32) (n : Nat) (v : Int64) : ¬ (9223372036854775807 : Int64) ≤ pyW w n v := fqL_big _
/-! ===== stations, by whatever number ===== -/
theorem sm_of {v M : Int32} {m : Nat} (hM : M = nI m) (hm : m < 1000) (h : ¬ v < 0 ∧ ¬ M < v) : ∃ n, n ≤ m ∧ v = nI n := by
  obtain ⟨n, hn, e⟩ := nI_of h.1
  subst e
  refine ⟨n, ?_, rfl⟩
  have := h.2
  rw [hM, nI_ltI (by omega) hn] at this
  omega
theorem sm_in {n m : Nat} (hm : m < 1000) (h : n ≤ m) : ¬ nI n < 0 ∧ ¬ nI m < nI n := ⟨nI_pos (by omega), nI_nlt h (by omega)⟩
theorem i_hasC {a : Nat} {p0 : Int32} {w : Nat → Int32} {g : Gr} {σ : Mem} {K : Int32 → Mem → Prop} {X : String → Mem → Prop} (ha : NetA a) (hw : WFw w g) (hN : NR σ a w g) (h1 : ∀ n, n < 10 → p0 = nI n → hasW w n → K 1 σ) (h0 : (∀ n, n < 10 → p0 = nI n → ¬ hasW w n) → K 0 σ) : sp_X0_hasStation a p0 σ K X := by
  by_cases c : ¬ p0 < 0 ∧ ¬ 9 < p0
  · obtain ⟨n, hn, e⟩ := sm_of (m := 9) rfl (by decide) c
    subst e
    refine i_X0_hasStation ha (by omega) ?_
    by_cases hh : hasW w n
    · rw [((hN.2.2.2 n (by omega)).1 hh).1]
      obtain ⟨e, b1, b2⟩ := (hw.2.2.2.2.2.2.2.2.2.2.2.2 n (by omega) hh).1.val (by decide)
      rw [e, show (0 : Int32) = nI 0 from rfl, if_pos (by rw [nI_leI (by omega) (by omega)]; omega)]
      exact h1 n (by omega) rfl hh
    · rw [(hN.2.2.2 n (by omega)).2 hh, if_neg (by decide)]
      refine h0 (fun m hm e q => hh ?_)
      rw [nI_eq (by omega) (by omega)] at e
      rw [e]; exact q
  · refine ⟨ha, i_X4_isNode ?_⟩
    rw [if_neg c]
    refine ⟨fun _ => h0 (fun n hn e q => c ?_), fun q => absurd rfl q⟩
    rw [e]; exact node_in hn
theorem i_hasM {p0 : Int32} {w : Nat → Int32} {σ : Mem} {K : Int32 → Mem → Prop} {X : String → Mem → Prop} (hr : ∀ k, k < 108 → σ.1 210 k = w k) (h1 : ∀ n, n < 10 → p0 = nI n → hasW w n → K 1 σ) (h0 : (∀ n, n < 10 → p0 = nI n → ¬ hasW w n) → K 0 σ) : sp_X5_hasStation p0 σ K X := by
  by_cases c : ¬ p0 < 0 ∧ ¬ 9 < p0
  · obtain ⟨n, hn, e⟩ := sm_of (m := 9) rfl (by decide) c
    subst e
    refine i_X5_hasStation (by omega) ?_
    rw [hr _ (by omega)]
    by_cases hh : 1 ≤ n ∧ w (48 + 6 * n) = 1
    · rw [if_pos hh]; exact h1 n (by omega) rfl hh
    · rw [if_neg hh]
      refine h0 (fun m hm e q => hh ?_)
      rw [nI_eq (by omega) (by omega)] at e
      rw [e]; exact q
  · refine i_X5_in ?_
    have c2 : ¬ (¬ p0 < 1 ∧ ¬ 9 < p0) := fun q => c ⟨fun z => q.1 (by rw [Int32.lt_iff_toInt_lt] at z ⊢; rw [show (0 : Int32).toInt = 0 from rfl] at z; rw [show (1 : Int32).toInt = 1 from rfl]; omega), q.2⟩
    rw [if_neg c2]
    refine ⟨fun _ => h0 (fun n hn e q => c ?_), fun q => absurd rfl q⟩
    rw [e]; exact node_in hn
theorem i_needSt {p0 : Int32} {w : Nat → Int32} {g : Gr} {σ : Mem} {K : Mem → Prop} {X : String → Mem → Prop} (hw : WFw w g) (hN : NR σ 1 w g) (h1 : ∀ n, n < 10 → p0 = nI n → hasW w n → K σ) (h0 : (∀ n, n < 10 → p0 = nI n → ¬ hasW w n) → X "java/util/NoSuchElementException" σ) : sp_X4_needStation p0 σ K X :=
  i_hasC netA_1 hw hN (fun n a b c => ⟨fun _ => h1 n a b c, fun q => absurd q (by decide)⟩) (fun a => ⟨fun q => absurd rfl q, fun _ => h0 a⟩)
/-- as many nodes as records -/
theorem ctB_len {g : Gr} {src : Nat} {L : List Rec} (h : Tre g src L) : ctB (fun n => decide (n ∈ nds L)) 10 = L.length := by
  have h1 := ctB_nds (L := L)
  rw [nds_len] at h1
  have h2 : (nds L).length ≤ ((List.range 10).filter (fun n => decide (n ∈ nds L))).length := nodup_sub _ _ h.1.1 (fun n hn => List.mem_filter.mpr ⟨List.mem_range.mpr (h.lt hn), decide_eq_true hn⟩)
  rw [ctB_filter, nds_len] at h2
  omega
