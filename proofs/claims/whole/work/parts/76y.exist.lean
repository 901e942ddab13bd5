/-! ===== each network has a solution ===== -/
theorem B_is {g : Gr} {L : List Rec} {c : Lp} {dr : Nat → Nat} (hg : WG g) (hT : Tre g 0 L) (hL : LP0 g L c) (hd : ∀ n, n < 10 → dr n ≤ 999) : ∃ B : Nat → Nat, EqB g L c dr B ∧ ∀ n, n ∈ nds L → B n ≤ 9990 := by
  have h1 : 0 < L.length := (List.getElem?_eq_some_iff.mp hT.2.1.1).1
  have H : ∀ i, i < L.length → ∃ F, TF g L c dr (L.length - 1 - i) F := by
    intro i
    induction i with
    | zero => intro _; exact ⟨dr, TF.start hT hL hd⟩
    | succ i ih =>
      intro hi
      obtain ⟨F, hF⟩ := ih (by omega)
      have := TF.step hg hT hL (i := L.length - 1 - i) (by omega) (by omega) hF
      rw [show L.length - 1 - i - 1 = L.length - 1 - (i + 1) by omega] at this
      exact ⟨_, this⟩
  obtain ⟨F, hF⟩ := H (L.length - 1) (by omega)
  rw [show L.length - 1 - (L.length - 1) = 0 by omega] at hF
  exact ⟨F, TF.done hg hT hL hF⟩
theorem least_is (P : Nat → Prop) : ∀ N, P N → ∃ z, z ≤ N ∧ P z ∧ ∀ y, y < z → ¬ P y := by
  intro N
  induction N using Nat.strongRecOn with
  | ind N ih =>
    intro h
    by_cases c : ∃ y, y < N ∧ P y
    · obtain ⟨y, y1, y2⟩ := c
      obtain ⟨z, z1, z2, z3⟩ := ih y y1 y2
      exact ⟨z, by omega, z2, z3⟩
    · exact ⟨N, Nat.le_refl N, h, fun y hy q => c ⟨y, hy, q⟩⟩
theorem smZ_pos {f : Nat → Int} : ∀ n, (∀ k, k < n → 0 ≤ f k) → 0 ≤ smZ f n
  | 0, _ => Int.le_refl 0
  | n + 1, h => by
    have ih := smZ_pos n (fun k hk => h k (by omega))
    have := h n (by omega)
    show 0 ≤ smZ f n + f n
    omega
theorem z_is {w : Nat → Int32} {g : Gr} {L : List Rec} {c : Lp} {dr B : Nat → Nat} (hw : WFw w g) (hL : LP0 g L c) (hE : EqB g L c dr B) (hb : ∀ n, n ∈ nds L → B n ≤ 9990) : ∃ z : Int, XS g L c dr B (rsW w) z := by
  obtain ⟨z, z1, z2, z3⟩ := least_is (fun z => 0 ≤ sumD g L c dr B (rsW w) (z : Int)) 9990 (smZ_pos _ (fun k hk => by
    have := skF_le (dr := dr) hE hb hL hk
    have hr := rsW_bd hw (hL.2.1 k hk).1
    exact drop_pos (by omega) (by omega)))
  refine ⟨(z : Int), by omega, by omega, z2, fun y y0 y1 => ?_⟩
  have := z3 y.toNat (by omega)
  rw [show ((y.toNat : Nat) : Int) = y by omega] at this
  omega
theorem f_is {g : Gr} {L : List Rec} {c : Lp} {dr B : Nat → Nat} {z : Int} (hg : WG g) (hT : Tre g 0 L) (hL : LP0 g L c) : ∃ f : Nat → Int32, FlE g L c dr B z f := by
  have : ∀ p, ∃ v : Int32, (∀ n, n ∈ nds L → n ≠ 0 → ¬ inT c n → fp L n = p → v = zI (sgn g p (fe L n) (B n))) ∧ (∀ k, k < c.1 → c.2.2 k = p → v = zI (sgn g p (c.2.1 k) (z - skF g L c dr B k))) ∧ (p < g.1 → g.2.1 p ∉ nds L → v = 0) := by
    intro p
    by_cases h1 : inQ c p
    · obtain ⟨k, k1, k2⟩ := h1
      refine ⟨zI (sgn g p (c.2.1 k) (z - skF g L c dr B k)), fun n n1 n2 n3 n4 => ?_, fun j j1 j2 => ?_, fun hp q => ?_⟩
      · exact absurd ⟨k, k1, by rw [k2, n4]⟩ (hL.2.2.2.2.2.2 n n1 n2 n3)
      · rw [hL.pinj j1 k1 (by rw [j2, k2])]
      · have hac := (hL.2.1 k k1).2
        rw [k2] at hac
        exact absurd (ac_conn hT hg hp hac (hL.2.2.2.1 k k1)).1 q
    · by_cases h2 : ∃ n, n ∈ nds L ∧ n ≠ 0 ∧ ¬ inT c n ∧ fp L n = p
      · obtain ⟨m, m1, m2, m3, m4⟩ := h2
        refine ⟨zI (sgn g p (fe L m) (B m)), fun n n1 n2 n3 n4 => ?_, fun j j1 j2 => absurd ⟨j, j1, j2⟩ h1, fun hp q => ?_⟩
        · rw [hT.inj m1 n1 m2 n2 (by rw [m4, n4])]
        · obtain ⟨u1, u2, u3, u4⟩ := hT.up m1 m2
          rw [m4] at u4
          exact absurd (ac_conn hT hg hp u4 u1).1 q
      · exact ⟨0, fun n n1 n2 n3 n4 => absurd ⟨n, n1, n2, n3, n4⟩ h2, fun j j1 j2 => absurd ⟨j, j1, j2⟩ h1, fun _ _ => rfl⟩
  refine ⟨fun p => Classical.choose (this p), fun n n1 n2 n3 => ?_, fun k k1 => ?_, fun p hp q => ?_⟩
  · exact (Classical.choose_spec (this (fp L n))).1 n n1 n2 n3 rfl
  · exact (Classical.choose_spec (this (c.2.2 k))).2.1 k k1 rfl
  · exact (Classical.choose_spec (this p)).2.2 hp q
/-- the place in the loop, as the water comes -/
def posL (c : Lp) (f : Nat → Int) (i : Nat) : Nat := max (if 0 < f (i - 1) then i else 0) (if f i < 0 then c.1 - i else 0)
noncomputable def rkU (L : List Rec) (c : Lp) (f : Nat → Int) (n : Nat) : Nat := by
  classical exact if inT c n then 100 * ixr L (c.2.1 0) + posL c f (ixL c n c.1) else 100 * ixr L n
theorem rank_is {w : Nat → Int32} {g : Gr} {c : Lp} {L : List Rec} {dr B : Nat → Nat} {x : Int} {f : Nat → Int32} (hw : WFw w g) (hT : Tre g 0 L) (hL : LP0 g L c) (h : FlB w g L c dr B x f) : ∃ rk, FlOk g (flR f) rk := by
  have hg := hw.2.1
  have hle := hL.le hT
  have hfall := (h.fall hL).1
  have uT : ∀ i, 0 < i → i < c.1 → rkU L c (lf g L c dr B x) (c.2.1 i) = 100 * ixr L (c.2.1 0) + posL c (lf g L c dr B x) i := fun i i0 i1 => by
    unfold rkU
    rw [if_pos ⟨i, i0, i1, rfl⟩, ixL_T hL.1 i1 c.1 i1 (Nat.le_refl _)]
  have uN : ∀ n, ¬ inT c n → rkU L c (lf g L c dr B x) n = 100 * ixr L n := fun n hn => by unfold rkU; rw [if_neg hn]
  have u0 : 0 < c.1 → rkU L c (lf g L c dr B x) (c.2.1 0) = 100 * ixr L (c.2.1 0) := fun h0 => uN _ (fun ⟨i, i0, i1, i2⟩ => by have := hL.1 i 0 i1 h0 i2; omega)
  have pb : ∀ i, i < c.1 → posL c (lf g L c dr B x) i ≤ 10 := fun i hi => by unfold posL; split <;> split <;> omega
  have key : ∀ p e n, p < g.1 → frO g (flR f) p = some e → toO g (flR f) p = some n → rkU L c (lf g L c dr B x) e < rkU L c (lf g L c dr B x) n := by
    intro p e n hp he hn
    rcases h.pre hw hT hL hp he hn with ⟨a1, a2, a3, a4, -⟩ | ⟨i, i0, i1, i2, i3⟩
    · rw [uN n a3]
      have hup := ixr_up hT a1 a2
      rw [← a4] at hup
      by_cases ce : inT c e
      · obtain ⟨j, j0, j1, j2⟩ := ce
        have := (chain_ix hT hL hg (n := e) ⟨j, j0, j1, j2⟩).2.2.2
        rw [← j2, uT j j0 j1]
        have := pb j j1
        rw [← j2] at hup
        have h3 := (chain_ix hT hL hg (n := c.2.1 j) ⟨j, j0, j1, rfl⟩).2.2.2
        omega
      · rw [uN e ce]; omega
    · rw [i2, uT i i0 i1]
      rcases i3 with ⟨k1, k2, -⟩ | ⟨k1, k2, -⟩
      · have pn : i ≤ posL c (lf g L c dr B x) i := by unfold posL; rw [if_pos k1]; exact Nat.le_max_left _ _
        rw [k2]
        by_cases c1 : i - 1 = 0
        · rw [c1, u0 (by omega)]; omega
        · rw [uT (i - 1) (by omega) (by omega)]
          have : posL c (lf g L c dr B x) (i - 1) ≤ i - 1 := by
            unfold posL
            rw [if_neg (show ¬ lf g L c dr B x (i - 1) < 0 by omega)]
            split <;> omega
          omega
      · have pn : c.1 - i ≤ posL c (lf g L c dr B x) i := by unfold posL; rw [if_pos k1]; exact Nat.le_max_right _ _
        rw [k2]
        by_cases c1 : i + 1 = c.1
        · rw [show nxt c i = 0 by unfold nxt; rw [if_pos c1], u0 (by omega)]; omega
        · rw [show nxt c i = i + 1 by unfold nxt; rw [if_neg c1], uT (i + 1) (by omega) (by omega)]
          have : posL c (lf g L c dr B x) (i + 1) ≤ c.1 - (i + 1) := by
            unfold posL
            rw [show i + 1 - 1 = i by omega, if_neg (show ¬ 0 < lf g L c dr B x i by omega)]
            split <;> omega
          omega
  refine ⟨fun n => ctB (fun m => decide (rkU L c (lf g L c dr B x) m < rkU L c (lf g L c dr B x) n)) 10, fun p hp => (h.bd hL hp).1, fun p hp q => ?_, fun p e n hp he hn => ?_, fun n hn => ?_⟩
  · obtain ⟨e, he, -⟩ := to_fr q
    rcases h.pre hw hT hL hp he q with ⟨-, a2, -⟩ | ⟨i, i0, i1, i2, -⟩
    · exact a2 rfl
    · exact (chain_ix hT hL hg (n := 0) ⟨i, i0, i1, i2.symm⟩).2.1 rfl
  · have hk := key p e n hp he hn
    refine ctB_lt (fun m _ q => decide_eq_true (by have := of_decide_eq_true q; omega)) ⟨e, frO_lt hg hp e he, decide_eq_true hk, fun q => by have := of_decide_eq_true q; omega⟩
  · have : ctB (fun m => decide (rkU L c (lf g L c dr B x) m < rkU L c (lf g L c dr B x) n)) 10 < ctB (fun _ => true) 10 := ctB_lt (fun _ _ _ => rfl) ⟨n, hn, rfl, fun q => by have := of_decide_eq_true q; omega⟩
    have e : ctB (fun _ => true) 10 = 10 := by decide
    show ctB (fun m => decide (rkU L c (lf g L c dr B x) m < rkU L c (lf g L c dr B x) n)) 10 < 10
    omega
def itH (w : Nat → Int32) (g : Gr) (fl : Nat → Int) : Nat → Nat → Nat
  | 0, n => if n = 0 then nV (w 0) else gd w
  | k + 1, n => if n = 0 then nV (w 0) else if flH g fl n = 0 then gd w else smH w g fl (itH w g fl k) n / flH g fl n
theorem itH_bd {w : Nat → Int32} {g : Gr} {fl : Nat → Int} (hw : WFw w g) : ∀ k n, n < 10 → gd w ≤ itH w g fl k n ∧ itH w g fl k n ≤ 1200
  | 0, n, _ => by
    have h1 := (gd_bd hw).2
    have h2 := sup_bd hw
    unfold itH
    split <;> omega
  | k + 1, n, hn => by
    have ih := itH_bd (fl := fl) hw k
    have h1 := (gd_bd hw).2
    have h2 := sup_bd hw
    have hle := tH_le (fl := fl) ih hw.2.1 (P := g.1) (n := n) (Nat.le_refl _)
    unfold itH
    by_cases c : n = 0
    · rw [if_pos c]; omega
    · rw [if_neg c]
      by_cases f0 : flH g fl n = 0
      · rw [if_pos f0]; omega
      · rw [if_neg f0]
        exact ⟨(Nat.le_div_iff_mul_le (by omega)).mpr hle.1, Nat.div_le_of_le_mul (by rw [Nat.mul_comm]; exact hle.2)⟩
theorem itH_st {w : Nat → Int32} {g : Gr} {fl : Nat → Int} {rk : Nat → Nat} (hg : WG g) (hok : FlOk g fl rk) : ∀ k n, n < 10 → rk n < k → itH w g fl (k + 1) n = itH w g fl k n
  | 0, _, _, h => absurd h (Nat.not_lt_zero _)
  | k + 1, n, hn, h => by
    show (if n = 0 then nV (w 0) else if flH g fl n = 0 then gd w else smH w g fl (itH w g fl (k + 1)) n / flH g fl n) = (if n = 0 then nV (w 0) else if flH g fl n = 0 then gd w else smH w g fl (itH w g fl k) n / flH g fl n)
    rw [smH_congr (fun p e hp he hto => by
      have h1 := hok.2.2.1 p e n hp he hto
      exact itH_st hg hok k e (frO_lt hg hp e he) (by omega))]
theorem hot_is {w : Nat → Int32} {g : Gr} {fl : Nat → Int} {rk : Nat → Nat} (hw : WFw w g) (hok : FlOk g fl rk) : ∃ T : Nat → Nat, ∀ n, n < 10 → EqH w g fl T n ∧ gd w ≤ T n ∧ T n ≤ 1200 := by
  refine ⟨itH w g fl 10, fun n hn => ⟨?_, itH_bd hw 10 n hn⟩⟩
  unfold EqH
  rw [← itH_st hw.2.1 hok 10 n hn (hok.2.2.2 n hn)]
  rfl
theorem RdS_is {w : Nat → Int32} {g : Gr} {c : Lp} {dr : Nat → Nat} (hw : WFw w g) (hL : LPo g (bfs g 0) c) (hd : ∀ n, n < 10 → dr n ≤ 999) : ∃ T, RdS w g c dr T := by
  have hT := bfs_tre hw.2.1 (src := 0) (by decide)
  obtain ⟨B, b1, b2⟩ := B_is hw.2.1 hT hL.1 hd
  obtain ⟨z, hz⟩ := z_is hw hL.1 b1 b2
  obtain ⟨f, hf⟩ := f_is (dr := dr) (B := B) (z := z) hw.2.1 hT hL.1
  have hF : FlB w g (bfs g 0) c dr B z f := ⟨b1, b2, fun _ => hz, hf⟩
  obtain ⟨rk, hk⟩ := rank_is hw hT hL.1 hF
  obtain ⟨T, hT⟩ := hot_is hw hk
  exact ⟨T, B, z, f, rk, hF, hk, hT⟩
theorem hist_is {w : Nat → Int32} {g : Gr} {c : Lp} (hw : WFw w g) (hL : LPo g (bfs g 0) c) : ∃ R D T, Hist w g c R D T := by
  have nxR : ∀ (T : Nat → Nat → Nat) j, ∃ T1, RdS w g c (drNx w g T j) T1 := fun T j => RdS_is hw hL (fun n hn => (drNx_bd hw hn).1)
  have H : ∀ q k D T, q + k = 12 → 1 ≤ k → HistP w g c k D T → ∃ R D T, Hist w g c R D T := by
    intro q
    induction q with
    | zero =>
      intro k D T hk _ h
      have e : k = 12 := by omega
      subst e
      exact ⟨12, D, T, by decide, by decide, h.1, fun j j1 j2 => h.2 j j1 (by omega), .inl rfl⟩
    | succ q ih =>
      intro k D T hk k1 h
      obtain ⟨T1, hT1⟩ := nxR T (k + 1)
      by_cases c1 : ∃ n, n < 10 ∧ drNx w g T (k + 1) n ≠ D k n
      · exact ih (k + 1) _ _ (by omega) (by omega) (h.next rfl hT1 (fun _ => c1))
      · have nx : ∀ j, j ≤ k + 1 → drNx w g (fun j => if j = k + 1 then T1 else T j) j = drNx w g T j := fun j hj => by
          unfold drNx
          funext n
          have : (fun j => if j = k + 1 then T1 else T j) (j - 1) = T (j - 1) := if_neg (by omega)
          by_cases q : j = 1
          · rw [if_pos q, if_pos q]
          · rw [if_neg q, if_neg q]
            show drW w (bfs g 0) ((fun j => if j = k + 1 then T1 else T j) (j - 1) n) n = _
            rw [this]
        refine ⟨k + 1, fun j => if j = k + 1 then drNx w g T (k + 1) else D j, fun j => if j = k + 1 then T1 else T j, by omega, by omega, fun j j1 j2 => ?_, fun j j1 j2 => ?_, .inr ⟨by omega, fun n hn => ?_⟩⟩
        · rw [nx j j2]
          show (if j = k + 1 then drNx w g T (k + 1) else D j) = _ ∧ RdS w g c (if j = k + 1 then drNx w g T (k + 1) else D j) (if j = k + 1 then T1 else T j)
          by_cases q : j = k + 1
          · rw [if_pos q, if_pos q, q]; exact ⟨rfl, hT1⟩
          · rw [if_neg q, if_neg q]; exact h.1 j j1 (by omega)
        · show ∃ n, n < 10 ∧ (if j = k + 1 then drNx w g T (k + 1) else D j) n ≠ (if j - 1 = k + 1 then drNx w g T (k + 1) else D (j - 1)) n
          rw [if_neg (by omega), if_neg (by omega)]
          exact h.2 j j1 (by omega)
        · show (if k + 1 = k + 1 then drNx w g T (k + 1) else D (k + 1)) n = (if k + 1 - 1 = k + 1 then drNx w g T (k + 1) else D (k + 1 - 1)) n
          rw [if_pos rfl, if_neg (by omega), Nat.add_sub_cancel]
          apply Classical.byContradiction
          intro q
          exact c1 ⟨n, hn, q⟩
  obtain ⟨T1, hT1⟩ := nxR (fun _ _ => 0) 1
  have h0 : HistP w g c 0 (fun _ _ => 0) (fun _ _ => 0) := ⟨fun j j1 j2 => by omega, fun j j1 j2 => by omega⟩
  exact H 11 1 _ _ rfl (Nat.le_refl 1) (h0.next rfl hT1 (fun q => by omega))
theorem sol_is {w : Nat → Int32} {g : Gr} (hw : WFw w g) : ∃ c R D T B S z f, Sol w g c R D T B S z f := by
  obtain ⟨c, hL⟩ := loop_is hw.2.1 hw.2.2.1 hw.2.2.2.1
  obtain ⟨R, D, T, hH⟩ := hist_is hw hL
  obtain ⟨-, B, z, f, rk, hF, hk, hE⟩ := hH.2.2.1 R hH.1 (Nat.le_refl R)
  obtain ⟨S, hS⟩ := cool_is (dr := D R) hw hk (fun n hn => (drD hw hH hn).2.1)
  exact ⟨c, R, D, T, B, S, z, f, hL, hH, hF, ⟨rk, hk⟩, fun n hn => ⟨hE n hn, hS n hn⟩⟩
