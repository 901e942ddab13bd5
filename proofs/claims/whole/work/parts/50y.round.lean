/-! ===== the rounds ===== -/
/-- flows and hot temperatures that belong to what the stations draw -/
def RdS (w : Nat → Int32) (g : Gr) (c : Lp) (dr T : Nat → Nat) : Prop := ∃ (B : Nat → Nat) (z : Int) (f : Nat → Int32) (rk : Nat → Nat), FlB w g (bfs g 0) c dr B z f ∧ FlOk g (flR f) rk ∧ ∀ n, n < 10 → EqH w g (flR f) T n ∧ gd w ≤ T n ∧ T n ≤ 1200
def drNx (w : Nat → Int32) (g : Gr) (T : Nat → Nat → Nat) (j : Nat) : Nat → Nat := fun n => drW w (bfs g 0) (if j = 1 then nV (w 0) else T (j - 1) n) n
/-- k rounds, none of which draws as the one before it -/
def HistP (w : Nat → Int32) (g : Gr) (c : Lp) (k : Nat) (D T : Nat → Nat → Nat) : Prop := (∀ j, 1 ≤ j → j ≤ k → D j = drNx w g T j ∧ RdS w g c (D j) (T j)) ∧ ∀ j, 2 ≤ j → j ≤ k → ∃ n, n < 10 ∧ D j n ≠ D (j - 1) n
/-- all rounds -/
def Hist (w : Nat → Int32) (g : Gr) (c : Lp) (R : Nat) (D T : Nat → Nat → Nat) : Prop := 1 ≤ R ∧ R ≤ 12 ∧ (∀ j, 1 ≤ j → j ≤ R → D j = drNx w g T j ∧ RdS w g c (D j) (T j)) ∧ (∀ j, 2 ≤ j → j < R → ∃ n, n < 10 ∧ D j n ≠ D (j - 1) n) ∧ (R = 12 ∨ (2 ≤ R ∧ ∀ n, n < 10 → D R n = D (R - 1) n))
theorem HistP.next {w : Nat → Int32} {g : Gr} {c : Lp} {k : Nat} {D T : Nat → Nat → Nat} (h : HistP w g c k D T) {dr T1 : Nat → Nat} (h1 : dr = drNx w g T (k + 1)) (h2 : RdS w g c dr T1) (h3 : 1 ≤ k → ∃ n, n < 10 ∧ dr n ≠ D k n) : HistP w g c (k + 1) (fun j => if j = k + 1 then dr else D j) (fun j => if j = k + 1 then T1 else T j) := by
  have nx : ∀ j, j ≤ k + 1 → drNx w g (fun j => if j = k + 1 then T1 else T j) j = drNx w g T j := fun j hj => by
    unfold drNx
    funext n
    have : (fun j => if j = k + 1 then T1 else T j) (j - 1) = T (j - 1) := by
      show (if j - 1 = k + 1 then T1 else T (j - 1)) = _
      by_cases q : j - 1 = k + 1
      · omega
      · rw [if_neg q]
    by_cases q : j = 1
    · rw [if_pos q, if_pos q]
    · rw [if_neg q, if_neg q]
      show drW w (bfs g 0) ((fun j => if j = k + 1 then T1 else T j) (j - 1) n) n = _
      rw [this]
  refine ⟨fun j j1 j2 => ?_, fun j j1 j2 => ?_⟩
  · rw [nx j j2]
    show (if j = k + 1 then dr else D j) = _ ∧ RdS w g c (if j = k + 1 then dr else D j) (if j = k + 1 then T1 else T j)
    by_cases q : j = k + 1
    · rw [if_pos q, if_pos q, q]; exact ⟨h1, h2⟩
    · rw [if_neg q, if_neg q]; exact h.1 j j1 (by omega)
  · show ∃ n, n < 10 ∧ (if j = k + 1 then dr else D j) n ≠ (if j - 1 = k + 1 then dr else D (j - 1)) n
    rw [if_neg (by omega : ¬ j - 1 = k + 1)]
    by_cases q : j = k + 1
    · rw [if_pos q, q, Nat.add_sub_cancel]; exact h3 (by omega)
    · rw [if_neg q]; exact h.2 j j1 (by omega)
theorem drNx_out {w : Nat → Int32} {g : Gr} {T : Nat → Nat → Nat} {j n : Nat} (h : n ∉ nds (bfs g 0)) : drNx w g T j n = 0 := drW_out h
theorem drNx_bd {w : Nat → Int32} {g : Gr} (hw : WFw w g) {T : Nat → Nat → Nat} {j n : Nat} (hn : n < 10) : drNx w g T j n ≤ 999 ∧ (¬ hasW w n → drNx w g T j n = 0) ∧ (n ∉ nds (bfs g 0) → drNx w g T j n = 0) := drW_bd hw hn
/-- the state's rows in the midst of the rounds -/
def Mid (w : Nat → Int32) (g : Gr) (c : Lp) (dr B T : Nat → Nat) (z : Int) (W : List Nat) (t a : Nat) (τ : Mem) : Prop := CBase w g c dr B z W t a τ ∧ (∀ n, n < 10 → τ.1 (t + 1) n = nI (dr n)) ∧ (∀ n, n < 10 → τ.1 (t + 6) n = nI (T n) ∧ (gd w ≤ T n ∧ T n ≤ 1200) ∧ EqH w g (flR (fun p => τ.1 (t + 2) p)) T n ∧ τ.2.1 (t + 10) n = lN (rmH w g (flR (fun p => τ.1 (t + 2) p)) T n)) ∧ (∀ p, p < 10 → τ.2.1 (t + 11) p = lN (if p < g.1 then lsH w g (flR (fun p => τ.1 (t + 2) p)) T p else 0)) ∧ (∀ k, k < c.1 → τ.1 (t + 3) k = zI (lf g (bfs g 0) c dr B z k)) ∧ (∀ n, n ∈ nds (bfs g 0) → τ.1 (t + 4) n = nI (B n)) ∧ τ.2.1 t 12 = zL (if c.1 = 0 then 0 else sumD g (bfs g 0) c dr B (rsW w) z)
/-- the state that is found -/
def StF (w : Nat → Int32) (g : Gr) (c : Lp) (R : Nat) (dr B T S : Nat → Nat) (z : Int) (t : Nat) (τ : Mem) : Prop :=
  (FlB w g (bfs g 0) c dr B z (fun p => τ.1 (t + 2) p) ∧ ∃ rk, FlOk g (flR (fun p => τ.1 (t + 2) p)) rk) ∧
  (∀ n, n < 10 → τ.1 (t + 1) n = nI (dr n) ∧ dr n ≤ 999 ∧ (¬ hasW w n → dr n = 0) ∧ (n ∉ nds (bfs g 0) → dr n = 0)) ∧
  (∀ n, n < 10 → τ.1 (t + 6) n = nI (T n) ∧ (gd w ≤ T n ∧ T n ≤ 1200) ∧ EqH w g (flR (fun p => τ.1 (t + 2) p)) T n) ∧
  (∀ n, n < 10 → τ.1 (t + 7) n = nI (S n) ∧ (gd w ≤ S n ∧ S n ≤ 1200) ∧ EqC w g (flR (fun p => τ.1 (t + 2) p)) dr S n ∧ τ.2.1 (t + 10) n = lN (rmH w g (flR (fun p => τ.1 (t + 2) p)) T n + rmC w g (flR (fun p => τ.1 (t + 2) p)) dr S n)) ∧
  (∀ p, p < 10 → τ.2.1 (t + 11) p = lN (if p < g.1 then lsH w g (flR (fun p => τ.1 (t + 2) p)) T p + lsC w g (flR (fun p => τ.1 (t + 2) p)) S p else 0)) ∧
  τ.2.1 (t + 8) 0 = lN (flC g (flR (fun p => τ.1 (t + 2) p)) dr 0) ∧
  (∀ n, n ∈ nds (bfs g 0) → τ.2.1 (t + 12) n = zL (hdN w (bfs g 0) c B (lf g (bfs g 0) c dr B z) n)) ∧
  τ.2.1 t 12 = zL (if c.1 = 0 then 0 else sumD g (bfs g 0) c dr B (rsW w) z) ∧ τ.1 t 13 = nI R
theorem NR.eq1 {σ τ : Mem} {a : Nat} {w : Nat → Int32} {g : Gr} (h : NR σ a w g) (e : ∀ b k, a ≤ b → b ≤ a + 13 → τ.1 b k = σ.1 b k) : NR τ a w g := by
  obtain ⟨b1, b2, b3, b4⟩ := h
  refine ⟨fun k hk => by rw [e _ _ (by omega) (by omega)]; exact b1 k hk, ⟨by rw [e _ _ (by omega) (by omega)]; exact b2.1, fun p hp => by rw [e _ _ (by omega) (by omega), e _ _ (by omega) (by omega)]; exact b2.2 p hp⟩, fun p hp => by rw [e _ _ (by omega) (by omega), e _ _ (by omega) (by omega)]; exact b3 p hp, fun n hn => ?_⟩
  rw [e _ _ (by omega) (by omega), e _ _ (by omega) (by omega), e _ _ (by omega) (by omega), e _ _ (by omega) (by omega), e _ _ (by omega) (by omega)]
  exact b4 n hn
theorem Ch.of1 {lo hi : Nat} {σ τ : Mem} (h1 : ∀ b k, b < lo ∨ hi < b → τ.1 b k = σ.1 b k) (h2 : ∀ b k, b < lo ∨ hi < b → τ.2.1 b k = σ.2.1 b k) (h3 : τ.2.2 = σ.2.2) : Ch lo hi σ τ := ⟨fun b k q => ⟨h1 b k q, h2 b k q⟩, h3⟩
/-- one round's flows and temperatures -/
theorem round_ok {t a : Nat} {w : Nat → Int32} {g : Gr} {c : Lp} {dr : Nat → Nat} {σ : Mem} {R : Mem → Prop} {X : String → Mem → Prop} (ht : StaA t) (ha : NetA a) (hw : WFw w g) (hN : NR σ a w g) (hS : Shp g (bfs g 0) c σ) (hd : ∀ n, n < 10 → σ.1 (t + 1) n = nI (dr n) ∧ dr n ≤ 999) (h : ∀ (τ : Mem) (B T : Nat → Nat) (z : Int) (W : List Nat), Ch t (t + 12) σ τ → τ.1 t 13 = σ.1 t 13 → Mid w g c dr B T z W t a τ → R τ) : sp_X2_findTreeFlows t a σ (fun σ67 => sp_X2_findLoopFlows t a σ67 (fun σ73 => sp_X2_findWaterOrder t σ73 (fun σ78 => sp_X2_findTemperatures t a σ78 (fun σ84 => R σ84) X) X) X) X := by
  have hg := hw.2.1
  have hP := hg.1
  have hT := bfs_tre hg (by decide : 0 < 10)
  have hL := hS.1.1
  have hfar := netA_far ha
  have ht2 := staA_is ht
  refine ⟨ht, ha, g, c, dr, hg, hN.2.1, hS, hd, fun σ1 B c1 e1 b1 f1 f2 => ?_⟩
  have N1 := hN.ch c1 (by omega)
  have S1 := hS.ch c1 (by omega)
  refine ⟨ht, ha, w, g, c, dr, B, hw, N1, S1, e1, b1, fun σ2 z c2 k0 k1 xs im lp ot => ?_⟩
  have N2 := N1.ch c2 (by omega)
  have S2 := S1.ch c2 (by omega)
  have flb : FlB w g (bfs g 0) c dr B z (fun p => σ2.1 (t + 2) p) := by
    refine ⟨e1, fun n hn => (b1 n hn).1, xs, fun n hn h0 hnt => ?_, fun k hk => (lp k hk).2, fun p hp hc => ?_⟩
    · show σ2.1 (t + 2) _ = _
      rw [ot _ (hL.2.2.2.2.2.2 n hn h0 hnt)]; exact f1 n hn h0 hnt
    · show σ2.1 (t + 2) p = 0
      have hq : ¬ inQ c p := fun ⟨k, k1, k2⟩ => by
        obtain ⟨q1, q2⟩ := hL.2.1 k k1
        rw [k2] at q1 q2
        exact hc (ac_conn hT hg q1 q2 (hL.2.2.2.1 k k1)).1
      rw [ot p hq]
      refine f2 p (by omega) (fun n hn h0 _ e => ?_)
      obtain ⟨u1, -, u3, u4⟩ := hT.up hn h0
      rw [e] at u4
      exact hc (ac_conn hT hg hp u4 u1).1
  refine ⟨ht, g, c, lf g (bfs g 0) c dr B z, hg, S2, flb.fall hL, fun k hk => (lp k hk).1, fun σ3 W c3 w1 w2 w3 w4 w5 => ?_⟩
  have N3 := N2.ch c3 (by omega)
  have S3 := S2.ch c3 (by omega)
  have s2 : ∀ p, σ3.1 (t + 2) p = σ2.1 (t + 2) p := fun p => (c3.1 _ p (by omega)).1
  have cb : CBase w g c dr B z W t a σ3 := by
    refine ⟨hw, N3, S3, ?_, w1, w2, w3, w4, w5⟩
    have : (fun p => σ3.1 (t + 2) p) = (fun p => σ2.1 (t + 2) p) := funext s2
    rw [this]; exact flb
  refine ⟨ht, ha, w, g, c, dr, B, z, W, cb, fun σ4 T d1 d2 d3 d4 d5 => ?_⟩
  have e2 : (fun p => σ4.1 (t + 2) p) = (fun p => σ3.1 (t + 2) p) := by
    funext p
    exact d1 _ _ (by omega)
  refine h σ4 B T z W ?_ ?_ ⟨cb.ch ht ha (fun b k h1 _ => d1 b k h1), fun n hn => ?_, by rw [e2]; exact d4, by rw [e2]; exact d5, fun k hk => ?_, fun n hn => ?_, ?_⟩
  · have c4 : Ch t (t + 12) σ3 σ4 := Ch.of1 (fun b k q => d1 b k (by omega)) (fun b k q => d2 b k (by omega) (by omega)) d3
    exact (((c1.wider (by omega) (by omega)).trans (c2.wider (by omega) (by omega))).trans (c3.wider (by omega) (by omega))).trans c4
  · rw [d1 t 13 (by omega), (c3.1 t 13 (by omega)).1, k0, (c1.1 t 13 (by omega)).1]
  · rw [d1 _ _ (by omega), (c3.1 _ _ (by omega)).1, k1, (c1.1 _ _ (by omega)).1]; exact (hd n hn).1
  · rw [d1 _ _ (by omega), (c3.1 _ _ (by omega)).1]; exact (lp k hk).1
  · rw [d1 _ _ (by omega), (c3.1 _ _ (by omega)).1, (c2.1 _ _ (by omega)).1]; exact (b1 n hn).2
  · rw [d2 _ _ (by omega) (by omega), (c3.1 _ _ (by omega)).2]; exact im
/-- behind the rounds: what comes back, and the heads -/
theorem end_ok {t a R : Nat} {w : Nat → Int32} {g : Gr} {c : Lp} {dr B T : Nat → Nat} {z : Int} {W : List Nat} {σ : Mem} {K : Mem → Prop} {X : String → Mem → Prop} (ht : StaA t) (ha : NetA a) (hm : Mid w g c dr B T z W t a σ) (hd : ∀ n, n < 10 → dr n ≤ 999 ∧ (¬ hasW w n → dr n = 0) ∧ (n ∉ nds (bfs g 0) → dr n = 0)) (hr : σ.1 t 13 = nI R) (h : ∀ (τ : Mem) (S : Nat → Nat), Ch t (t + 12) σ τ → StF w g c R dr B T S z t τ → K τ) : sp_X2_findReturns t a σ (fun σ96 => sp_X2_findHeads t a σ96 (fun σ102 => K σ102) X) X := by
  obtain ⟨cb, m1, m2, m3, m4, m5, m6⟩ := hm
  have hcb := cb
  obtain ⟨hw, hN, hS, hF, hW1, hW2, hW3, hW4, hW5⟩ := cb
  have hg := hw.2.1
  have hT := bfs_tre hg (by decide : 0 < 10)
  have hL := hS.1.1
  have hfar := netA_far ha
  have ht2 := staA_is ht
  have hfall := hF.fall hL
  refine ⟨ht, ha, w, g, c, dr, B, T, z, W, hcb, fun n hn => ⟨m1 n hn, hd n hn⟩, fun n hn => (m2 n hn).2.2.2, m3, fun σ1 S d1 d2 d3 d4 d5 d6 => ?_⟩
  have c1 : Ch t (t + 12) σ σ1 := Ch.of1 (fun b k q => d1 b k (by omega)) (fun b k q => d2 b k (by omega) (by omega) (by omega) (by omega)) d3
  have N1 := hN.ch c1 (by omega)
  have S1 := hS.ch c1 (by omega)
  refine ⟨ht, ha, w, g, c, B, lf g (bfs g 0) c dr B z, hw, N1, S1, fun k hk => ⟨by rw [d1 _ _ (by omega)]; exact m4 k hk, hfall.2 k hk⟩, fun n hn => ⟨hF.2.1 n hn, by rw [d1 _ _ (by omega)]; exact m5 n hn⟩, fun σ2 f1 f2 f3 f4 => ?_⟩
  have e2 : (fun p => σ2.1 (t + 2) p) = (fun p => σ.1 (t + 2) p) := by
    funext p
    rw [f1]; exact d1 _ _ (by omega)
  have c2 : Ch t (t + 12) σ1 σ2 := Ch.of1 (fun b k q => by rw [f1]) (fun b k q => f2 b k (by omega)) f3
  refine h σ2 S (c1.trans c2) ⟨⟨by rw [e2]; exact hF, by rw [e2]; exact ⟨_, hF.ok hw hT hL hW1 hW2 hW3 hW5⟩⟩, fun n hn => ⟨by rw [f1, d1 _ _ (by omega)]; exact m1 n hn, hd n hn⟩, fun n hn => ⟨by rw [f1, d1 _ _ (by omega)]; exact (m2 n hn).1, (m2 n hn).2.1, by rw [e2]; exact (m2 n hn).2.2.1⟩, fun n hn => ?_, fun p hp => ?_, ?_, f4, ?_, ?_⟩
  · obtain ⟨q1, q2, q3, q4⟩ := d4 n hn
    rw [e2, f1, f2 _ _ (by omega)]
    exact ⟨q1, q2, q3, q4⟩
  · rw [e2, f2 _ _ (by omega)]; exact d5 p hp
  · rw [e2, f2 _ _ (by omega)]; exact d6
  · rw [f2 _ _ (by omega), d2 _ _ (by omega) (by omega) (by omega) (by omega)]; exact m6
  · rw [f1, d1 _ _ (by omega)]; exact hr
