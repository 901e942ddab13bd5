/-! ===== water that goes back: what the pipes in Q have sent ===== -/
def fQ (g : Gr) (fl : Nat → Int) (Q : Nat → Bool) (n p : Nat) : Nat := if frO g fl p = some n ∧ Q p = true then flN fl p else 0
def tQ (w : Nat → Int32) (g : Gr) (fl : Nat → Int) (S : Nat → Nat) (Q : Nat → Bool) (n p : Nat) : Nat := match toO g fl p with
  | some e => if frO g fl p = some n ∧ Q p = true then flN fl p * thr w fl p (S e) else 0
  | none => 0
def BkS (w : Nat → Int32) (g : Gr) (fl : Nat → Int) (dr T S : Nat → Nat) (Q : Nat → Bool) (t : Nat) (τ : Mem) : Prop := (∀ n, n < 10 → τ.2.1 (t + 8) n = lN (dr n + smN (fQ g fl Q n) g.1) ∧ τ.2.1 (t + 9) n = lN (dr n * nV (w (48 + 6 * n + 2)) + smN (tQ w g fl S Q n) g.1)) ∧ ∀ p, p < 10 → τ.2.1 (t + 11) p = lN (if p < g.1 then lsH w g fl T p + (if Q p = true then lsC w g fl S p else 0) else 0)
theorem BkS.congr {w : Nat → Int32} {g : Gr} {fl : Nat → Int} {dr T S S' : Nat → Nat} {Q Q' : Nat → Bool} {t : Nat} {σ τ : Mem} (h : BkS w g fl dr T S Q t σ) (hq : ∀ p, p < g.1 → Q' p = Q p) (hs : ∀ p e, p < g.1 → Q p = true → toO g fl p = some e → S' e = S e) (h8 : ∀ k, τ.2.1 (t + 8) k = σ.2.1 (t + 8) k) (h9 : ∀ k, τ.2.1 (t + 9) k = σ.2.1 (t + 9) k) (h11 : ∀ k, τ.2.1 (t + 11) k = σ.2.1 (t + 11) k) : BkS w g fl dr T S' Q' t τ := by
  have e1 : ∀ n, smN (fQ g fl Q' n) g.1 = smN (fQ g fl Q n) g.1 := fun n => smN_congr (fun p hp => by unfold fQ; rw [hq p hp])
  have e2 : ∀ n, smN (tQ w g fl S' Q' n) g.1 = smN (tQ w g fl S Q n) g.1 := fun n => smN_congr (fun p hp => by
    unfold tQ
    rw [hq p hp]
    cases e : toO g fl p with
    | none => rfl
    | some y =>
      show (if frO g fl p = some n ∧ Q p = true then flN fl p * thr w fl p (S' y) else 0) = if frO g fl p = some n ∧ Q p = true then flN fl p * thr w fl p (S y) else 0
      by_cases z : frO g fl p = some n ∧ Q p = true
      · rw [if_pos z, if_pos z, hs p y hp z.2 e]
      · rw [if_neg z, if_neg z])
  refine ⟨fun n hn => ?_, fun p hp => ?_⟩
  · rw [h8, h9, e1, e2]; exact h.1 n hn
  · rw [h11, h.2 p hp]
    by_cases c : p < g.1
    · rw [if_pos c, if_pos c, hq p c]
      by_cases d : Q p = true
      · rw [if_pos d, if_pos d]
        have : lsC w g fl S' p = lsC w g fl S p := by
          unfold lsC
          cases e : toO g fl p with
          | none => rfl
          | some y =>
            show flN fl p * (S' y - thr w fl p (S' y)) = flN fl p * (S y - thr w fl p (S y))
            rw [hs p y c d e]
        rw [this]
      · rw [if_neg d, if_neg d]
    · rw [if_neg c, if_neg c]
/-- pipe p has sent its water back -/
theorem BkS.send {w : Nat → Int32} {g : Gr} {fl : Nat → Int} {dr T S : Nat → Nat} {Q : Nat → Bool} {t p n e : Nat} {σ τ : Mem} (h : BkS w g fl dr T S Q t σ) (hp : p < g.1) (hP : g.1 ≤ 10) (hq : Q p = false) (he : frO g fl p = some e) (hn : toO g fl p = some n) (h8 : ∀ k, τ.2.1 (t + 8) k = if k = e then σ.2.1 (t + 8) k + lN (flN fl p) else σ.2.1 (t + 8) k) (h9 : ∀ k, τ.2.1 (t + 9) k = if k = e then σ.2.1 (t + 9) k + lN (flN fl p * thr w fl p (S n)) else σ.2.1 (t + 9) k) (h11 : ∀ k, τ.2.1 (t + 11) k = if k = p then σ.2.1 (t + 11) k + lN (flN fl p * (S n - thr w fl p (S n))) else σ.2.1 (t + 11) k) : BkS w g fl dr T S (fun q => decide (q = p) || Q q) t τ := by
  have e1 : ∀ m, smN (fQ g fl (fun q => decide (q = p) || Q q) m) g.1 = smN (fQ g fl Q m) g.1 + if m = e then flN fl p else 0 := fun m => by
    refine smN_upd hp (fun k hk hne => ?_) ?_
    · unfold fQ
      simp [hne]
    · unfold fQ
      rw [he]
      by_cases d : m = e
      · rw [d]; simp [hq]
      · have d' : ¬ e = m := fun z => d z.symm
        simp [d, d']
  have e2 : ∀ m, smN (tQ w g fl S (fun q => decide (q = p) || Q q) m) g.1 = smN (tQ w g fl S Q m) g.1 + if m = e then flN fl p * thr w fl p (S n) else 0 := fun m => by
    refine smN_upd hp (fun k hk hne => ?_) ?_
    · unfold tQ
      cases toO g fl k with
      | none => rfl
      | some y => simp [hne]
    · unfold tQ
      rw [he, hn]
      by_cases d : m = e
      · rw [d]; simp [hq]
      · have d' : ¬ e = m := fun z => d z.symm
        simp [d, d']
  refine ⟨fun m hm => ?_, fun q hq' => ?_⟩
  · rw [h8, h9, e1, e2, (h.1 m hm).1, (h.1 m hm).2]
    by_cases d : m = e
    · rw [if_pos d, if_pos d, if_pos d, if_pos d, lN_add, lN_add, Nat.add_assoc, Nat.add_assoc]; exact ⟨rfl, rfl⟩
    · rw [if_neg d, if_neg d, if_neg d, if_neg d, Nat.add_zero, Nat.add_zero]; exact ⟨rfl, rfl⟩
  · rw [h11, h.2 q hq']
    by_cases d : q = p
    · rw [if_pos d, d, if_pos hp, if_pos hp, hq, lN_add]
      have : lsC w g fl S p = flN fl p * (S n - thr w fl p (S n)) := by unfold lsC; rw [hn]
      rw [if_neg (by decide), if_pos (by simp), this, Nat.add_zero]
    · rw [if_neg d]
      simp [d]
/-- what sendBack leaves as it was -/
def SbU (t : Nat) (σ τ : Mem) : Prop := τ.1 = σ.1 ∧ (∀ d k, d ≠ t + 8 → d ≠ t + 9 → d ≠ t + 11 → τ.2.1 d k = σ.2.1 d k) ∧ τ.2.2 = σ.2.2
theorem i_X2_sendBack {t a p n e : Nat} {w : Nat → Int32} {g : Gr} {fl : Nat → Int} {dr T S : Nat → Nat} {Q : Nat → Bool} {σ : Mem} {K : Mem → Prop} {X : String → Mem → Prop} (ht : StaA t) (ha : NetA a) (hw : WFw w g) (hN : NR σ a w g) (hp : p < g.1) (hac : ac g p n = some e) (hf : σ.1 (t + 2) p = zI (fl p)) (hb : -20000 ≤ fl p ∧ fl p ≤ 20000) (hS : σ.1 (t + 7) n = nI (S n) ∧ gd w ≤ S n ∧ S n ≤ 1200) (hB : BkS w g fl dr T S Q t σ) (hq : toO g fl p = some n → Q p = false) (h : ∀ τ : Mem, SbU t σ τ → BkS w g fl dr T S (fun q => (decide (q = p) && decide (toO g fl p = some n)) || Q q) t τ → K τ) : sp_X2_sendBack t a (nI p) (nI n) σ K X := by
  have hg := hw.2.1
  have hP := hg.1
  obtain ⟨e10, n10, hne⟩ := ac_lt hg hp hac
  have eF : flN fl p = (fl p).natAbs := rfl
  refine ⟨ht, ha, i_X2_flowTo ht ha hg hN.2.1 hp hac hf hb ⟨fun q => ?_, fun q => ?_⟩⟩
  · by_cases z : toO g fl p = some n
    · obtain ⟨e', he', f0⟩ := to_fr z
      have ee : e' = e := by
        rcases ac_two (fr_ac hg hp he' z) hac with ⟨q1, q2⟩ | ⟨q1, -⟩
        · have h1 := fr_ac hg hp he' z
          rw [← q1, hac] at h1
          cases h1
          exact absurd rfl hne
        · exact q1.symm
      subst ee
      have f1 : fH g fl n p = flN fl p := by unfold fH; rw [if_pos z]
      have tb := thr_bd (w := w) (fl := fl) (p := p) hS.2.1
      have hS2 := hS.2.2
      rw [f1]
      refine i_X0_farEnd ha (by omega) ?_
      rw [fec_ac hg hN.2.1 hp n10, hac]
      refine isNode_rb (node_in e10).2 ⟨fun _ => ⟨n_inR n10 (by decide), fun v29 e29 => ?_⟩, fun q => absurd (nI_pos' (by omega)) q⟩
      rw [n_cl (by omega), hS.1] at e29
      rw [e29]
      refine i_X0_cooled ha hw hN hp rfl (by omega) (by omega) hS.2.1 hS2 ⟨n_inR (by omega) (by decide), n_inR (by omega) (by decide), fun σ60 e60 => ?_⟩
      refine ⟨n_inR e10 (by decide), n_inR e10 (by decide), fun σ73 e73 => ⟨n_inR e10 (by decide), n_inR e10 (by decide), fun σ90 e90 => ?_⟩⟩
      rw [n_cl (by omega), pk_sub tb.2, nI_l (by omega), nI_l (by omega), lN_mul] at e60
      have e73 : σ73 = wl σ60 (t + 8) e' (σ60.2.1 (t + 8) e' + lN (flN fl p)) := by
        rw [e73, nI_l (by omega)]
        show wl σ60 (t + 8) (nI e').toNatClampNeg (σ60.2.1 (t + 8) (nI e').toNatClampNeg + _) = _
        rw [n_cl (by omega)]
      have e90 : σ90 = wl σ73 (t + 9) e' (σ73.2.1 (t + 9) e' + lN (flN fl p * thr w fl p (S n))) := by
        rw [e90, nI_l (by omega), nI_l (by omega), lN_mul]
        show wl σ73 (t + 9) (nI e').toNatClampNeg (σ73.2.1 (t + 9) (nI e').toNatClampNeg + _) = _
        rw [n_cl (by omega)]
      have hB' := hB.send (τ := σ90) hp hP (hq z) he' z (fun k => ?_) (fun k => ?_) (fun k => ?_)
      · refine h σ90 ⟨by rw [e90, e73, e60]; rfl, fun d k h1 h2 h3 => ?_, by rw [e90, e73, e60]; rfl⟩ ?_
        · rw [e90, wl_l, if_neg (fun q => h2 q.1), e73, wl_l, if_neg (fun q => h1 q.1), e60, wl_l, if_neg (fun q => h3 q.1)]
        · refine hB'.congr (fun q hq2 => ?_) (fun _ _ _ _ _ => rfl) (fun _ => rfl) (fun _ => rfl) (fun _ => rfl)
          simp [z]
      · rw [e90, wl_l, if_neg (fun q => by omega), e73, wl_l]
        by_cases d : k = e'
        · rw [if_pos ⟨rfl, d⟩, if_pos d, e60, wl_l, if_neg (fun q => by omega), d]
        · rw [if_neg (fun q => d q.2), if_neg d, e60, wl_l, if_neg (fun q => by omega)]
      · rw [e90, wl_l]
        by_cases d : k = e'
        · rw [if_pos ⟨rfl, d⟩, if_pos d, e73, wl_l, if_neg (fun q => by omega), e60, wl_l, if_neg (fun q => by omega), d]
        · rw [if_neg (fun q => d q.2), if_neg d, e73, wl_l, if_neg (fun q => by omega), e60, wl_l, if_neg (fun q => by omega)]
      · rw [e90, wl_l, if_neg (fun q => by omega), e73, wl_l, if_neg (fun q => by omega), e60, wl_l]
        by_cases d : k = p
        · rw [if_pos ⟨rfl, d⟩, if_pos d, d]
        · rw [if_neg (fun q => d q.2), if_neg d]
    · exact absurd (show nI (fH g fl n p) = 0 by unfold fH; rw [if_neg z]; rfl) q
  · have z : ¬ toO g fl p = some n := fun z => by
      obtain ⟨-, -, f0⟩ := to_fr z
      have f1 : fH g fl n p = flN fl p := by unfold fH; rw [if_pos z]
      rw [f1] at q
      exact absurd ((nI_eq (b := 0) (by omega) (by decide)).mp q) (by omega)
    refine isNode_rb (by decide) ⟨fun q => absurd q (by decide), fun _ => h σ ⟨rfl, fun _ _ _ _ _ => rfl, rfl⟩ (hB.congr (fun q _ => by simp [z]) (fun _ _ _ _ _ => rfl) (fun _ => rfl) (fun _ => rfl) (fun _ => rfl))⟩
theorem i_sendBack_0 {t a : Nat} {v : Int32} {σ : Mem} {K : Mem → Prop} {X : String → Mem → Prop} (ht : StaA t) (ha : NetA a) (h : K σ) : sp_X2_sendBack t a (-1) v σ K X := ⟨ht, ha, i_flowTo_0 ht ha ⟨fun q => absurd rfl q, fun _ => isNode_rb (by decide) ⟨fun q => absurd q (by decide), fun _ => h⟩⟩⟩
