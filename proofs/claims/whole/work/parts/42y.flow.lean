/-! ===== which water comes to a node ===== -/
theorem sgn_fr {g : Gr} {fl : Nat → Int} (hg : WG g) {p f o : Nat} {v : Int} (hp : p < g.1) (ha : ac g p f = some o) (h : fl p = sgn g p f v) : (0 < v → frO g fl p = some f ∧ toO g fl p = some o) ∧ (v < 0 → frO g fl p = some o ∧ toO g fl p = some f) ∧ (v = 0 → frO g fl p = none ∧ toO g fl p = none) := by
  unfold frO toO
  rw [h]
  unfold sgn
  rcases ac_two (ac_ends hg hp).1 ha with ⟨q1, q2⟩ | ⟨q1, q2⟩
  · rw [if_pos q1.symm, q1, q2]
    exact ⟨fun z => ⟨by rw [if_pos z], by rw [if_pos z]⟩, fun z => ⟨by rw [if_neg (by omega), if_pos z], by rw [if_neg (by omega), if_pos z]⟩, fun z => ⟨by rw [if_neg (by omega), if_neg (by omega)], by rw [if_neg (by omega), if_neg (by omega)]⟩⟩
  · have hne : ¬ g.2.1 p = f := fun e => (hg.2 p hp).2.2 (by rw [e, q2])
    rw [if_neg hne, q1, q2]
    exact ⟨fun z => ⟨by rw [if_neg (by omega), if_pos (by omega)], by rw [if_neg (by omega), if_pos (by omega)]⟩, fun z => ⟨by rw [if_pos (by omega)], by rw [if_pos (by omega)]⟩, fun z => ⟨by rw [if_neg (by omega), if_neg (by omega)], by rw [if_neg (by omega), if_neg (by omega)]⟩⟩
/-- a row of flows, as whole numbers -/
def flR (f : Nat → Int32) (p : Nat) : Int := (f p).toInt
theorem flR_z (f : Nat → Int32) (p : Nat) : f p = zI (flR f p) := by
  unfold zI flR
  exact (Int32.ofInt_toInt (f p)).symm
theorem flR_of {f : Nat → Int32} {p : Nat} {z : Int} (h : f p = zI z) (h1 : -2147483648 ≤ z) (h2 : z < 2147483648) : flR f p = z := by
  unfold flR
  rw [h, zI_toInt h1 h2]
/-- the loop's flows -/
def lf (g : Gr) (L : List Rec) (c : Lp) (dr B : Nat → Nat) (x : Int) (k : Nat) : Int := x - skF g L c dr B k
theorem sgn_bd {g : Gr} {p f : Nat} {v A : Int} (h1 : -A ≤ v) (h2 : v ≤ A) : -A ≤ sgn g p f v ∧ sgn g p f v ≤ A := by unfold sgn; split <;> omega
theorem XS.last {w : Nat → Int32} {g : Gr} {c : Lp} {L : List Rec} {dr B : Nat → Nat} {x : Int} (hw : WFw w g) (hL : LP0 g L c) (h : XS g L c dr B (rsW w) x) (hc : 0 < c.1) : x - skF g L c dr B (c.1 - 1) ≤ 0 := by
  obtain ⟨h1, h2, h3, h4⟩ := h
  apply Classical.byContradiction
  intro q
  have := h4 (x - 1) (by omega) (by omega)
  have z := smZ_le (f := fun _ => 0) (f' := fun k => drop (rsW w (c.2.2 k)) ((x - 1) - skF g L c dr B k)) (n := c.1) (fun k hk => by
    have h5 := skF_m (g := g) (L := L) (c := c) (dr := dr) (B := B) (k := k) (m := c.1 - 1) (by omega)
    have h6 := rsW_bd hw (hL.2.1 k hk).1
    exact drop_pos (by omega) (by omega))
  rw [smZ_0 (fun _ _ => rfl)] at z
  have : sumD g L c dr B (rsW w) (x - 1) = smZ (fun k => drop (rsW w (c.2.2 k)) ((x - 1) - skF g L c dr B k)) c.1 := rfl
  omega
/-- flows as both sides find them -/
def FlB (w : Nat → Int32) (g : Gr) (L : List Rec) (c : Lp) (dr B : Nat → Nat) (x : Int) (f : Nat → Int32) : Prop := EqB g L c dr B ∧ (∀ n, n ∈ nds L → B n ≤ 9990) ∧ (0 < c.1 → XS g L c dr B (rsW w) x) ∧ FlE g L c dr B x f
theorem FlB.fall {w : Nat → Int32} {g : Gr} {c : Lp} {L : List Rec} {dr B : Nat → Nat} {x : Int} {f : Nat → Int32} (h : FlB w g L c dr B x f) (hL : LP0 g L c) : Fall c (lf g L c dr B x) := by
  obtain ⟨h1, h2, h3, -⟩ := h
  refine ⟨fun i j hij hj => ?_, fun k hk => ?_⟩
  · have := skF_m (g := g) (L := L) (c := c) (dr := dr) (B := B) hij
    unfold lf; omega
  · have := skF_le h1 h2 hL hk
    obtain ⟨a, b, -⟩ := h3 (by omega)
    unfold lf; omega
theorem FlB.bd {w : Nat → Int32} {g : Gr} {c : Lp} {L : List Rec} {dr B : Nat → Nat} {x : Int} {f : Nat → Int32} (h : FlB w g L c dr B x f) (hL : LP0 g L c) {p : Nat} (hp : p < g.1) : (-20000 ≤ flR f p ∧ flR f p ≤ 20000) ∧ ((g.2.1 p ∉ nds L ∧ flR f p = 0) ∨ (∃ n, n ∈ nds L ∧ n ≠ 0 ∧ ¬ inT c n ∧ fp L n = p ∧ flR f p = sgn g p (fe L n) (B n)) ∨ (∃ k, k < c.1 ∧ c.2.2 k = p ∧ flR f p = sgn g p (c.2.1 k) (lf g L c dr B x k))) := by
  have hfa := h.fall hL
  obtain ⟨h1, h2, h3, h4, h5, h6⟩ := h
  by_cases c1 : g.2.1 p ∈ nds L
  · by_cases c2 : inQ c p
    · obtain ⟨k, k1, k2⟩ := c2
      have hb := hfa.2 k k1
      have hs := sgn_bd (g := g) (p := p) (f := c.2.1 k) (A := 20000) hb.1 hb.2
      have e := h5 k k1
      rw [k2] at e
      have e2 := flR_of (z := sgn g p (c.2.1 k) (lf g L c dr B x k)) e (by omega) (by omega)
      rw [e2]
      exact ⟨hs, .inr (.inr ⟨k, k1, k2, rfl⟩)⟩
    · obtain ⟨n, n1, n2, n3, n4⟩ := hL.2.2.2.2.2.1 p hp c1 c2
      have hb := h2 n n1
      have hs := sgn_bd (g := g) (p := p) (f := fe L n) (A := 20000) (v := (B n : Int)) (by omega) (by omega)
      have e := h4 n n1 n2 n4
      rw [n3] at e
      have e2 := flR_of e (by omega) (by omega)
      rw [e2]
      exact ⟨hs, .inr (.inl ⟨n, n1, n2, n4, n3, rfl⟩)⟩
  · have e := h6 p hp c1
    have e2 : flR f p = 0 := flR_of (z := 0) (by rw [e]; rfl) (by omega) (by omega)
    rw [e2]
    exact ⟨by omega, .inl ⟨c1, rfl⟩⟩
theorem FlB.pre {w : Nat → Int32} {g : Gr} {c : Lp} {L : List Rec} {dr B : Nat → Nat} {x : Int} {f : Nat → Int32} (hw : WFw w g) (hT : Tre g 0 L) (hL : LP0 g L c) (h : FlB w g L c dr B x f) {p e n : Nat} (hp : p < g.1) (he : frO g (flR f) p = some e) (hn : toO g (flR f) p = some n) : (n ∈ nds L ∧ n ≠ 0 ∧ ¬ inT c n ∧ e = fe L n ∧ p = fp L n) ∨ ∃ i, 0 < i ∧ i < c.1 ∧ n = c.2.1 i ∧ ((0 < lf g L c dr B x (i - 1) ∧ e = c.2.1 (i - 1) ∧ p = c.2.2 (i - 1)) ∨ (lf g L c dr B x i < 0 ∧ e = c.2.1 (nxt c i) ∧ p = c.2.2 i)) := by
  have hg := hw.2.1
  rcases (h.bd hL hp).2 with ⟨-, q⟩ | ⟨m, m1, m2, m3, m4, m5⟩ | ⟨k, k1, k2, k3⟩
  · have := (fr_to he)
    obtain ⟨_, -, z⟩ := this
    exact absurd q z
  · obtain ⟨u1, u2, u3, u4⟩ := hT.up m1 m2
    rw [m4] at u4
    obtain ⟨s1, s2, s3⟩ := sgn_fr hg hp u4 m5
    by_cases z : B m = 0
    · have := (s3 (by omega)).1
      rw [he] at this; cases this
    · obtain ⟨a, b⟩ := s1 (by omega)
      rw [he] at a; cases a
      rw [hn] at b; cases b
      exact .inl ⟨m1, m2, m3, rfl, m4.symm⟩
  · have hXS := h.2.2.1 (by omega)
    obtain ⟨p1, p2⟩ := hL.2.1 k k1
    rw [k2] at p2
    obtain ⟨s1, s2, s3⟩ := sgn_fr hg hp p2 k3
    right
    by_cases z : lf g L c dr B x k = 0
    · have := (s3 z).1
      rw [he] at this; cases this
    · by_cases z2 : 0 < lf g L c dr B x k
      · obtain ⟨a, b⟩ := s1 z2
        rw [he] at a; cases a
        rw [hn] at b; cases b
        have hl : k + 1 ≠ c.1 := fun e => by
          have := XS.last hw hL hXS (by omega)
          rw [show c.1 - 1 = k by omega] at this
          unfold lf at z2
          omega
        refine ⟨k + 1, by omega, by omega, by unfold nxt; rw [if_neg hl], .inl ⟨by rw [Nat.add_sub_cancel]; exact z2, by rw [Nat.add_sub_cancel], by rw [Nat.add_sub_cancel]; exact k2.symm⟩⟩
      · have z3 : lf g L c dr B x k < 0 := by omega
        obtain ⟨a, b⟩ := s2 z3
        rw [he] at a; cases a
        rw [hn] at b; cases b
        have k0 : k ≠ 0 := fun e => by
          rw [e] at z3
          unfold lf at z3
          rw [skF_0] at z3
          have := hXS.1
          omega
        exact ⟨k, by omega, k1, rfl, .inr ⟨z3, rfl, k2.symm⟩⟩
def ixn : List Nat → Nat → Nat
  | [], _ => 0
  | r :: L, n => if r = n then 0 else ixn L n + 1
theorem ixn_at : ∀ {W : List Nat} {i n : Nat}, W.Nodup → W[i]? = some n → ixn W n = i
  | [], i, n, _, h => by simp at h
  | q :: W, i, n, hn, h => by
    have hn' := List.nodup_cons.mp hn
    cases i with
    | zero =>
      have : q = n := by simpa using h
      subst this
      show (if q = q then 0 else _) = 0
      rw [if_pos rfl]
    | succ i =>
      have h : W[i]? = some n := by simpa using h
      have hne : ¬ q = n := fun e => hn'.1 (by rw [e]; exact List.mem_of_getElem? h)
      show (if q = n then 0 else ixn W n + 1) = i + 1
      rw [if_neg hne, ixn_at hn'.2 h]
theorem ixn_le : ∀ (W : List Nat) (n : Nat), ixn W n ≤ W.length
  | [], _ => Nat.le_refl 0
  | q :: W, n => by
    show (if q = n then 0 else ixn W n + 1) ≤ W.length + 1
    have := ixn_le W n
    split <;> omega
theorem FlB.ok {w : Nat → Int32} {g : Gr} {c : Lp} {L : List Rec} {dr B : Nat → Nat} {x : Int} {f : Nat → Int32} (hw : WFw w g) (hT : Tre g 0 L) (hL : LP0 g L c) (h : FlB w g L c dr B x f) {W : List Nat} (h1 : W.Nodup) (h2 : ∀ n, n ∈ W ↔ n ∈ nds L) (h3 : OrdW L c (lf g L c dr B x) W) (h4 : W[0]? = some 0) : FlOk g (flR f) (ixn W) := by
  have key : ∀ p e n, p < g.1 → frO g (flR f) p = some e → toO g (flR f) p = some n → n ∈ nds L ∧ PreW L c (lf g L c dr B x) e n := fun p e n hp he hn => by
    rcases h.pre hw hT hL hp he hn with ⟨a1, a2, a3, a4, -⟩ | ⟨i, i0, i1, i2, i3⟩
    · exact ⟨a1, .inl ⟨a1, a2, a3, a4⟩⟩
    · refine ⟨by rw [i2]; exact hL.2.2.2.1 i i1, .inr ⟨i, i0, i1, i2, ?_⟩⟩
      rcases i3 with ⟨b1, b2, -⟩ | ⟨b1, b2, -⟩
      · exact .inl ⟨b1, b2⟩
      · exact .inr ⟨b1, b2⟩
  refine ⟨fun p hp => (h.bd hL hp).1, fun p hp q => ?_, fun p e n hp he hn => ?_, fun n hn => ?_⟩
  · obtain ⟨e, he, -⟩ := to_fr q
    obtain ⟨-, hpre⟩ := key p e 0 hp he q
    obtain ⟨j, hj, -⟩ := h3 0 0 h4 e hpre
    exact absurd hj (Nat.not_lt_zero j)
  · obtain ⟨hn1, hpre⟩ := key p e n hp he hn
    obtain ⟨i, hi⟩ := List.getElem?_of_mem ((h2 n).mpr hn1)
    obtain ⟨j, hj, hje⟩ := h3 i n hi e hpre
    rw [ixn_at h1 hi, ixn_at h1 hje]
    exact hj
  · by_cases q : n ∈ W
    · obtain ⟨i, hi⟩ := List.getElem?_of_mem q
      rw [ixn_at h1 hi]
      have := (List.getElem?_eq_some_iff.mp hi).1
      have := nodup_len 10 W h1 (fun m hm => hT.lt ((h2 m).mp hm))
      omega
    · have := nodup_len 10 (W ++ [n]) (nodup_app h1 q) (fun m hm => by
        rcases mem_app.mp hm with z | z
        · exact hT.lt ((h2 m).mp z)
        · rw [z]; exact hn)
      rw [List.length_append] at this
      have := ixn_le W n
      simp at *
      omega
theorem smN_one {f : Nat → Nat} {a : Nat} : ∀ {P : Nat}, a < P → (∀ p, p < P → p ≠ a → f p = 0) → smN f P = f a
  | 0, h, _ => absurd h (Nat.not_lt_zero a)
  | P + 1, h, hz => by
    show smN f P + f P = f a
    by_cases c : a = P
    · rw [smN_0 (fun k hk => hz k (by omega) (by omega)), c]; omega
    · rw [smN_one (by omega) (fun p hp hne => hz p (by omega) hne), hz P (by omega) (fun e => c e.symm)]; omega
theorem smN_two {f : Nat → Nat} {a b : Nat} : ∀ {P : Nat}, a < P → b < P → a ≠ b → (∀ p, p < P → p ≠ a → p ≠ b → f p = 0) → smN f P = f a + f b
  | 0, h, _, _, _ => absurd h (Nat.not_lt_zero a)
  | P + 1, ha, hb, hne, hz => by
    show smN f P + f P = f a + f b
    by_cases c : a = P
    · rw [smN_one (a := b) (by omega) (fun p hp hpb => hz p (by omega) (by omega) hpb), c]; omega
    · by_cases d : b = P
      · rw [smN_one (a := a) (by omega) (fun p hp hpa => hz p (by omega) hpa (by omega)), d]
      · rw [smN_two (by omega) (by omega) hne (fun p hp h1 h2 => hz p (by omega) h1 h2), hz P (by omega) (fun e => c e.symm) (fun e => d e.symm)]; omega
/-- the heat that a pipe loses: of the hot water, of the water that goes back -/
def lsH (w : Nat → Int32) (g : Gr) (fl : Nat → Int) (T : Nat → Nat) (p : Nat) : Nat := match frO g fl p with
  | some e => flN fl p * (T e - thr w fl p (T e))
  | none => 0
def lsC (w : Nat → Int32) (g : Gr) (fl : Nat → Int) (S : Nat → Nat) (p : Nat) : Nat := match toO g fl p with
  | some e => flN fl p * (S e - thr w fl p (S e))
  | none => 0
theorem i_X2_flowTo {t a p n e : Nat} {g : Gr} {fl : Nat → Int} {σ : Mem} {K : Int32 → Mem → Prop} {X : String → Mem → Prop} (ht : StaA t) (ha : NetA a) (hg : WG g) (hG : GC σ a g) (hp : p < g.1) (hac : ac g p n = some e) (hf : σ.1 (t + 2) p = zI (fl p)) (hb : -20000 ≤ fl p ∧ fl p ≤ 20000) (h : K (nI (fH g fl n p)) σ) : sp_X2_flowTo t a (nI p) (nI n) σ K X := by
  have hP := hg.1
  obtain ⟨w1, w2, w3⟩ := hg.2 p hp
  obtain ⟨e10, n10, hne⟩ := ac_lt hg hp hac
  have hi := n_inR (n := p) (N := 10) (by omega) (by decide)
  have z0 : (0 : Int32) = zI 0 := rfl
  have eF : flN fl p = (fl p).natAbs := rfl
  refine ⟨ht, ha, isPipe_rb (pipe_in (p := p) (by omega)) ⟨fun _ => ⟨hi, ?_⟩, fun q => absurd (nI_pos' (by omega)) q⟩⟩
  rw [n_cl (by omega), (hG.2 p hp).2, hf]
  refine ⟨fun c => ⟨hi, fun v32 e32 => ?_⟩, fun c => ⟨hi, fun v32 e32 => ?_⟩⟩
  · have hno : g.2.2 p ≠ n := fun q => c (by rw [q])
    have h1 : g.2.1 p = n := by
      rcases ac_two (ac_ends hg hp).1 hac with ⟨q1, -⟩ | ⟨-, q2⟩
      · exact q1.symm
      · exact absurd q2.symm hno
    have ef : fH g fl n p = if fl p < 0 then flN fl p else 0 := by
      unfold fH toO
      by_cases z : 0 < fl p
      · rw [if_pos z, if_neg (fun q => by injection q with q; exact hno q), if_neg (by omega)]
      · rw [if_neg z]
        by_cases z2 : fl p < 0
        · rw [if_pos z2, if_pos (by rw [h1]), if_pos z2]
        · rw [if_neg z2, if_neg (fun q => by cases q), if_neg z2]
    rw [e32, zI_neg]
    refine ⟨fun q => ?_, fun q => ?_⟩
    · rw [z0, zI_lt (by omega) (by omega) (by omega) (by omega)] at q
      rw [ef, if_pos (by omega)] at h
      rw [show zI (-fl p) = nI (flN fl p) by rw [nI_z]; congr 1; omega]
      exact h
    · rw [z0, zI_lt (by omega) (by omega) (by omega) (by omega)] at q
      rw [ef, if_neg (by omega)] at h
      exact h
  · have h1 : g.2.2 p = n := nI_eqP w2 n10 c
    have hno : g.2.1 p ≠ n := fun q => w3 (by rw [q, h1])
    have ef : fH g fl n p = if 0 < fl p then flN fl p else 0 := by
      unfold fH toO
      by_cases z : 0 < fl p
      · rw [if_pos z, if_pos (by rw [h1]), if_pos z]
      · rw [if_neg z, if_neg z]
        by_cases z2 : fl p < 0
        · rw [if_pos z2, if_neg (fun q => by injection q with q; exact hno q)]
        · rw [if_neg z2, if_neg (fun q => by cases q)]
    rw [e32]
    refine ⟨fun q => ?_, fun q => ?_⟩
    · rw [z0, zI_lt (by omega) (by omega) (by omega) (by omega)] at q
      rw [ef, if_pos (by omega)] at h
      rw [show zI (fl p) = nI (flN fl p) by rw [nI_z]; congr 1; omega]
      exact h
    · rw [z0, zI_lt (by omega) (by omega) (by omega) (by omega)] at q
      rw [ef, if_neg (by omega)] at h
      exact h
theorem i_flowTo_0 {t a : Nat} {v : Int32} {σ : Mem} {K : Int32 → Mem → Prop} {X : String → Mem → Prop} (ht : StaA t) (ha : NetA a) (h : K 0 σ) : sp_X2_flowTo t a (-1) v σ K X := ⟨ht, ha, isPipe_rb (by decide) ⟨fun q => absurd q (by decide), fun _ => h⟩⟩
theorem i_X2_bring {t a p n e T' : Nat} {w : Nat → Int32} {g : Gr} {fl : Nat → Int} {T : Nat → Nat} {σ : Mem} {K : Int64 → Mem → Prop} {X : String → Mem → Prop} (ht : StaA t) (ha : NetA a) (hw : WFw w g) (hN : NR σ a w g) (hp : p < g.1) (hac : ac g p n = some e) (hf : σ.1 (t + 2) p = zI (fl p)) (hb : -20000 ≤ fl p ∧ fl p ≤ 20000) (hT : σ.1 (t + 6) e = nI (T e) ∧ gd w ≤ T e ∧ T e ≤ 1200) (h : K (lN (tH w g fl T n p)) (if toO g fl p = some n then wl σ (t + 11) p (lN (lsH w g fl T p)) else σ)) : sp_X2_bring t a (nI p) (nI n) σ K X := by
  have hg := hw.2.1
  have hP := hg.1
  obtain ⟨e10, n10, hne⟩ := ac_lt hg hp hac
  have eF : flN fl p = (fl p).natAbs := rfl
  refine ⟨ht, ha, i_X2_flowTo ht ha hg hN.2.1 hp hac hf hb ⟨fun q => ?_, fun q => ?_⟩⟩
  · by_cases z : toO g fl p = some n
    · obtain ⟨e', he', f0⟩ := to_fr z
      have ee : e' = e := by
        rcases ac_two (fr_ac hg hp he' z) hac with ⟨q1, q2⟩ | ⟨q1, -⟩
        · have h1 := fr_ac hg hp he' z
          rw [← q1, hac] at h1
          cases h1
          exact absurd rfl hne
        · exact q1.symm
      subst ee
      have f1 : fH g fl n p = flN fl p := by unfold fH; rw [if_pos z]
      have t1 : tH w g fl T n p = flN fl p * thr w fl p (T e') := by
        unfold tH
        rw [he']
        show (if toO g fl p = some n then flN fl p * thr w fl p (T e') else 0) = _
        rw [if_pos z]
      have l1 : lsH w g fl T p = flN fl p * (T e' - thr w fl p (T e')) := by unfold lsH; rw [he']
      have tb := thr_bd (w := w) (fl := fl) (p := p) hT.2.1
      have hT2 := hT.2.2
      rw [if_pos z, t1, l1] at h
      rw [f1]
      refine i_X0_farEnd ha (by omega) ?_
      rw [fec_ac hg hN.2.1 hp n10, hac]
      refine isNode_rb (node_in e10).2 ⟨fun _ => ⟨n_inR e10 (by decide), fun v27 e27 => ?_⟩, fun q => absurd (nI_pos' (by omega)) q⟩
      have e27 : v27 = nI (T e') := by
        rw [e27]
        show σ.1 (t + 6) (nI e').toNatClampNeg = _
        rw [n_cl (by omega)]; exact hT.1
      rw [e27]
      refine i_X0_cooled ha hw hN hp rfl (by omega) (by omega) hT.2.1 hT2 ⟨n_inR (by omega) (by decide), fun σ55 e55 => ?_⟩
      rw [n_cl (by omega), pk_sub tb.2, nI_l (by omega), nI_l (by omega), lN_mul] at e55
      rw [nI_l (by omega), nI_l (by omega), lN_mul, e55]
      exact h
    · exact absurd (show nI (fH g fl n p) = 0 by unfold fH; rw [if_neg z]; rfl) q
  · have z : ¬ toO g fl p = some n := fun z => by
      obtain ⟨-, -, f0⟩ := to_fr z
      have f1 : fH g fl n p = flN fl p := by unfold fH; rw [if_pos z]
      rw [f1] at q
      exact absurd ((nI_eq (b := 0) (by omega) (by decide)).mp q) (by omega)
    have t1 : tH w g fl T n p = 0 := by
      unfold tH
      cases e2 : frO g fl p with
      | none => rfl
      | some y =>
        show (if toO g fl p = some n then flN fl p * thr w fl p (T y) else 0) = 0
        rw [if_neg z]
    rw [if_neg z, t1] at h
    exact isNode_rb (by decide) ⟨fun q => absurd q (by decide), fun _ => h⟩
