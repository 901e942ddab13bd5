/-! ===== what is left when the ends are peeled off is the loop ===== -/
theorem Tre.d10 {g : Gr} {src : Nat} {L : List Rec} (h : Tre g src L) {n : Nat} (hn : n ∈ nds L) : di L n < 10 := by
  have key : ∀ (i : Nat) (r : Rec), L[i]? = some r → r.2.2.2 ≤ i := by
    intro i
    induction i using Nat.strongRecOn with
    | ind i ih =>
      intro r hr
      rcases Nat.eq_zero_or_pos i with c | c
      · rw [c, h.2.1.1] at hr; cases hr; exact Nat.zero_le _
      · obtain ⟨j, f, h1, h2, -, h4, -⟩ := h.2.1.2 i r c hr
        have := ih j h1 f h2
        omega
  obtain ⟨i, hi⟩ := h.get hn
  have h1 := key i _ hi
  have h2 := (List.getElem?_eq_some_iff.mp hi).1
  have h3 := h.1.len
  have h1 : di L n ≤ i := h1
  omega
def prv (c : Lp) (i : Nat) : Nat := if i = 0 then c.1 - 1 else i - 1
theorem prv_lt {c : Lp} {i : Nat} (h : i < c.1) : prv c i < c.1 := by unfold prv; split <;> omega
theorem nxt_lt {c : Lp} {i : Nat} (h : i < c.1) : nxt c i < c.1 := by unfold nxt; split <;> omega
theorem nxt_prv {c : Lp} {i : Nat} (h : i < c.1) : nxt c (prv c i) = i := by
  unfold nxt prv
  by_cases c0 : i = 0
  · rw [if_pos c0, if_pos (by omega)]; exact c0.symm
  · rw [if_neg c0, if_neg (by omega)]; omega
theorem prv_nxt {c : Lp} {i : Nat} (h : i < c.1) : prv c (nxt c i) = i := by
  unfold nxt prv
  by_cases c0 : i + 1 = c.1
  · rw [if_pos c0, if_pos rfl]; omega
  · rw [if_neg c0, if_neg (by omega)]; omega
theorem inT_N {c : Lp} {n : Nat} (h : inN c n) (ht : ¬ inT c n) : 0 < c.1 ∧ n = c.2.1 0 := by
  obtain ⟨i, hi, e⟩ := h
  rcases Nat.eq_zero_or_pos i with c0 | c0
  · rw [c0] at e; exact ⟨by omega, e.symm⟩
  · exact absurd ⟨i, c0, hi, e⟩ ht
theorem LP0.at {g : Gr} {L : List Rec} {c : Lp} (h : LP0 g L c) {i p e : Nat} (hi : i < c.1) (ha : ac g p (c.2.1 i) = some e) (hq : inQ c p) : (p = c.2.2 i ∧ e = c.2.1 (nxt c i)) ∨ (p = c.2.2 (prv c i) ∧ e = c.2.1 (prv c i)) := by
  obtain ⟨j, hj, e1⟩ := hq
  subst e1
  have b := (h.2.1 j hj).2
  rcases ac_two b ha with ⟨q, q'⟩ | ⟨q, q'⟩
  · have := h.1 _ _ hi hj q
    subst this
    exact .inl ⟨rfl, q'⟩
  · have := h.1 _ _ hi (nxt_lt hj) q'
    have e2 : prv c i = j := by rw [this, prv_nxt hj]
    rw [e2]
    exact .inr ⟨rfl, q⟩
theorem LP0.chord {g : Gr} {L : List Rec} {c : Lp} (hg : WG g) (hT : Tre g 0 L) (h : LP0 g L c) {p n e : Nat} (hp : p < g.1) (ha : ac g p n = some e) (hn : inN c n) (he : inN c e) : inQ c p := by
  apply Classical.byContradiction
  intro hq
  have hnn : n ∈ nds L := by obtain ⟨i, hi, e⟩ := hn; rw [← e]; exact h.2.2.2.1 i hi
  obtain ⟨x, x1, x2, x3, x4⟩ := h.2.2.2.2.2.1 p hp (ac_conn hT hg hp ha hnn).1 hq
  obtain ⟨u1, u2, u3, u4⟩ := hT.up x1 x2
  rw [x3] at u4
  have key : inN c x → inN c (fe L x) → False := fun a b => by
    obtain ⟨c1, c2⟩ := inT_N a x4
    by_cases ht : inT c (fe L x)
    · obtain ⟨i, i0, i1, i2⟩ := ht
      have := h.2.2.2.2.1 i i0 i1
      rw [i2, ← c2] at this
      omega
    · obtain ⟨-, c3⟩ := inT_N b ht
      have e : fe L x = x := by rw [c3, c2]
      rw [e] at u2
      omega
  rcases ac_two u4 ha with ⟨q, q'⟩ | ⟨q, q'⟩
  · rw [q] at hn; rw [q'] at he; exact key he hn
  · rw [q'] at hn; rw [q] at he; exact key hn he
theorem LP0.two {g : Gr} {L : List Rec} {c : Lp} (h : LP0 g L c) {n : Nat} (hn : inN c n) : ∃ p q e f, p ≠ q ∧ p < g.1 ∧ q < g.1 ∧ ac g p n = some e ∧ ac g q n = some f ∧ inN c e ∧ inN c f := by
  obtain ⟨i, hi, e⟩ := hn
  have b1 := h.2.1 i hi
  have b2 := h.2.1 (prv c i) (prv_lt hi)
  rw [nxt_prv hi] at b2
  rw [e] at b1 b2
  refine ⟨c.2.2 i, c.2.2 (prv c i), _, _, fun q => ?_, b1.1, b2.1, b1.2, ac_sym b2.2, ⟨_, nxt_lt hi, rfl⟩, ⟨_, prv_lt hi, rfl⟩⟩
  have := h.pinj hi (prv_lt hi) q
  have h3 := h.2.2.1
  unfold prv at this
  by_cases c0 : i = 0
  · rw [if_pos c0] at this; omega
  · rw [if_neg c0] at this; omega
theorem LP0.le {g : Gr} {L : List Rec} {c : Lp} (hT : Tre g 0 L) (h : LP0 g L c) : c.1 ≤ 10 :=
  inj_le c.2.1 (fun i hi => hT.lt (h.2.2.2.1 i hi)) (fun i j hi hj e => h.1 i j hi hj e)
/-- a pipe at a node beside the loop: to a child or to the feeder -/
theorem LP0.off {g : Gr} {L : List Rec} {c : Lp} (hg : WG g) (hT : Tre g 0 L) (h : LP0 g L c) {p w e : Nat} (hp : p < g.1) (ha : ac g p w = some e) (hw : w ∈ nds L) (hq : ¬ inQ c p) : (e ≠ 0 ∧ e ∈ nds L ∧ fe L e = w ∧ fp L e = p ∧ ¬ inT c e) ∨ (w ≠ 0 ∧ fe L w = e ∧ fp L w = p ∧ ¬ inT c w) := by
  obtain ⟨x, x1, x2, x3, x4⟩ := h.2.2.2.2.2.1 p hp (ac_conn hT hg hp ha hw).1 hq
  obtain ⟨u1, u2, u3, u4⟩ := hT.up x1 x2
  rw [x3] at u4
  rcases ac_two u4 ha with ⟨q, q'⟩ | ⟨q, q'⟩
  · left; rw [q']; exact ⟨x2, x1, q.symm, x3, x4⟩
  · right; rw [q']; exact ⟨x2, q.symm, x3, x4⟩
theorem LP0.notQ {g : Gr} {L : List Rec} {c : Lp} (h : LP0 g L c) {p w e : Nat} (ha : ac g p w = some e) (hw : ¬ inN c w) : ¬ inQ c p := by
  rintro ⟨j, hj, e1⟩
  subst e1
  have b := (h.2.1 j hj).2
  rcases ac_two b ha with ⟨q, -⟩ | ⟨-, q⟩
  · exact hw ⟨j, hj, q.symm⟩
  · exact hw ⟨nxt c j, nxt_lt hj, q.symm⟩
def anc (L : List Rec) (n : Nat) : Nat → Nat
  | 0 => n
  | k + 1 => fe L (anc L n k)
theorem LP0.peel {g : Gr} {L : List Rec} {c : Lp} (hg : WG g) (hT : Tre g 0 L) (h : LP0 g L c) (S : Nat → Prop) (hS : ∀ n, S n → n ∈ nds L) (hd : ∀ n, S n → ∃ p q e f, p ≠ q ∧ p < g.1 ∧ q < g.1 ∧ ac g p n = some e ∧ ac g q n = some f ∧ S e ∧ S f) : ∀ n, S n → inN c n := by
  have lem : ∀ p w e, p < g.1 → ac g p w = some e → S w → ¬ inN c w → (e ≠ 0 ∧ e ∈ nds L ∧ fe L e = w ∧ fp L e = p ∧ ¬ inT c e) ∨ (w ≠ 0 ∧ fe L w = e ∧ fp L w = p ∧ ¬ inT c w) := fun p w e hp ha hw hn => h.off hg hT hp ha (hS w hw) (h.notQ ha hn)
  have c1 : ∀ (k w : Nat), 10 ≤ di L w + k → S w → ¬ inN c w → ∃ j, 0 < c.1 ∧ w = anc L (c.2.1 0) j ∧ di L w + j = di L (c.2.1 0) := by
    intro k
    induction k with
    | zero => intro w hk hw _; have := hT.d10 (hS w hw); omega
    | succ k ih =>
      intro w hk hw hn
      obtain ⟨p, q, e, f, hpq, hp, hq, ap, aq, se, sf⟩ := hd w hw
      have child : ∀ e, S e → e ≠ 0 ∧ e ∈ nds L ∧ fe L e = w ∧ ¬ inT c e → ∃ j, 0 < c.1 ∧ w = anc L (c.2.1 0) j ∧ di L w + j = di L (c.2.1 0) := fun e se ⟨e0, e1, e2, e3⟩ => by
        have u2 := (hT.up e1 e0).2.1
        rw [e2] at u2
        by_cases ne : inN c e
        · obtain ⟨z0, z⟩ := inT_N ne e3
          refine ⟨1, z0, ?_, by rw [← z]; omega⟩
          show w = fe L (c.2.1 0)
          rw [← z, e2]
        · obtain ⟨j, z0, z1, z2⟩ := ih e (by omega) se ne
          refine ⟨j + 1, z0, ?_, by omega⟩
          show w = fe L (anc L (c.2.1 0) j)
          rw [← z1, e2]
      rcases lem p w e hp ap hw hn with ⟨x1, x2, x3, -, x5⟩ | ⟨x1, x2, x3, -⟩
      · exact child e se ⟨x1, x2, x3, x5⟩
      rcases lem q w f hq aq hw hn with ⟨y1, y2, y3, -, y5⟩ | ⟨y1, y2, y3, -⟩
      · exact child f sf ⟨y1, y2, y3, y5⟩
      · exact absurd (by rw [← x3, y3]) hpq
  have c2 : ∀ (d w : Nat), di L w = d → S w → inN c w := by
    intro d
    induction d using Nat.strongRecOn with
    | ind d ih =>
      intro w hdw hw
      apply Classical.byContradiction
      intro hn
      obtain ⟨j, z0, z1, z2⟩ := c1 10 w (by omega) hw hn
      obtain ⟨p, q, e, f, hpq, hp, hq, ap, aq, se, sf⟩ := hd w hw
      have parent : ∀ e, S e → w ≠ 0 → fe L w = e → False := fun e se w0 ee => by
        have u2 := (hT.up (hS w hw) w0).2.1
        rw [ee] at u2
        have ne := ih (di L e) (by omega) e rfl se
        by_cases ht : inT c e
        · obtain ⟨i, i0, i1, i2⟩ := ht
          have := h.2.2.2.2.1 i i0 i1
          rw [i2] at this
          omega
        · obtain ⟨-, z⟩ := inT_N ne ht
          rw [← z] at z2
          omega
      have child : ∀ e, S e → e ≠ 0 → e ∈ nds L → fe L e = w → ¬ inT c e → ∃ k, e = anc L (c.2.1 0) k ∧ di L e + k = di L (c.2.1 0) := fun e se e0 e1 e2 e3 => by
        by_cases ne : inN c e
        · obtain ⟨-, z⟩ := inT_N ne e3
          exact ⟨0, z, by rw [z]; omega⟩
        · obtain ⟨k, -, k1, k2⟩ := c1 10 e (by omega) se ne
          exact ⟨k, k1, k2⟩
      rcases lem p w e hp ap hw hn with ⟨x1, x2, x3, x4, x5⟩ | ⟨x1, x2, -, -⟩
      · rcases lem q w f hq aq hw hn with ⟨y1, y2, y3, y4, y5⟩ | ⟨y1, y2, -, -⟩
        · obtain ⟨k, k1, k2⟩ := child e se x1 x2 x3 x5
          obtain ⟨k', k3, k4⟩ := child f sf y1 y2 y3 y5
          have d1 := (hT.up x2 x1).2.1
          have d2 := (hT.up y2 y1).2.1
          rw [x3] at d1
          rw [y3] at d2
          have : k = k' := by omega
          subst this
          have ef : e = f := by rw [k1, k3]
          exact hpq (by rw [← x4, ← y4, ef])
        · exact parent f sf y1 y2
      · exact parent e se x1 x2
  exact fun n hn => c2 _ n rfl hn
/-! ===== a pipe more, a pipe less ===== -/
def addG (g : Gr) (u v : Nat) : Gr := (g.1 + 1, fun p => if p = g.1 then u else g.2.1 p, fun p => if p = g.1 then v else g.2.2 p)
def delG (g : Gr) (k : Nat) : Gr := (g.1 - 1, fun p => if p < k then g.2.1 p else g.2.1 (p + 1), fun p => if p < k then g.2.2 p else g.2.2 (p + 1))
theorem add_old {g : Gr} {u v p : Nat} (hp : p < g.1) (n : Nat) : ac (addG g u v) p n = ac g p n := by
  unfold ac
  show (if (if p = g.1 then u else g.2.1 p) = n then some (if p = g.1 then v else g.2.2 p) else if (if p = g.1 then v else g.2.2 p) = n then some (if p = g.1 then u else g.2.1 p) else none) = _
  rw [if_neg (by omega : ¬ p = g.1), if_neg (by omega : ¬ p = g.1)]
theorem add_new {g : Gr} {u v : Nat} (n : Nat) : ac (addG g u v) g.1 n = if u = n then some v else if v = n then some u else none := by
  unfold ac
  show (if (if g.1 = g.1 then u else g.2.1 g.1) = n then some (if g.1 = g.1 then v else g.2.2 g.1) else if (if g.1 = g.1 then v else g.2.2 g.1) = n then some (if g.1 = g.1 then u else g.2.1 g.1) else none) = _
  rw [if_pos rfl, if_pos rfl]
theorem del_at {g : Gr} {k p : Nat} (n : Nat) : ac (delG g k) p n = ac g (if p < k then p else p + 1) n := by
  unfold ac
  show (if (if p < k then g.2.1 p else g.2.1 (p + 1)) = n then some (if p < k then g.2.2 p else g.2.2 (p + 1)) else if (if p < k then g.2.2 p else g.2.2 (p + 1)) = n then some (if p < k then g.2.1 p else g.2.1 (p + 1)) else none) = _
  by_cases c : p < k
  · rw [if_pos c, if_pos c, if_pos c]
  · rw [if_neg c, if_neg c, if_neg c]
theorem add_wg {g : Gr} (hg : WG g) (h10 : g.1 < 10) {u v : Nat} (hu : u < 10) (hv : v < 10) (hne : u ≠ v) : WG (addG g u v) := by
  refine ⟨by show g.1 + 1 ≤ 10; omega, fun p hp => ?_⟩
  show (if p = g.1 then u else g.2.1 p) < 10 ∧ (if p = g.1 then v else g.2.2 p) < 10 ∧ (if p = g.1 then u else g.2.1 p) ≠ (if p = g.1 then v else g.2.2 p)
  have hp : p < g.1 + 1 := hp
  by_cases c : p = g.1
  · rw [if_pos c, if_pos c]; exact ⟨hu, hv, hne⟩
  · rw [if_neg c, if_neg c]; exact hg.2 p (by omega)
theorem del_wg {g : Gr} (hg : WG g) {k : Nat} : WG (delG g k) := by
  refine ⟨by show g.1 - 1 ≤ 10; have := hg.1; omega, fun p hp => ?_⟩
  have hp : p < g.1 - 1 := hp
  show (if p < k then g.2.1 p else g.2.1 (p + 1)) < 10 ∧ (if p < k then g.2.2 p else g.2.2 (p + 1)) < 10 ∧ (if p < k then g.2.1 p else g.2.1 (p + 1)) ≠ (if p < k then g.2.2 p else g.2.2 (p + 1))
  by_cases c : p < k
  · rw [if_pos c, if_pos c]; exact hg.2 p (by omega)
  · rw [if_neg c, if_neg c]; exact hg.2 (p + 1) (by omega)
theorem del_own {g : Gr} (h : Own g) {k : Nat} : Own (delG g k) := by
  obtain ⟨φ, h1, h2⟩ := h
  refine ⟨fun p => φ (if p < k then p else p + 1), fun p hp => ?_, fun p q hp hq e => ?_⟩
  · have hp : p < g.1 - 1 := hp
    show φ (if p < k then p else p + 1) = (if p < k then g.2.1 p else g.2.1 (p + 1)) ∨ φ (if p < k then p else p + 1) = (if p < k then g.2.2 p else g.2.2 (p + 1))
    by_cases c : p < k
    · rw [if_pos c, if_pos c, if_pos c]; exact h1 p (by omega)
    · rw [if_neg c, if_neg c, if_neg c]; exact h1 (p + 1) (by omega)
  · have hp : p < g.1 - 1 := hp
    have hq : q < g.1 - 1 := hq
    have e : φ (if p < k then p else p + 1) = φ (if q < k then q else q + 1) := e
    by_cases c : p < k <;> by_cases d : q < k
    · rw [if_pos c, if_pos d] at e; exact h2 p q (by omega) (by omega) e
    · rw [if_pos c, if_neg d] at e; have := h2 p (q + 1) (by omega) (by omega) e; omega
    · rw [if_neg c, if_pos d] at e; have := h2 (p + 1) q (by omega) (by omega) e; omega
    · rw [if_neg c, if_neg d] at e; have := h2 (p + 1) (q + 1) (by omega) (by omega) e; omega
theorem del_nopar {g : Gr} (h : NoPar g) {k : Nat} : NoPar (delG g k) := by
  intro p q n e hp hq a b
  have hp : p < g.1 - 1 := hp
  have hq : q < g.1 - 1 := hq
  rw [del_at] at a b
  have := h _ _ n e (by split <;> omega) (by split <;> omega) a b
  by_cases c : p < k <;> by_cases d : q < k
  · rw [if_pos c, if_pos d] at this; exact this
  · rw [if_pos c, if_neg d] at this; omega
  · rw [if_neg c, if_pos d] at this; omega
  · rw [if_neg c, if_neg d] at this; omega
theorem add_nopar {g : Gr} (h : NoPar g) {u v : Nat} (hne : u ≠ v) (hp : ∀ p, p < g.1 → ac g p u ≠ some v) : NoPar (addG g u v) := by
  have hx : ∀ p n e, p < g.1 → ac (addG g u v) p n = some e → ac (addG g u v) g.1 n = some e → False := fun p n e hp' a b => by
    rw [add_old hp'] at a
    rw [add_new] at b
    by_cases c : u = n
    · rw [if_pos c] at b; cases b; rw [← c] at a; exact hp p hp' a
    · rw [if_neg c] at b
      by_cases d : v = n
      · rw [if_pos d] at b; cases b; rw [← d] at a; exact hp p hp' (ac_sym a)
      · rw [if_neg d] at b; cases b
  intro p q n e hp' hq' a b
  have hp' : p < g.1 + 1 := hp'
  have hq' : q < g.1 + 1 := hq'
  by_cases c : p = g.1
  · by_cases d : q = g.1
    · omega
    · rw [c] at a; exact (hx q n e (by omega) b a).elim
  · by_cases d : q = g.1
    · rw [d] at b; exact (hx p n e (by omega) a b).elim
    · rw [add_old (by omega)] at a b; exact h p q n e (by omega) (by omega) a b
theorem add_rch {g : Gr} {u v n : Nat} : Rch (addG g u v) u n ↔ Rch g u n ∨ Rch g v n := by
  have up : ∀ S : Nat → Prop, (∀ p m e, p < (addG g u v).1 → ac (addG g u v) p m = some e → S m → S e) → ∀ p m e, p < g.1 → ac g p m = some e → S m → S e := fun S hS p m e hp ha hm => hS p m e (by show p < g.1 + 1; omega) (by rw [add_old hp]; exact ha) hm
  constructor
  · intro h
    refine h (fun n => Rch g u n ∨ Rch g v n) (.inl (fun S h0 _ => h0)) (fun p m e hp ha hm => ?_)
    have hp : p < g.1 + 1 := hp
    by_cases c : p = g.1
    · rw [c, add_new] at ha
      by_cases c1 : u = m
      · rw [if_pos c1] at ha; cases ha; exact .inr (fun S h0 _ => h0)
      · rw [if_neg c1] at ha
        by_cases c2 : v = m
        · rw [if_pos c2] at ha; cases ha; exact .inl (fun S h0 _ => h0)
        · rw [if_neg c2] at ha; cases ha
    · rw [add_old (by omega)] at ha
      rcases hm with hm | hm
      · exact .inl (fun S h0 hS => hS p m e (by omega) ha (hm S h0 hS))
      · exact .inr (fun S h0 hS => hS p m e (by omega) ha (hm S h0 hS))
  · rintro (h | h) S h0 hS
    · exact h S h0 (up S hS)
    · refine h S ?_ (up S hS)
      refine hS g.1 u v (by show g.1 < g.1 + 1; omega) ?_ h0
      rw [add_new, if_pos rfl]
/-- pipes of a part are not more than its nodes: then each pipe has an end of its own -/
theorem add_own {g : Gr} (ho : Own g) {u v : Nat} (hg : WG (addG g u v)) {L : List Rec} (hT : Tre (addG g u v) u L) (hc : ((List.range (g.1 + 1)).filter (fun p => decide ((addG g u v).2.1 p ∈ nds L))).length ≤ (nds L).length) : Own (addG g u v) := by
  obtain ⟨φ, h1, h2⟩ := ho
  have hL := hT.1.1
  have hsr := hT.src.1
  have hmem : ∀ n, n ∈ (nds L).erase u ↔ n ≠ u ∧ n ∈ nds L := fun n => List.Nodup.mem_erase_iff hL
  have hu : ∀ n, n ≠ u ∧ n ∈ nds L → fp L n < g.1 + 1 ∧ (addG g u v).2.1 (fp L n) ∈ nds L := fun n ⟨a, b⟩ => by
    obtain ⟨u1, -, u3, u4⟩ := hT.up b a
    exact ⟨u3, (ac_conn hT hg u3 u4 u1).1⟩
  have uniq : ∀ p q, p < g.1 + 1 → q < g.1 + 1 → (addG g u v).2.1 p ∈ nds L → (addG g u v).2.1 q ∈ nds L → Off L u p → Off L u q → p = q := fun p q hp hq cp cq op oq => by
    apply Classical.byContradiction
    intro hne
    have hz : (p :: q :: ((nds L).erase u).map (fp L)).Nodup := by
      refine List.nodup_cons.mpr ⟨fun hx => ?_, List.nodup_cons.mpr ⟨fun hx => ?_, nodup_map (hL.erase u) (fun a ha b hb' e => ?_)⟩⟩
      · rcases List.mem_cons.mp hx with e | hx
        · exact hne e
        obtain ⟨n, hn, e⟩ := List.mem_map.mp hx
        obtain ⟨a, b⟩ := (hmem n).mp hn
        exact op n b a e
      · obtain ⟨n, hn, e⟩ := List.mem_map.mp hx
        obtain ⟨a, b⟩ := (hmem n).mp hn
        exact oq n b a e
      · obtain ⟨a1, a2⟩ := (hmem a).mp ha
        obtain ⟨b1, b2⟩ := (hmem b).mp hb'
        exact hT.inj a2 b2 a1 b1 e
    have hs : ∀ n ∈ p :: q :: ((nds L).erase u).map (fp L), n ∈ (List.range (g.1 + 1)).filter (fun p => decide ((addG g u v).2.1 p ∈ nds L)) := fun n hn => by
      rw [List.mem_filter, List.mem_range, decide_eq_true_eq]
      rcases List.mem_cons.mp hn with e | hn
      · rw [e]; exact ⟨hp, cp⟩
      rcases List.mem_cons.mp hn with e | hn
      · rw [e]; exact ⟨hq, cq⟩
      obtain ⟨m, hm, e⟩ := List.mem_map.mp hn
      rw [← e]
      exact hu m ((hmem m).mp hm)
    have := nodup_sub _ _ hz hs
    simp only [List.length_cons, List.length_map] at this
    rw [List.length_erase_of_mem hsr] at this
    have h0 : 0 < (nds L).length := List.length_pos_of_mem hsr
    omega
  obtain ⟨a, ha, hoff⟩ : ∃ a, a ∈ nds L ∧ ∀ p, p < g.1 + 1 → (addG g u v).2.1 p ∈ nds L → Off L u p → (addG g u v).2.1 p = a := by
    by_cases hx : ∃ p, p < g.1 + 1 ∧ (addG g u v).2.1 p ∈ nds L ∧ Off L u p
    · obtain ⟨p, p1, p2, p3⟩ := hx
      exact ⟨_, p2, fun q q1 q2 q3 => by rw [uniq p q p1 q1 p2 q2 p3 q3]⟩
    · exact ⟨u, hsr, fun p p1 p2 p3 => absurd ⟨p, p1, p2, p3⟩ hx⟩
  have hanc : ∀ k, k ≤ di L a → anc L a k ∈ nds L ∧ di L (anc L a k) + k = di L a := by
    intro k
    induction k with
    | zero => intro _; exact ⟨ha, rfl⟩
    | succ k ih =>
      intro hk
      obtain ⟨i1, i2⟩ := ih (by omega)
      have hne : anc L a k ≠ u := fun e => by
        have := hT.src.2
        rw [e] at i2
        omega
      obtain ⟨u1, u2, -, -⟩ := hT.up i1 hne
      exact ⟨u1, by show di L (fe L (anc L a k)) + (k + 1) = di L a; omega⟩
  let onP : Nat → Prop := fun x => ∃ k, k ≤ di L a ∧ x = anc L a k
  have onA : onP a := ⟨0, Nat.zero_le _, rfl⟩
  have onD : ∀ x, onP x → di L x ≤ di L a := fun x ⟨k, k1, k2⟩ => by
    have := (hanc k k1).2
    rw [k2]; omega
  have onF : ∀ x, x ≠ u → onP x → onP (fe L x) := fun x hx ⟨k, k1, k2⟩ => by
    have h1 := hanc k k1
    rw [← k2] at h1
    have : di L x ≠ 0 := fun e => hx (hT.up0 h1.1 e)
    exact ⟨k + 1, by omega, by show fe L x = fe L (anc L a k); rw [k2]⟩
  have onE : ∀ x y, onP x → onP y → di L x = di L y → x = y := fun x y ⟨k, k1, k2⟩ ⟨j, j1, j2⟩ e => by
    have h1 := (hanc k k1).2
    have h2 := (hanc j j1).2
    rw [← k2] at h1
    rw [← j2] at h2
    have : k = j := by omega
    rw [k2, j2, this]
  have key : ∀ p, p < g.1 + 1 → ∃ y, (y = (addG g u v).2.1 p ∨ y = (addG g u v).2.2 p) ∧ ((addG g u v).2.1 p ∈ nds L → y ∈ nds L ∧ ((∃ n, n ∈ nds L ∧ n ≠ u ∧ fp L n = p ∧ ((onP n ∧ y = fe L n) ∨ (¬ onP n ∧ y = n))) ∨ (Off L u p ∧ y = a))) ∧ ((addG g u v).2.1 p ∉ nds L → y ∉ nds L ∧ p < g.1 ∧ y = φ p) := fun p hp => by
    have he := ac_ends hg (p := p) hp
    by_cases cp : (addG g u v).2.1 p ∈ nds L
    · by_cases ct : Off L u p
      · exact ⟨a, .inl (hoff p hp cp ct).symm, fun _ => ⟨ha, .inr ⟨ct, rfl⟩⟩, fun q => absurd cp q⟩
      · have : ∃ n, n ∈ nds L ∧ n ≠ u ∧ fp L n = p := Classical.byContradiction fun w => ct (fun n hn h0 e => w ⟨n, hn, h0, e⟩)
        obtain ⟨n, n1, n2, n3⟩ := this
        obtain ⟨u1, -, -, u4⟩ := hT.up n1 n2
        rw [n3] at u4
        by_cases on : onP n
        · refine ⟨fe L n, ?_, fun _ => ⟨u1, .inl ⟨n, n1, n2, n3, .inl ⟨on, rfl⟩⟩⟩, fun q => absurd cp q⟩
          rcases ac_two u4 he.1 with ⟨q, -⟩ | ⟨q, -⟩
          · exact .inl q.symm
          · exact .inr q.symm
        · refine ⟨n, ?_, fun _ => ⟨n1, .inl ⟨n, n1, n2, n3, .inr ⟨on, rfl⟩⟩⟩, fun q => absurd cp q⟩
          rcases ac_two u4 he.1 with ⟨-, q⟩ | ⟨-, q⟩
          · exact .inr q.symm
          · exact .inl q.symm
    · have hp' : p < g.1 := by
        apply Classical.byContradiction
        intro w
        have : p = g.1 := by omega
        apply cp
        show (if p = g.1 then u else g.2.1 p) ∈ nds L
        rw [if_pos this]; exact hsr
      have e1 : (addG g u v).2.1 p = g.2.1 p := by
        show (if p = g.1 then u else g.2.1 p) = _
        rw [if_neg (by omega)]
      have e2 : (addG g u v).2.2 p = g.2.2 p := by
        show (if p = g.1 then v else g.2.2 p) = _
        rw [if_neg (by omega)]
      refine ⟨φ p, by rw [e1, e2]; exact h1 p hp', fun q => absurd q cp, fun _ => ⟨fun hy => cp ?_, hp', rfl⟩⟩
      rcases h1 p hp' with e | e
      · rw [e1, ← e]; exact hy
      · exact (ac_conn hT hg (p := p) hp he.2 (by rw [e2, ← e]; exact hy)).1
  have spec : ∀ p (h : p < g.1 + 1), _ := fun p h => (key p h).choose_spec
  refine ⟨fun p => if h : p < g.1 + 1 then (key p h).choose else 0, fun p hp => ?_, fun p q hp hq e => ?_⟩
  · have hp : p < g.1 + 1 := hp
    show (if h : p < g.1 + 1 then (key p h).choose else 0) = _ ∨ (if h : p < g.1 + 1 then (key p h).choose else 0) = _
    rw [dif_pos hp]
    exact (spec p hp).1
  · have hp : p < g.1 + 1 := hp
    have hq : q < g.1 + 1 := hq
    have e : (if h : p < g.1 + 1 then (key p h).choose else 0) = (if h : q < g.1 + 1 then (key q h).choose else 0) := e
    rw [dif_pos hp, dif_pos hq] at e
    obtain ⟨-, a2, a3⟩ := spec p hp
    obtain ⟨-, b2, b3⟩ := spec q hq
    generalize (key p hp).choose = y at e a2 a3
    generalize (key q hq).choose = z at e b2 b3
    subst e
    by_cases cp : (addG g u v).2.1 p ∈ nds L
    · by_cases cq : (addG g u v).2.1 q ∈ nds L
      · rcases (a2 cp).2 with ⟨n, n1, n2, n3, n4⟩ | ⟨n1, n2⟩
        · rcases (b2 cq).2 with ⟨m, m1, m2, m3, m4⟩ | ⟨m1, m2⟩
          · have un := (hT.up n1 n2).2.1
            have um := (hT.up m1 m2).2.1
            rcases n4 with ⟨x1, x2⟩ | ⟨x1, x2⟩
            · rcases m4 with ⟨y1, y2⟩ | ⟨y1, y2⟩
              · have : n = m := onE n m x1 y1 (by rw [un, um, ← x2, ← y2])
                rw [← n3, ← m3, this]
              · exact absurd (by rw [← y2, x2]; exact onF n n2 x1) y1
            · rcases m4 with ⟨y1, y2⟩ | ⟨y1, y2⟩
              · exact absurd (by rw [← x2, y2]; exact onF m m2 y1) x1
              · rw [← n3, ← m3, ← x2, ← y2]
          · have un := (hT.up n1 n2).2.1
            rcases n4 with ⟨x1, x2⟩ | ⟨x1, x2⟩
            · have := onD n x1
              rw [← x2, m2] at un
              omega
            · exact absurd (by rw [← x2, m2]; exact onA) x1
        · rcases (b2 cq).2 with ⟨m, m1, m2, m3, m4⟩ | ⟨m1, m2⟩
          · have um := (hT.up m1 m2).2.1
            rcases m4 with ⟨x1, x2⟩ | ⟨x1, x2⟩
            · have := onD m x1
              rw [← x2, n2] at um
              omega
            · exact absurd (by rw [← x2, n2]; exact onA) x1
          · exact uniq p q hp hq cp cq n1 m1
      · exact absurd (a2 cp).1 (b3 cq).1
    · by_cases cq : (addG g u v).2.1 q ∈ nds L
      · exact absurd (b2 cq).1 (a3 cp).1
      · obtain ⟨-, p1, p2⟩ := a3 cp
        obtain ⟨-, q1, q2⟩ := b3 cq
        exact h2 p q p1 q1 (by rw [← p2, ← q2])
