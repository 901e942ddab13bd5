/-! ===== the flows of the tree, gathered from the farthest nodes on ===== -/
def ixr : List Rec → Nat → Nat
  | [], _ => 0
  | r :: L, n => if r.1 = n then 0 else ixr L n + 1
theorem ixr_at : ∀ {L : List Rec} {i : Nat} {r : Rec}, (nds L).Nodup → L[i]? = some r → ixr L r.1 = i
  | [], i, r, _, h => by simp at h
  | q :: L, i, r, hn, h => by
    have hn' : q.1 ∉ nds L ∧ (nds L).Nodup := by simpa [nds] using hn
    cases i with
    | zero =>
      have : q = r := by simpa using h
      subst this
      show (if q.1 = q.1 then 0 else _) = 0
      rw [if_pos rfl]
    | succ i =>
      have h : L[i]? = some r := by simpa using h
      have hr : r.1 ∈ nds L := List.mem_map.mpr ⟨r, List.mem_of_getElem? h, rfl⟩
      have hne : ¬ q.1 = r.1 := fun e => hn'.1 (by rw [e]; exact hr)
      show (if q.1 = r.1 then 0 else ixr L r.1 + 1) = i + 1
      rw [if_neg hne, ixr_at hn'.2 h]
theorem ixr_get {g : Gr} {src : Nat} {L : List Rec} (h : Tre g src L) {n : Nat} (hn : n ∈ nds L) : L[ixr L n]? = some (n, fe L n, fp L n, di L n) := by
  obtain ⟨i, hi⟩ := h.get hn
  have : ixr L n = i := ixr_at h.1.1 hi
  rw [this]; exact hi
theorem ixr_lt {g : Gr} {src : Nat} {L : List Rec} (h : Tre g src L) {n : Nat} (hn : n ∈ nds L) : ixr L n < L.length := (List.getElem?_eq_some_iff.mp (ixr_get h hn)).1
theorem ixr_src {g : Gr} {src : Nat} {L : List Rec} (h : Tre g src L) : ixr L src = 0 := ixr_at h.1.1 h.2.1.1
theorem ixr_up {g : Gr} {src : Nat} {L : List Rec} (h : Tre g src L) {n : Nat} (hn : n ∈ nds L) (hs : n ≠ src) : ixr L (fe L n) < ixr L n := by
  have hg := ixr_get h hn
  have h0 : 0 < ixr L n := by
    apply Nat.pos_of_ne_zero
    intro q
    rw [q, h.2.1.1] at hg
    injection hg with hg
    exact hs (congrArg (fun r : Rec => r.1) hg).symm
  obtain ⟨-, j, f, h1, h2, h3⟩ := h.ix hg h0
  have h3 : f.1 = fe L n := h3
  rw [← h3, ixr_at h.1.1 h2]
  exact h1
theorem ixr_inj {g : Gr} {src : Nat} {L : List Rec} (h : Tre g src L) {n m : Nat} (hn : n ∈ nds L) (hm : m ∈ nds L) (e : ixr L n = ixr L m) : n = m := by
  have h1 := ixr_get h hn
  have h2 := ixr_get h hm
  rw [e, h2] at h1
  injection h1 with h1
  exact (congrArg (fun r : Rec => r.1) h1).symm
def ndAt (L : List Rec) (i : Nat) : Nat := ((L[i]?).map (fun r => r.1)).getD 0
theorem ndAt_some {L : List Rec} {i : Nat} {r : Rec} (h : L[i]? = some r) : ndAt L i = r.1 := by unfold ndAt; rw [h]; rfl
theorem ndAt_mem {L : List Rec} {i : Nat} (h : i < L.length) : ndAt L i ∈ nds L := by
  rw [ndAt_some (List.getElem?_eq_getElem h)]
  exact List.mem_map.mpr ⟨_, List.getElem_mem h, rfl⟩
theorem ndAt_ix {g : Gr} {src : Nat} {L : List Rec} (h : Tre g src L) {n : Nat} (hn : n ∈ nds L) : ndAt L (ixr L n) = n := ndAt_some (ixr_get h hn)
theorem ix_ndAt {g : Gr} {src : Nat} {L : List Rec} (h : Tre g src L) {i : Nat} (hi : i < L.length) : ixr L (ndAt L i) = i := by
  have e := List.getElem?_eq_getElem hi
  rw [ndAt_some e]
  exact ixr_at h.1.1 e
/-- the node to which the flow behind a node goes -/
def fd' (L : List Rec) (c : Lp) (n : Nat) : Nat := if (List.range c.1).any (fun i => decide (0 < i ∧ c.2.1 i = n)) then c.2.1 0 else fe L n
theorem fd'_T {L : List Rec} {c : Lp} {n : Nat} (h : inT c n) : fd' L c n = c.2.1 0 := by
  obtain ⟨i, i0, i1, i2⟩ := h
  unfold fd'
  rw [if_pos (List.any_eq_true.mpr ⟨i, List.mem_range.mpr i1, decide_eq_true ⟨i0, i2⟩⟩)]
theorem fd'_N {L : List Rec} {c : Lp} {n : Nat} (h : ¬ inT c n) : fd' L c n = fe L n := by
  unfold fd'
  rw [if_neg]
  intro q
  obtain ⟨i, i1, i2⟩ := List.any_eq_true.mp q
  obtain ⟨i0, i3⟩ := of_decide_eq_true i2
  exact h ⟨i, i0, List.mem_range.mp i1, i3⟩
theorem chain_ix {g : Gr} {L : List Rec} {c : Lp} (hT : Tre g 0 L) (h : LP0 g L c) (hg : WG g) {n : Nat} (ht : inT c n) : n ∈ nds L ∧ n ≠ 0 ∧ c.2.1 0 ∈ nds L ∧ ixr L (c.2.1 0) < ixr L n := by
  obtain ⟨i, i0, i1, i2⟩ := ht
  have hn : n ∈ nds L := by rw [← i2]; exact h.2.2.2.1 i i1
  have h0 := h.2.2.2.1 0 (by omega)
  have key : ∀ (d m : Nat), di L m ≤ d → inT c m → ixr L (c.2.1 0) < ixr L m := by
    intro d
    induction d with
    | zero =>
      intro m hd ⟨j, j0, j1, j2⟩
      have := h.2.2.2.2.1 j j0 j1
      rw [j2] at this
      omega
    | succ d ih =>
      intro m hd ⟨j, j0, j1, j2⟩
      have hlt := h.2.2.2.2.1 j j0 j1
      rw [j2] at hlt
      have hm : m ∈ nds L := by rw [← j2]; exact h.2.2.2.1 j j1
      have hm0 : m ≠ 0 := fun e => by rw [e, hT.src.2] at hlt; omega
      obtain ⟨u1, u2, u3, u4⟩ := hT.up hm hm0
      have hix := ixr_up hT hm hm0
      -- the feeder of a node of the loop is in the loop
      have hq : inQ c (fp L m) := by
        apply Classical.byContradiction
        intro w
        have hoff := h.off hg hT u3 (ac_sym u4) hm w
        rcases hoff with ⟨x1, x2, x3, x4, -⟩ | ⟨-, -, -, x4⟩
        · have := (hT.up x2 x1).2.1
          rw [x3] at this
          omega
        · exact x4 ⟨j, j0, j1, j2⟩
      obtain ⟨k, k1, k2⟩ := hq
      have hb := (h.2.1 k k1).2
      rw [k2] at hb
      have hf : inN c (fe L m) := by
        rcases ac_two hb u4 with ⟨q, -⟩ | ⟨-, q⟩
        · exact ⟨k, k1, q.symm⟩
        · exact ⟨nxt c k, nxt_lt k1, q.symm⟩
      by_cases hft : inT c (fe L m)
      · have := ih (fe L m) (by omega) hft
        omega
      · obtain ⟨-, e⟩ := inT_N hf hft
        rw [← e]; exact hix
  have d0 : n ≠ 0 := fun e => by
    have := h.2.2.2.2.1 i i0 i1
    rw [i2, e, hT.src.2] at this
    omega
  exact ⟨hn, d0, h0, key _ n (Nat.le_refl _) ⟨i, i0, i1, i2⟩⟩
theorem fd'_ix {g : Gr} {L : List Rec} {c : Lp} (hT : Tre g 0 L) (h : LP0 g L c) (hg : WG g) {n : Nat} (hn : n ∈ nds L) (h0 : n ≠ 0) : fd' L c n ∈ nds L ∧ ixr L (fd' L c n) < ixr L n := by
  by_cases ht : inT c n
  · rw [fd'_T ht]
    obtain ⟨-, -, a, b⟩ := chain_ix hT h hg ht
    exact ⟨a, b⟩
  · rw [fd'_N ht]
    exact ⟨(hT.up hn h0).1, ixr_up hT hn h0⟩
def tmI (g : Gr) (L : List Rec) (c : Lp) (i : Nat) (F : Nat → Nat) (n p : Nat) : Nat := match ac g p n with
  | some e => if qB c p = true ∨ di L e ≤ di L n ∨ ixr L e ≤ i then 0 else F e
  | none => 0
/-- the nodes behind place i have given their flow on -/
def TF (g : Gr) (L : List Rec) (c : Lp) (dr : Nat → Nat) (i : Nat) (F : Nat → Nat) : Prop :=
  (∀ n, n ∈ nds L → F n = dr n + smN (tmI g L c i F n) g.1 + if 0 < c.1 ∧ c.2.1 0 = n then smN (fun k => if k = 0 ∨ ixr L (c.2.1 k) ≤ i then 0 else F (c.2.1 k)) c.1 else 0) ∧
  smN (fun j => F (ndAt L j)) (i + 1) ≤ 9990 ∧
  (∀ n, n ∈ nds L → i < ixr L n → F n ≤ 9990)
theorem TF.start {g : Gr} {L : List Rec} {c : Lp} {dr : Nat → Nat} (hT : Tre g 0 L) (h : LP0 g L c) (hd : ∀ n, n < 10 → dr n ≤ 999) : TF g L c dr (L.length - 1) dr := by
  have hpos : 0 < L.length := (List.getElem?_eq_some_iff.mp hT.2.1.1).1
  have hlen := hT.1.len
  refine ⟨fun n hn => ?_, ?_, fun n hn hi => ?_⟩
  · have e1 : smN (tmI g L c (L.length - 1) dr n) g.1 = 0 := smN_0 (fun p hp => by
      unfold tmI
      cases e : ac g p n with
      | none => rfl
      | some y =>
        have := ixr_lt hT (hT.2.2 n p y hn hp e)
        show (if qB c p = true ∨ di L y ≤ di L n ∨ ixr L y ≤ L.length - 1 then 0 else dr y) = 0
        rw [if_pos (.inr (.inr (by omega)))])
    have e2 : smN (fun k => if k = 0 ∨ ixr L (c.2.1 k) ≤ L.length - 1 then 0 else dr (c.2.1 k)) c.1 = 0 := smN_0 (fun k hk => by
      have := ixr_lt hT (h.2.2.2.1 k hk)
      rw [if_pos (.inr (by omega))])
    rw [e1, e2]
    split <;> rfl
  · have := smN_le (f := fun j => dr (ndAt L j)) (B := 999) (n := L.length - 1 + 1) (fun k hk => hd _ (hT.lt (ndAt_mem (by omega))))
    have h2 : (L.length - 1 + 1) * 999 ≤ 10 * 999 := Nat.mul_le_mul_right _ (by omega)
    omega
  · have := ixr_lt hT hn
    omega
theorem TF.step {g : Gr} {L : List Rec} {c : Lp} {dr F : Nat → Nat} {i : Nat} (hg : WG g) (hT : Tre g 0 L) (h : LP0 g L c) (hi0 : 0 < i) (hi : i < L.length) (hF : TF g L c dr i F) : TF g L c dr (i - 1) (fun n => if n = fd' L c (ndAt L i) then F (fd' L c (ndAt L i)) + F (ndAt L i) else F n) := by
  obtain ⟨h1, h2, h3⟩ := hF
  have hm := ndAt_mem hi
  have him := ix_ndAt hT hi
  generalize ndAt L i = m at hm him
  have hm0 : m ≠ 0 := fun e => by rw [e, ixr_src hT] at him; omega
  obtain ⟨f1, f2⟩ := fd'_ix hT h hg hm hm0
  have hfT : ∀ hn : inT c m, fd' L c m = c.2.1 0 := fun q => fd'_T q
  have hfN : ¬ inT c m → fd' L c m = fe L m := fun q => fd'_N q
  generalize fd' L c m = f at f1 f2 hfT hfN
  have hfm : f ≠ m := fun e => by rw [e] at f2; omega
  have F'e : ∀ e, e ∈ nds L → i - 1 < ixr L e → (fun n => if n = f then F f + F m else F n) e = F e := fun e he hx => by
    have : e ≠ f := fun q => by rw [q] at hx; omega
    show (if e = f then _ else F e) = F e
    rw [if_neg this]
  -- the terms of the pipes
  have tmE : ∀ n p, n ∈ nds L → p < g.1 → tmI g L c (i - 1) (fun n => if n = f then F f + F m else F n) n p = if ac g p n = some m ∧ ¬ qB c p = true ∧ ¬ di L m ≤ di L n then F m else tmI g L c i F n p := fun n p hn hp => by
    unfold tmI
    cases e : ac g p n with
    | none => rw [if_neg (fun q => by cases q.1)]
    | some y =>
      have hy := hT.2.2 n p y hn hp e
      show (if qB c p = true ∨ di L y ≤ di L n ∨ ixr L y ≤ i - 1 then 0 else (fun n => if n = f then F f + F m else F n) y) = if some y = some m ∧ ¬ qB c p = true ∧ ¬ di L m ≤ di L n then F m else if qB c p = true ∨ di L y ≤ di L n ∨ ixr L y ≤ i then 0 else F y
      by_cases ym : y = m
      · subst ym
        by_cases c1 : qB c p = true ∨ di L y ≤ di L n
        · rw [if_pos (by rcases c1 with q | q; exact .inl q; exact .inr (.inl q)), if_neg (by rintro ⟨-, q2, q3⟩; rcases c1 with q | q; exact q2 q; exact q3 q), if_pos (by rcases c1 with q | q; exact .inl q; exact .inr (.inl q))]
        · rw [if_neg (by rintro (q | q | q); exact c1 (.inl q); exact c1 (.inr q); omega), F'e y hy (by omega), if_pos ⟨rfl, fun q => c1 (.inl q), fun q => c1 (.inr q)⟩]
      · have hix : ixr L y ≠ i := fun q => ym (ixr_inj hT hy hm (by rw [q, him]))
        have hno : ¬ (some y = some m ∧ ¬ qB c p = true ∧ ¬ di L m ≤ di L n) := fun q => by
          have := q.1
          injection this with this
          exact ym this
        rw [if_neg hno]
        by_cases c1 : qB c p = true ∨ di L y ≤ di L n ∨ ixr L y ≤ i
        · rw [if_pos c1, if_pos (by rcases c1 with q | q | q; exact .inl q; exact .inr (.inl q); exact .inr (.inr (by omega)))]
        · rw [if_neg c1, if_neg (by rintro (q | q | q); exact c1 (.inl q); exact c1 (.inr (.inl q)); exact c1 (.inr (.inr (by omega)))), F'e y hy (by
            apply Classical.byContradiction
            intro w
            exact c1 (.inr (.inr (by omega))))]
  -- which term is m's
  have own : ∀ n p, n ∈ nds L → p < g.1 → ac g p n = some m → ¬ qB c p = true → ¬ di L m ≤ di L n → ¬ inT c m ∧ n = fe L m ∧ p = fp L m := fun n p hn hp ha hq hd => by
    rcases h.off hg hT hp ha hn (fun q => hq (qB_iff.mpr q)) with ⟨x1, x2, x3, x4, x5⟩ | ⟨x1, x2, -, -⟩
    · exact ⟨x5, x3.symm, x4.symm⟩
    · have := (hT.up hn x1).2.1
      rw [x2] at this
      omega
  have kE : ∀ k, k < c.1 → k ≠ 0 → c.2.1 k ∈ nds L ∧ (if k = 0 ∨ ixr L (c.2.1 k) ≤ i - 1 then 0 else (fun n => if n = f then F f + F m else F n) (c.2.1 k)) = if c.2.1 k = m then F m else if k = 0 ∨ ixr L (c.2.1 k) ≤ i then 0 else F (c.2.1 k) := fun k hk k0 => by
    have hy := h.2.2.2.1 k hk
    refine ⟨hy, ?_⟩
    generalize c.2.1 k = y at hy
    by_cases ym : y = m
    · subst ym
      rw [if_pos rfl, if_neg (by rintro (q | q); exact k0 q; omega), F'e y hy (by omega)]
    · have hix : ixr L y ≠ i := fun q => ym (ixr_inj hT hy hm (by rw [q, him]))
      rw [if_neg ym]
      by_cases c1 : ixr L y ≤ i
      · rw [if_pos (.inr (by omega)), if_pos (.inr c1)]
      · rw [if_neg (by rintro (q | q); exact k0 q; omega), if_neg (by rintro (q | q); exact k0 q; exact c1 q), F'e y hy (by omega)]
  refine ⟨fun n hn => ?_, ?_, fun n hn hx => ?_⟩
  · have h1n := h1 n hn
    by_cases ht : inT c m
    · have ef := hfT ht
      have e1 : smN (tmI g L c (i - 1) (fun n => if n = f then F f + F m else F n) n) g.1 = smN (tmI g L c i F n) g.1 := smN_congr (fun p hp => by
        rw [tmE n p hn hp, if_neg]
        rintro ⟨q1, q2, q3⟩
        exact (own n p hn hp q1 q2 q3).1 ht)
      rw [e1]
      obtain ⟨k, k0, k1, k2⟩ := ht
      by_cases q : 0 < c.1 ∧ c.2.1 0 = n
      · rw [if_pos q] at h1n ⊢
        show (if n = f then F f + F m else F n) = _
        have enf : n = f := by rw [ef, q.2]
        rw [if_pos enf]
        have e3 : smN (fun k => if k = 0 ∨ ixr L (c.2.1 k) ≤ i - 1 then 0 else (fun n => if n = f then F f + F m else F n) (c.2.1 k)) c.1 = smN (fun k => if k = 0 ∨ ixr L (c.2.1 k) ≤ i then 0 else F (c.2.1 k)) c.1 + F m := by
          refine smN_upd (p := k) k1 (fun j hj hne => ?_) ?_
          · by_cases j0 : j = 0
            · rw [if_pos (.inl j0), if_pos (.inl j0)]
            · rw [(kE j hj j0).2, if_neg (fun e => hne (h.1 j k hj k1 (by rw [e, k2])))]
          · rw [(kE k k1 (by omega)).2, if_pos k2, if_pos (.inr (by rw [k2, him]; exact Nat.le_refl i)), Nat.zero_add]
        rw [e3, ← enf, h1n]
        omega
      · rw [if_neg q] at h1n ⊢
        show (if n = f then F f + F m else F n) = _
        rw [if_neg (fun e => q ⟨by omega, by rw [e, ef]⟩)]
        exact h1n
    · have ef := hfN ht
      obtain ⟨u1, u2, u3, u4⟩ := hT.up hm hm0
      have hqm : ¬ qB c (fp L m) = true := fun q => h.2.2.2.2.2.2 m hm hm0 ht (qB_iff.mp q)
      have e2 : (if 0 < c.1 ∧ c.2.1 0 = n then smN (fun k => if k = 0 ∨ ixr L (c.2.1 k) ≤ i - 1 then 0 else (fun n => if n = f then F f + F m else F n) (c.2.1 k)) c.1 else 0) = (if 0 < c.1 ∧ c.2.1 0 = n then smN (fun k => if k = 0 ∨ ixr L (c.2.1 k) ≤ i then 0 else F (c.2.1 k)) c.1 else 0) := by
        congr 1
        refine smN_congr (fun k hk => ?_)
        by_cases k0 : k = 0
        · rw [if_pos (.inl k0), if_pos (.inl k0)]
        · rw [(kE k hk k0).2, if_neg (fun e => ht ⟨k, by omega, hk, e⟩)]
      rw [e2]
      show (if n = f then F f + F m else F n) = _
      by_cases enf : n = f
      · have e3 : smN (tmI g L c (i - 1) (fun n => if n = f then F f + F m else F n) n) g.1 = smN (tmI g L c i F n) g.1 + F m := by
          refine smN_upd (p := fp L m) u3 (fun p hp hne => ?_) ?_
          · rw [tmE n p hn hp, if_neg]
            rintro ⟨q1, q2, q3⟩
            exact hne (own n p hn hp q1 q2 q3).2.2
          have enfe : n = fe L m := by rw [enf, ef]
          have hac : ac g (fp L m) n = some m := by rw [enfe]; exact u4
          rw [tmE n _ hn u3, if_pos ⟨hac, hqm, by rw [enfe]; omega⟩]
          unfold tmI
          rw [hac]
          show _ = (if qB c (fp L m) = true ∨ di L m ≤ di L n ∨ ixr L m ≤ i then 0 else F m) + F m
          rw [if_pos (.inr (.inr (by omega)))]
          omega
        rw [if_pos enf, e3, ← enf, h1n]
        omega
      · rw [if_neg enf]
        have e1 : smN (tmI g L c (i - 1) (fun n => if n = f then F f + F m else F n) n) g.1 = smN (tmI g L c i F n) g.1 := smN_congr (fun p hp => by
          rw [tmE n p hn hp, if_neg]
          rintro ⟨q1, q2, q3⟩
          exact enf (by rw [(own n p hn hp q1 q2 q3).2.1, ef]))
        rw [e1]
        exact h1n
  · rw [show i - 1 + 1 = i by omega]
    have hj : ndAt L (ixr L f) = f := ndAt_ix hT f1
    have e : smN (fun j => (fun n => if n = f then F f + F m else F n) (ndAt L j)) i = smN (fun j => F (ndAt L j)) i + F m := by
      refine smN_upd (p := ixr L f) (by omega) (fun k hk hne => ?_) ?_
      · show (if ndAt L k = f then F f + F m else F (ndAt L k)) = F (ndAt L k)
        rw [if_neg (fun q => hne (by rw [← q, ix_ndAt hT (by omega)]))]
      · show (if ndAt L (ixr L f) = f then F f + F m else F (ndAt L (ixr L f))) = F (ndAt L (ixr L f)) + F m
        rw [hj, if_pos rfl]
    rw [e]
    have : smN (fun j => F (ndAt L j)) (i + 1) = smN (fun j => F (ndAt L j)) i + F (ndAt L i) := rfl
    rw [this] at h2
    have hmi : ndAt L i = m := by
      have := ndAt_ix hT hm
      rw [him] at this
      exact this
    rw [hmi] at h2
    exact h2
  · rw [F'e n hn hx]
    by_cases q : ixr L n = i
    · have : n = m := ixr_inj hT hn hm (by rw [q, him])
      have hmi : ndAt L i = m := by
        have := ndAt_ix hT hm
        rw [him] at this
        exact this
      have := smN_ge (f := fun j => F (ndAt L j)) (p := i) (n := i + 1) (by omega)
      have this : F (ndAt L i) ≤ _ := this
      rw [hmi] at this
      rw [‹n = m›]
      omega
    · exact h3 n hn (by omega)
theorem TF.done {g : Gr} {L : List Rec} {c : Lp} {dr F : Nat → Nat} (hg : WG g) (hT : Tre g 0 L) (h : LP0 g L c) (hF : TF g L c dr 0 F) : EqB g L c dr F ∧ ∀ n, n ∈ nds L → F n ≤ 9990 := by
  obtain ⟨h1, h2, h3⟩ := hF
  have ix0 : ∀ e, e ∈ nds L → e ≠ 0 → 0 < ixr L e := fun e he h0 => by
    have := ixr_up hT he h0
    omega
  have tmE : ∀ n, n ∈ nds L → smN (tmI g L c 0 F n) g.1 = smN (tm g L c F n) g.1 := fun n hn => smN_congr (fun p hp => by
    unfold tmI tm
    cases e : ac g p n with
    | none => rfl
    | some y =>
      have hy := hT.2.2 n p y hn hp e
      show (if qB c p = true ∨ di L y ≤ di L n ∨ ixr L y ≤ 0 then 0 else F y) = if qB c p = true ∨ di L y ≤ di L n then 0 else F y
      by_cases q : qB c p = true ∨ di L y ≤ di L n
      · rw [if_pos q, if_pos (by rcases q with q | q; exact .inl q; exact .inr (.inl q))]
      · rw [if_neg q, if_neg]
        rintro (z | z | z)
        · exact q (.inl z)
        · exact q (.inr z)
        · have y0 : y ≠ 0 := fun e0 => q (.inr (by rw [e0, hT.src.2]; exact Nat.zero_le _))
          have := ix0 y hy y0
          omega)
  refine ⟨fun n hn => ?_, fun n hn => ?_⟩
  · rw [h1 n hn, tmE n hn]
    show outF g L c dr F n + _ = outF g L c dr F n + _
    congr 1
    by_cases q : 0 < c.1 ∧ c.2.1 0 = n
    · rw [if_pos q, if_pos q]
      refine smN_congr (fun k hk => ?_)
      by_cases k0 : k = 0
      · rw [if_pos (.inl k0), if_pos k0]
      · obtain ⟨t1, t2, -, -⟩ := chain_ix hT h hg (n := c.2.1 k) ⟨k, by omega, hk, rfl⟩
        have hx := ix0 _ t1 t2
        rw [if_neg (by rintro (z | z); exact k0 z; omega), if_neg k0, h1 _ t1, tmE _ t1, if_neg]
        · rfl
        · intro w
          have := h.1 0 k (by omega) hk w.2
          omega
    · rw [if_neg q, if_neg q]
  · by_cases q : n = 0
    · have h2 : smN (fun j => F (ndAt L j)) 0 + F (ndAt L 0) ≤ 9990 := h2
      rw [ndAt_some hT.2.1.1] at h2
      rw [q]
      have h2 : 0 + F 0 ≤ 9990 := h2
      omega
    · exact h3 n hn (ix0 n hn q)
