/-! ===== the tree of the search ===== -/
def fe (L : List Rec) (n : Nat) : Nat := ((rOf L n).map (fun r => r.2.1)).getD 0
def fp (L : List Rec) (n : Nat) : Nat := ((rOf L n).map (fun r => r.2.2.1)).getD 0
def di (L : List Rec) (n : Nat) : Nat := ((rOf L n).map (fun r => r.2.2.2)).getD 0
/-- each record but the first goes on from one before it -/
def TrL (g : Gr) (src : Nat) (L : List Rec) : Prop := L[0]? = some (src, 0, 0, 0) ∧ ∀ (i : Nat) (r : Rec), 0 < i → L[i]? = some r → ∃ (j : Nat) (f : Rec), j < i ∧ L[j]? = some f ∧ r.2.1 = f.1 ∧ r.2.2.2 = f.2.2.2 + 1 ∧ r.2.2.1 < g.1 ∧ ac g r.2.2.1 f.1 = some r.1
theorem get_app {α : Type} {L M : List α} {i : Nat} {r : α} (h : L[i]? = some r) : (L ++ M)[i]? = some r := by
  rw [List.getElem?_append_left (List.getElem?_eq_some_iff.mp h).1]; exact h
theorem get_app1 {α : Type} {L : List α} {q : α} {i : Nat} {r : α} (h : (L ++ [q])[i]? = some r) : L[i]? = some r ∨ (i = L.length ∧ r = q) := by
  by_cases c : i < L.length
  · rw [List.getElem?_append_left c] at h; exact .inl h
  · rw [List.getElem?_append_right (by omega)] at h
    have hz : i - L.length < 1 := (List.getElem?_eq_some_iff.mp h).1
    rw [show i - L.length = 0 by omega] at h
    cases h
    exact .inr ⟨by omega, rfl⟩
theorem bp_get {g : Gr} {n dn k i : Nat} {L : List Rec} {r : Rec} (h : L[i]? = some r) : (bp g n dn k L)[i]? = some r := by
  obtain ⟨M, hM⟩ := bp_pre g n dn L k
  rw [hM]; exact get_app h
theorem bp_mem {g : Gr} {n dn k m : Nat} {L : List Rec} (h : m ∈ nds L) : m ∈ nds (bp g n dn k L) := by
  obtain ⟨M, hM⟩ := bp_pre g n dn L k
  rw [hM]
  simp only [nds, List.map_append, List.mem_append]
  exact .inl h
theorem TrL.app {g : Gr} {src : Nat} {L : List Rec} (h : TrL g src L) {i : Nat} {f : Rec} {e k : Nat} (hi : L[i]? = some f) (hk : k < g.1) (ha : ac g k f.1 = some e) : TrL g src (L ++ [(e, f.1, k, f.2.2.2 + 1)]) := by
  refine ⟨get_app h.1, fun j r hj hr => ?_⟩
  rcases get_app1 hr with c | ⟨c, d⟩
  · obtain ⟨j', f', h1, h2, h3⟩ := h.2 j r hj c
    exact ⟨j', f', h1, get_app h2, h3⟩
  · subst d
    exact ⟨i, f, by have := (List.getElem?_eq_some_iff.mp hi).1; omega, get_app hi, rfl, rfl, hk, ha⟩
theorem bp_tr {g : Gr} {src i : Nat} {f : Rec} {L : List Rec} (h : TrL g src L) (hi : L[i]? = some f) : ∀ k, k ≤ g.1 → TrL g src (bp g f.1 f.2.2.2 k L)
  | 0, _ => h
  | k + 1, hk => by
    have ih := bp_tr h hi k (by omega)
    cases e : ac g k f.1 with
    | none => rw [bp_none e]; exact ih
    | some e' =>
      by_cases c : e' ∈ nds (bp g f.1 f.2.2.2 k L)
      · rw [bp_old e c]; exact ih
      · rw [bp_new e c]; exact ih.app (bp_get hi) (by omega) e
theorem bs_cases (g : Gr) (src i : Nat) : ((bs g src i)[i]? = none ∧ bs g src (i + 1) = bs g src i) ∨ ∃ r, (bs g src i)[i]? = some r ∧ bs g src (i + 1) = bp g r.1 r.2.2.2 g.1 (bs g src i) := by
  cases e : (bs g src i)[i]? with
  | none =>
    refine .inl ⟨rfl, ?_⟩
    show (match (bs g src i)[i]? with
      | some r => bp g r.1 r.2.2.2 g.1 (bs g src i)
      | none => bs g src i) = _
    rw [e]
  | some r => exact .inr ⟨r, rfl, bs_step e⟩
theorem bs_tr {g : Gr} {src : Nat} : ∀ i, TrL g src (bs g src i)
  | 0 => ⟨rfl, fun i r hi h => by
    have hz : i < 1 := (List.getElem?_eq_some_iff.mp h).1
    omega⟩
  | i + 1 => by
    rcases bs_cases g src i with ⟨-, h⟩ | ⟨r, hr, h⟩
    · rw [h]; exact bs_tr i
    · rw [h]; exact bp_tr (bs_tr i) hr g.1 (Nat.le_refl _)
theorem bp_cl {g : Gr} {n dn : Nat} {L : List Rec} : ∀ (k p e : Nat), p < k → ac g p n = some e → e ∈ nds (bp g n dn k L)
  | 0, p, e, hp, _ => absurd hp (Nat.not_lt_zero p)
  | k + 1, p, e, hp, he => by
    have hs : e ∈ nds (bp g n dn k L) → e ∈ nds (bp g n dn (k + 1) L) := by
      intro hm
      cases e1 : ac g k n with
      | none => rw [bp_none e1]; exact hm
      | some e' =>
        by_cases c : e' ∈ nds (bp g n dn k L)
        · rw [bp_old e1 c]; exact hm
        · rw [bp_new e1 c, nds_app]; exact List.mem_append.mpr (.inl hm)
    by_cases c : p < k
    · exact hs (bp_cl k p e c he)
    · have : p = k := by omega
      subst this
      by_cases d : e ∈ nds (bp g n dn p L)
      · exact hs d
      · rw [bp_new he d, nds_app]; exact List.mem_append.mpr (.inr (by simp))
theorem bs_cl {g : Gr} {src : Nat} : ∀ (i j : Nat) (r : Rec) (p e : Nat), j < i → (bs g src i)[j]? = some r → p < g.1 → ac g p r.1 = some e → e ∈ nds (bs g src i)
  | 0, j, _, _, _, hj, _, _, _ => absurd hj (Nat.not_lt_zero j)
  | i + 1, j, r, p, e, hj, hr, hp, he => by
    rcases bs_cases g src i with ⟨h0, h⟩ | ⟨r0, h0, h⟩
    · rw [h] at hr ⊢
      by_cases c : j < i
      · exact bs_cl i j r p e c hr hp he
      · have : j = i := by omega
        rw [this, h0] at hr; cases hr
    · rw [h] at hr ⊢
      by_cases c : j < i
      · have hl : j < (bs g src i).length := by have := (List.getElem?_eq_some_iff.mp h0).1; omega
        obtain ⟨q, hq⟩ : ∃ q, (bs g src i)[j]? = some q := ⟨_, List.getElem?_eq_getElem hl⟩
        rw [bp_get hq] at hr
        cases hr
        exact bp_mem (bs_cl i j r p e c hq hp he)
      · have : j = i := by omega
        subst this
        rw [bp_get h0] at hr
        cases hr
        exact bp_cl g.1 p e hp he
/-- what a search from src has found: its records and that nothing leads out -/
def Tre (g : Gr) (src : Nat) (L : List Rec) : Prop := OkL L ∧ TrL g src L ∧ (∀ n p e, n ∈ nds L → p < g.1 → ac g p n = some e → e ∈ nds L)
theorem bfs_tre {g : Gr} (hg : WG g) {src : Nat} (hs : src < 10) : Tre g src (bfs g src) := by
  refine ⟨bs_ok hg hs 10, bs_tr 10, fun n p e hn hp he => ?_⟩
  obtain ⟨r, hr, e1⟩ := List.mem_map.mp hn
  obtain ⟨i, hi⟩ := List.getElem?_of_mem hr
  have h1 := (List.getElem?_eq_some_iff.mp hi).1
  have h2 := (bs_ok hg hs 10).len
  exact bs_cl 10 i r p e (by unfold bfs at h1; omega) hi hp (by rw [e1]; exact he)
theorem Tre.at {g : Gr} {src : Nat} {L : List Rec} (h : Tre g src L) {i : Nat} {r : Rec} (hi : L[i]? = some r) : r.1 ∈ nds L ∧ fe L r.1 = r.2.1 ∧ fp L r.1 = r.2.2.1 ∧ di L r.1 = r.2.2.2 := by
  have h1 := rOf_get h.1.1 hi
  refine ⟨List.mem_map.mpr ⟨r, List.mem_of_getElem? hi, rfl⟩, ?_, ?_, ?_⟩
  · unfold fe; rw [h1]; rfl
  · unfold fp; rw [h1]; rfl
  · unfold di; rw [h1]; rfl
theorem Tre.get {g : Gr} {src : Nat} {L : List Rec} (h : Tre g src L) {n : Nat} (hn : n ∈ nds L) : ∃ i : Nat, L[i]? = some (n, fe L n, fp L n, di L n) := by
  obtain ⟨r, hr, e⟩ := List.mem_map.mp hn
  obtain ⟨i, hi⟩ := List.getElem?_of_mem hr
  obtain ⟨-, h1, h2, h3⟩ := h.at hi
  rw [← e]
  refine ⟨i, ?_⟩
  rw [hi, h1, h2, h3]
theorem Tre.src {g : Gr} {src : Nat} {L : List Rec} (h : Tre g src L) : src ∈ nds L ∧ di L src = 0 := by
  obtain ⟨h1, -, -, h2⟩ := h.at h.2.1.1
  exact ⟨h1, h2⟩
theorem Tre.lt {g : Gr} {src : Nat} {L : List Rec} (h : Tre g src L) {n : Nat} (hn : n ∈ nds L) : n < 10 := h.1.2 n hn
theorem Tre.up {g : Gr} {src : Nat} {L : List Rec} (h : Tre g src L) {n : Nat} (hn : n ∈ nds L) (hs : n ≠ src) : fe L n ∈ nds L ∧ di L n = di L (fe L n) + 1 ∧ fp L n < g.1 ∧ ac g (fp L n) (fe L n) = some n := by
  obtain ⟨i, hi⟩ := h.get hn
  have h0 : 0 < i := by
    apply Nat.pos_of_ne_zero
    intro q
    rw [q, h.2.1.1] at hi
    injection hi with hi
    exact hs (congrArg (fun r : Rec => r.1) hi).symm
  obtain ⟨j, f, -, h2, h3, h4, h5, h6⟩ := h.2.1.2 i _ h0 hi
  obtain ⟨a1, -, -, a4⟩ := h.at h2
  have h3 : fe L n = f.1 := h3
  have h4 : di L n = f.2.2.2 + 1 := h4
  have h5 : fp L n < g.1 := h5
  have h6 : ac g (fp L n) f.1 = some n := h6
  rw [h3]
  exact ⟨a1, by rw [h4, a4], h5, h6⟩
theorem Tre.up0 {g : Gr} {src : Nat} {L : List Rec} (h : Tre g src L) {n : Nat} (hn : n ∈ nds L) (hd : di L n = 0) : n = src := by
  apply Classical.byContradiction
  intro q
  have := (h.up hn q).2.1
  omega
/-- a place in the order: that of the feeder is less -/
theorem Tre.ix {g : Gr} {src : Nat} {L : List Rec} (h : Tre g src L) {i : Nat} {r : Rec} (hi : L[i]? = some r) (h0 : 0 < i) : r.1 ≠ src ∧ ∃ (j : Nat) (f : Rec), j < i ∧ L[j]? = some f ∧ f.1 = fe L r.1 := by
  obtain ⟨j, f, h1, h2, h3, h4, -, -⟩ := h.2.1.2 i r h0 hi
  obtain ⟨-, a2, -, a4⟩ := h.at hi
  refine ⟨fun q => ?_, j, f, h1, h2, by rw [a2, h3]⟩
  rw [q, h.src.2] at a4
  omega
theorem ac_two {g : Gr} {p x y u v : Nat} (h : ac g p x = some y) (k : ac g p u = some v) : (u = x ∧ v = y) ∨ (v = x ∧ u = y) := by
  unfold ac at h k
  by_cases c : g.2.1 p = x
  · rw [if_pos c] at h; cases h
    by_cases d : g.2.1 p = u
    · rw [if_pos d] at k; cases k; exact .inl ⟨by omega, rfl⟩
    · rw [if_neg d] at k
      by_cases e : g.2.2 p = u
      · rw [if_pos e] at k; cases k; exact .inr ⟨c, e.symm⟩
      · rw [if_neg e] at k; cases k
  · rw [if_neg c] at h
    by_cases c' : g.2.2 p = x
    · rw [if_pos c'] at h; cases h
      by_cases d : g.2.1 p = u
      · rw [if_pos d] at k; cases k; exact .inr ⟨c', d.symm⟩
      · rw [if_neg d] at k
        by_cases e : g.2.2 p = u
        · rw [if_pos e] at k; cases k; exact .inl ⟨by omega, rfl⟩
        · rw [if_neg e] at k; cases k
    · rw [if_neg c'] at h; cases h
theorem ac_ends {g : Gr} (hg : WG g) {p : Nat} (hp : p < g.1) : ac g p (g.2.1 p) = some (g.2.2 p) ∧ ac g p (g.2.2 p) = some (g.2.1 p) := by
  have h : ac g p (g.2.1 p) = some (g.2.2 p) := by unfold ac; rw [if_pos rfl]
  exact ⟨h, ac_sym h⟩
theorem ac_conn {g : Gr} {src : Nat} {L : List Rec} (h : Tre g src L) (hg : WG g) {p n e : Nat} (hp : p < g.1) (ha : ac g p n = some e) (hn : n ∈ nds L) : g.2.1 p ∈ nds L ∧ g.2.2 p ∈ nds L := by
  have he := h.2.2 n p e hn hp ha
  rcases ac_two ha (ac_ends hg hp).1 with ⟨a, b⟩ | ⟨a, b⟩
  · rw [a, b]; exact ⟨hn, he⟩
  · rw [a, b]; exact ⟨he, hn⟩
theorem Tre.inj {g : Gr} {src : Nat} {L : List Rec} (h : Tre g src L) {n m : Nat} (hn : n ∈ nds L) (hm : m ∈ nds L) (h0 : n ≠ src) (h1 : m ≠ src) (e : fp L n = fp L m) : n = m := by
  obtain ⟨-, a2, -, a4⟩ := h.up hn h0
  obtain ⟨-, b2, -, b4⟩ := h.up hm h1
  rw [e] at a4
  rcases ac_two a4 b4 with ⟨-, q⟩ | ⟨q, q'⟩
  · exact q.symm
  · rw [← q] at a2; rw [q'] at b2; omega
/-- reached: in every set that holds the start and that no pipe leaves -/
def Rch (g : Gr) (s n : Nat) : Prop := ∀ S : Nat → Prop, S s → (∀ p m e, p < g.1 → ac g p m = some e → S m → S e) → S n
theorem TrL.rch {g : Gr} {src : Nat} {L : List Rec} (h : TrL g src L) : ∀ (i : Nat) (r : Rec), L[i]? = some r → Rch g src r.1 := by
  intro i
  induction i using Nat.strongRecOn with
  | ind i ih =>
    intro r hr S h0 hS
    rcases Nat.eq_zero_or_pos i with c | c
    · rw [c, h.1] at hr; cases hr; exact h0
    · obtain ⟨j, f, h1, h2, -, -, h5, h6⟩ := h.2 i r c hr
      exact hS _ _ _ h5 h6 (ih j h1 f h2 S h0 hS)
theorem Tre.rch {g : Gr} {src : Nat} {L : List Rec} (h : Tre g src L) (n : Nat) : n ∈ nds L ↔ Rch g src n := by
  refine ⟨fun hn => ?_, fun hr => hr (fun m => m ∈ nds L) h.src.1 (fun p m e hp he hm => h.2.2 m p e hm hp he)⟩
  obtain ⟨i, hi⟩ := h.get hn
  exact h.2.1.rch i _ hi
/-! ===== at most one loop ===== -/
theorem nodup_sub : ∀ (l m : List Nat), l.Nodup → (∀ n ∈ l, n ∈ m) → l.length ≤ m.length
  | [], m, _, _ => Nat.zero_le _
  | a :: l, m, hn, hs => by
    have ha : a ∈ m := hs a List.mem_cons_self
    have hn' := List.nodup_cons.mp hn
    have := nodup_sub l (m.erase a) hn'.2 (fun n h => by
      have : n ≠ a := fun e => hn'.1 (e ▸ h)
      exact (List.mem_erase_of_ne this).mpr (hs n (List.mem_cons_of_mem a h)))
    rw [List.length_erase_of_mem ha] at this
    have h0 : 0 < m.length := List.length_pos_of_mem ha
    simp only [List.length_cons]
    omega
theorem nodup_map {f : Nat → Nat} : ∀ {l : List Nat}, l.Nodup → (∀ a ∈ l, ∀ b ∈ l, f a = f b → a = b) → (l.map f).Nodup
  | [], _, _ => List.nodup_nil
  | a :: l, hn, hi => by
    have hn' := List.nodup_cons.mp hn
    rw [List.map_cons]
    refine List.nodup_cons.mpr ⟨fun h => ?_, nodup_map hn'.2 (fun x hx y hy e => hi x (List.mem_cons_of_mem a hx) y (List.mem_cons_of_mem a hy) e)⟩
    obtain ⟨b, hb, e⟩ := List.mem_map.mp h
    have := hi b (List.mem_cons_of_mem a hb) a List.mem_cons_self e
    rw [this] at hb
    exact hn'.1 hb
theorem inj_le {N M : Nat} (f : Nat → Nat) (hf : ∀ i, i < N → f i < M) (hi : ∀ i j, i < N → j < N → f i = f j → i = j) : N ≤ M := by
  have h1 : ((List.range N).map f).Nodup := nodup_map List.nodup_range (fun a ha b hb e => hi a b (List.mem_range.mp ha) (List.mem_range.mp hb) e)
  have h2 := nodup_len M _ h1 (fun n hn => by
    obtain ⟨i, h, e⟩ := List.mem_map.mp hn
    rw [← e]; exact hf i (List.mem_range.mp h))
  simpa using h2
/-- each pipe has an end of its own -/
def Own (g : Gr) : Prop := ∃ φ : Nat → Nat, (∀ p, p < g.1 → φ p = g.2.1 p ∨ φ p = g.2.2 p) ∧ ∀ p q, p < g.1 → q < g.1 → φ p = φ q → p = q
/-- no two pipes between the same nodes -/
def NoPar (g : Gr) : Prop := ∀ p q n e, p < g.1 → q < g.1 → ac g p n = some e → ac g q n = some e → p = q
def Off (L : List Rec) (src p : Nat) : Prop := ∀ n, n ∈ nds L → n ≠ src → fp L n ≠ p
theorem Tre.one {g : Gr} {src : Nat} {L : List Rec} (h : Tre g src L) (hg : WG g) (ho : Own g) {p q : Nat} (hp : p < g.1) (hq : q < g.1) (cp : g.2.1 p ∈ nds L) (cq : g.2.1 q ∈ nds L) (op : Off L src p) (oq : Off L src q) : p = q := by
  apply Classical.byContradiction
  intro hne
  obtain ⟨φ, h1, h2⟩ := ho
  have hL := h.1.1
  have hsr := h.src.1
  have hmem : ∀ n, n ∈ (nds L).erase src ↔ n ≠ src ∧ n ∈ nds L := fun n => List.Nodup.mem_erase_iff hL
  have hu : ∀ n, n ∈ (nds L).erase src → fp L n < g.1 ∧ g.2.1 (fp L n) ∈ nds L ∧ g.2.2 (fp L n) ∈ nds L := fun n hn => by
    obtain ⟨a, b⟩ := (hmem n).mp hn
    obtain ⟨u1, -, u3, u4⟩ := h.up b a
    exact ⟨u3, ac_conn h hg u3 u4 u1⟩
  have hz : ((p :: q :: ((nds L).erase src).map (fp L)).map φ).Nodup := by
    have hb : ∀ x ∈ p :: q :: ((nds L).erase src).map (fp L), x < g.1 := fun x hx => by
      rcases List.mem_cons.mp hx with e | hx
      · rw [e]; exact hp
      rcases List.mem_cons.mp hx with e | hx
      · rw [e]; exact hq
      obtain ⟨n, hn, e⟩ := List.mem_map.mp hx
      rw [← e]; exact (hu n hn).1
    refine nodup_map ?_ (fun a ha b hb' e => h2 a b (hb a ha) (hb b hb') e)
    refine List.nodup_cons.mpr ⟨fun hx => ?_, List.nodup_cons.mpr ⟨fun hx => ?_, nodup_map (hL.erase src) (fun a ha b hb' e => ?_)⟩⟩
    · rcases List.mem_cons.mp hx with e | hx
      · exact hne e
      obtain ⟨n, hn, e⟩ := List.mem_map.mp hx
      obtain ⟨a, b⟩ := (hmem n).mp hn
      exact op n b a e
    · obtain ⟨n, hn, e⟩ := List.mem_map.mp hx
      obtain ⟨a, b⟩ := (hmem n).mp hn
      exact oq n b a e
    · obtain ⟨a1, a2⟩ := (hmem a).mp ha
      obtain ⟨b1, b2⟩ := (hmem b).mp hb'
      exact h.inj a2 b2 a1 b1 e
  have hs : ∀ n ∈ (p :: q :: ((nds L).erase src).map (fp L)).map φ, n ∈ nds L := by
    have hφ : ∀ x, x < g.1 → g.2.1 x ∈ nds L → φ x ∈ nds L := fun x hx hc => by
      rcases h1 x hx with e | e
      · rw [e]; exact hc
      · rw [e]; exact (ac_conn h hg hx (ac_ends hg hx).1 hc).2
    intro n hn
    obtain ⟨x, hx, e⟩ := List.mem_map.mp hn
    rw [← e]
    rcases List.mem_cons.mp hx with e | hx
    · rw [e]; exact hφ p hp cp
    rcases List.mem_cons.mp hx with e | hx
    · rw [e]; exact hφ q hq cq
    obtain ⟨m, hm, e⟩ := List.mem_map.mp hx
    rw [← e]
    exact hφ _ (hu m hm).1 (hu m hm).2.1
  have := nodup_sub _ _ hz hs
  simp only [List.map_cons, List.length_cons, List.length_map] at this
  rw [List.length_erase_of_mem hsr] at this
  have h0 : 0 < (nds L).length := List.length_pos_of_mem hsr
  omega
