/-! ===== the class reads a definition ===== -/
def FrC (d : Nat) (σ τ : Mem) : Prop := (∀ a j, ¬ (a = 79 ∧ (j = 2 ∨ j = 3)) → ¬ (a = 81 ∧ d ≤ j) → ¬ (a = 82 ∧ 4 * d ≤ j) → τ.1 a j = σ.1 a j) ∧ τ.2 = σ.2
theorem FrC.rfl' (d : Nat) (σ : Mem) : FrC d σ σ := ⟨fun _ _ _ _ _ => rfl, rfl⟩
theorem FrC.trans {d e : Nat} {σ τ υ : Mem} (h : FrC d σ τ) (k : FrC e τ υ) (hde : d ≤ e) : FrC d σ υ := ⟨fun a j h1 h2 h3 => by rw [k.1 a j h1 (fun q => h2 ⟨q.1, by omega⟩) (fun q => h3 ⟨q.1, by omega⟩), h.1 a j h1 h2 h3], by rw [k.2, h.2]⟩
theorem FrC.wi {d : Nat} {σ τ : Mem} (h : FrC d σ τ) {b k : Nat} {v : Int32} (hb : (b = 79 ∧ (k = 2 ∨ k = 3)) ∨ (b = 81 ∧ d ≤ k) ∨ (b = 82 ∧ 4 * d ≤ k)) : FrC d σ (wi τ b k v) := ⟨fun a j h1 h2 h3 => by
  rw [wi_i, if_neg (fun q => by
    obtain ⟨e1, e2⟩ := q
    subst e1; subst e2
    rcases hb with q | q | q
    · exact h1 q
    · exact h2 q
    · exact h3 q)]
  exact h.1 a j h1 h2 h3, h.2⟩
/-- the class has read up to i of its definition d of kind kk: the numbers v -/
def RdC (s : Nat → Nat) (n d kk i : Nat) (v : Nat → Option Int32) (σ τ : Mem) : Prop := TxC s n τ ∧ τ.1 79 2 = nI i ∧ i ≤ n ∧ τ.1 79 3 = nI d ∧ d < 20 ∧ τ.1 81 d = nI kk ∧ (∀ y z, v y = some z → y < 4 ∧ τ.1 82 (4 * d + y) = z) ∧ FrC d σ τ
theorem RdC.pos {s : Nat → Nat} {n d kk i i' : Nat} {v : Nat → Option Int32} {σ τ : Mem} (h : RdC s n d kk i v σ τ) (hi : i' ≤ n) : RdC s n d kk i' v σ (wi τ 79 2 (nI i')) := by
  obtain ⟨h1, h2, h3, h4, h5, h6, h7, h8⟩ := h
  exact ⟨h1.w2 _, wi_at _ _ _ _, hi, by rw [wi_i, if_neg (fun q => absurd q.2 (by decide))]; exact h4, h5, by rw [wi_i, if_neg (fun q => absurd q.1 (by decide))]; exact h6, fun y z hz => ⟨(h7 y z hz).1, by rw [wi_i, if_neg (fun q => absurd q.1 (by decide))]; exact (h7 y z hz).2⟩, h8.wi (.inl ⟨rfl, .inl rfl⟩)⟩
theorem RdC.slot {s : Nat → Nat} {n d kk i x : Nat} {v : Nat → Option Int32} {σ τ : Mem} {u : Int32} (h : RdC s n d kk i v σ τ) (hx : x < 4) : RdC s n d kk i (fun y => if y = x then some u else v y) σ (wi τ 82 (4 * d + x) u) := by
  obtain ⟨h1, h2, h3, h4, h5, h6, h7, h8⟩ := h
  refine ⟨h1.of (by rw [wi_i, if_neg (fun q => absurd q.1 (by decide))]) (fun j => by rw [wi_i, if_neg (fun q => absurd q.1 (by decide))]), by rw [wi_i, if_neg (fun q => absurd q.1 (by decide))]; exact h2, h3, by rw [wi_i, if_neg (fun q => absurd q.1 (by decide))]; exact h4, h5, by rw [wi_i, if_neg (fun q => absurd q.1 (by decide))]; exact h6, fun y z hz => ?_, h8.wi (.inr (.inr ⟨rfl, by omega⟩))⟩
  have hz : (if y = x then some u else v y) = some z := hz
  by_cases c : y = x
  · subst c
    rw [if_pos rfl] at hz
    cases hz
    exact ⟨hx, wi_at _ _ _ _⟩
  · rw [if_neg c] at hz
    exact ⟨(h7 y z hz).1, by rw [wi_i, if_neg (fun q => by have := q.2; omega)]; exact (h7 y z hz).2⟩
theorem RdC.none {s : Nat → Nat} {n d kk i x : Nat} {v : Nat → Option Int32} {σ τ : Mem} {u : Int32} (h : RdC s n d kk i v σ τ) (hv : v x = none) (hx : x < 4) : RdC s n d kk i v σ (wi τ 82 (4 * d + x) u) := by
  obtain ⟨h1, h2, h3, h4, h5, h6, h7, h8⟩ := h.slot (u := u) hx
  refine ⟨h1, h2, h3, h4, h5, h6, fun y z hz => h7 y z ?_, h8⟩
  show (if y = x then some u else v y) = some z
  by_cases c : y = x
  · subst c; rw [hv] at hz; cases hz
  · rw [if_neg c]; exact hz
theorem st_take {s : Nat → Nat} {n d kk i c : Nat} {r : List (Nat × Nat)} {v : Nat → Option Int32} {σ τ : Mem} {res : Bool × Nat × (Nat → Option Int32)} {Z NX : Mem → Prop} {X : String → Mem → Prop} (hR : RdC s n d kk i v σ τ) (hres : res = pI s n ((0, c) :: r) i v) (c0 : c ≠ 0) (c1 : c < 1000) (h0 : ∀ υ j v', res = (false, j, v') → RdC s n d kk j v' σ υ → Z υ) (hn : ∀ υ, RdC s n d kk (i + 1) v σ υ → res = pI s n r (i + 1) v → NX υ) : sp_X3_take (nI c) τ (fun q υ => (q = 0 → Z υ) ∧ (¬ q = 0 → NX υ)) X := by
  have h60 := hR.1.1
  refine i_X3_take hR.1 hR.2.1 (Nat.le_trans hR.2.2.1 h60) c1 (fun e => ⟨fun q => absurd q (by decide), fun _ => ?_⟩) (fun e => ⟨fun _ => ?_, fun q => absurd rfl q⟩)
  · exact hn _ (hR.pos (chT_lt (by rw [e]; exact c0))) (by rw [hres, pI_0y e])
  · exact h0 τ i v (by rw [hres, pI_0n e]) hR
theorem st_num {s : Nat → Nat} {n d kk i k x : Nat} {r : List (Nat × Nat)} {v : Nat → Option Int32} {σ τ : Mem} {res : Bool × Nat × (Nat → Option Int32)} {Z NX : Mem → Prop} {X : String → Mem → Prop} (hR : RdC s n d kk i v σ τ) (hres : res = pI s n ((k, x) :: r) i v) (k0 : k ≠ 0) (k3 : k ≤ 3) (hx : x < 4) (hv : v x = none) (h0 : ∀ υ j v', res = (false, j, v') → RdC s n d kk j v' σ υ → Z υ) (hn : ∀ υ j v', RdC s n d kk j v' σ υ → (∀ y, y ≠ x → v' y = v y) → res = pI s n r j v' → NX υ) : sp_X3_readNumber (nI x) (nI k) τ (fun q υ => (q = 0 → Z υ) ∧ (¬ q = 0 → NX υ)) X := by
  refine ⟨s, n, i, d, x, k, hR.1, hR.2.1, hR.2.2.1, hR.2.2.2.1, hR.2.2.2.2.1, rfl, hx, rfl, k3, ?_⟩
  have hj := (nD_le (s := s) (n := n) k i).2 hR.2.2.1
  by_cases c : 0 < nD s n k i
  · rw [if_pos c]
    refine ⟨fun q => absurd q (by decide), fun _ => hn _ _ _ ((hR.pos hj).slot hx) (fun y hy => ?_) (by rw [hres, pI_ky k0 (by omega) c])⟩
    exact if_neg hy
  · rw [if_neg c]
    refine ⟨fun _ => h0 _ i v (by rw [hres, pI_kn k0 (by omega) c]) ?_, fun q => absurd rfl q⟩
    have e : i + nD s n k i = i := by omega
    rw [e, wi_same hR.2.1]
    exact hR.none hv hx
theorem st_sgn {s : Nat → Nat} {n d kk i x : Nat} {r : List (Nat × Nat)} {v : Nat → Option Int32} {σ τ : Mem} {res : Bool × Nat × (Nat → Option Int32)} {Z NX : Mem → Prop} {X : String → Mem → Prop} (hR : RdC s n d kk i v σ τ) (hres : res = pI s n ((4, x) :: r) i v) (hx : x < 4) (hv : v x = none) (h0 : ∀ υ j v', res = (false, j, v') → RdC s n d kk j v' σ υ → Z υ) (hn : ∀ υ j v', RdC s n d kk j v' σ υ → (∀ y, y ≠ x → v' y = v y) → res = pI s n r j v' → NX υ) : sp_X3_readSigned (nI x) τ (fun q υ => (q = 0 → Z υ) ∧ (¬ q = 0 → NX υ)) X := by
  have h60 := hR.1.1
  have hd := hR.2.2.2.2.1
  refine i_X3_take (c := 45) hR.1 hR.2.1 (Nat.le_trans hR.2.2.1 h60) (by decide) (fun e => ?_) (fun e => ?_)
  · have hin := chT_lt (s := s) (n := n) (i := i) (by rw [e]; decide)
    have hR1 := hR.pos (i' := i + 1) hin
    refine ⟨s, n, i + 1, d, x, 3, hR1.1, hR1.2.1, hR1.2.2.1, hR1.2.2.2.1, hR1.2.2.2.2.1, rfl, hx, rfl, Nat.le_refl 3, ?_⟩
    have hj := (nD_le (s := s) (n := n) 3 (i + 1)).2 hin
    by_cases c : 0 < nD s n 3 (i + 1)
    · rw [if_pos c]
      refine ⟨fun _ => ⟨fun q => absurd q (by decide), fun _ => ?_⟩, fun q => absurd q (by decide)⟩
      have hR2 := (hR1.pos hj).slot (u := nI (vD s n 3 (i + 1) 0)) hx
      have eix : nI d * 4 + nI x = nI (4 * d + x) := by rw [show (4 : Int32) = nI 4 from rfl, nI_mul, nI_add, Nat.mul_comm]
      unfold sp_X3_valueOf
      rw [hR2.2.2.2.1, eix]
      refine ⟨n_inR (by omega) (by decide), n_inR (by omega) (by decide), fun σ44 e44 => ?_⟩
      rw [n_cl (by omega), wi_at] at e44
      rw [e44, wi_wi]
      refine ⟨fun q => absurd q (by decide), fun _ => hn _ _ _ ((hR1.pos hj).slot hx) (fun y hy => ?_) (by rw [hres, pI_4my e c])⟩
      exact if_neg hy
    · rw [if_neg c]
      refine ⟨fun q => absurd rfl q, fun _ => ⟨fun _ => h0 _ (i + 1) v (by rw [hres, pI_4mn e c]) ?_, fun q => absurd rfl q⟩⟩
      have e' : i + 1 + nD s n 3 (i + 1) = i + 1 := by omega
      rw [e', wi_wi]
      exact hR1.none hv hx
  · refine ⟨s, n, i, d, x, 3, hR.1, hR.2.1, hR.2.2.1, hR.2.2.2.1, hR.2.2.2.2.1, rfl, hx, rfl, Nat.le_refl 3, ?_⟩
    have hj := (nD_le (s := s) (n := n) 3 i).2 hR.2.2.1
    by_cases c : 0 < nD s n 3 i
    · rw [if_pos c]
      refine ⟨fun _ => ⟨fun _ => ⟨fun q => absurd q (by decide), fun _ => hn _ _ _ ((hR.pos hj).slot hx) (fun y hy => ?_) (by rw [hres, pI_4py e c])⟩, fun q => absurd rfl q⟩, fun q => absurd q (by decide)⟩
      exact if_neg hy
    · rw [if_neg c]
      refine ⟨fun q => absurd rfl q, fun _ => ⟨fun _ => h0 _ i v (by rw [hres, pI_4pn e c]) ?_, fun q => absurd rfl q⟩⟩
      have e' : i + nD s n 3 i = i := by omega
      rw [e', wi_same hR.2.1]
      exact hR.none hv hx
theorem nar_chI {x : Nat} (h : x ≤ 126) : vp_nar .char (nI x) = nI x := by
  have : ∀ x, x < 127 → vp_nar .char (nI x) = nI x := by decide +kernel
  exact this x (by omega)
theorem i_X3_readDefinition {s : Nat → Nat} {n d i : Nat} {τ : Mem} {K : Int32 → Mem → Prop} {X : String → Mem → Prop} (hT : TxC s n τ) (hi : τ.1 79 2 = nI i) (hin : i ≤ n) (hd : τ.1 79 3 = nI d) (hd2 : d < 20)
    (h0 : ∀ υ j v', pD s n i = (false, j, v') → RdC s n d (chT s n i) j v' τ υ → K 0 υ)
    (h1 : ∀ υ j v', kdB (chT s n i) → pD s n i = pI s n [(0, 59)] j v' → RdC s n d (chT s n i) j v' τ υ → K 1 υ) : sp_X3_readDefinition τ K X := by
  have hl := chT_le (fun i q => (hT.2.2 i q).2) (n := n) (i := i)
  have h60 := hT.1
  refine i_X3_nextSign hT hi (by omega) ⟨by rw [hd]; exact n_inR hd2 (by decide), nar_chI hl, fun σ14 e14 => ?_⟩
  rw [hd, n_cl (by omega)] at e14
  have hR : RdC s n d (chT s n i) i (fun _ => none) τ σ14 := by
    rw [e14]
    refine ⟨hT.of (by rw [wi_i, if_neg (fun q => absurd q.1 (by decide))]) (fun j => by rw [wi_i, if_neg (fun q => absurd q.1 (by decide))]), by rw [wi_i, if_neg (fun q => absurd q.1 (by decide))]; exact hi, hin, by rw [wi_i, if_neg (fun q => absurd q.1 (by decide))]; exact hd, hd2, wi_at _ _ _ _, fun y z hz => (by cases hz), (FrC.rfl' d τ).wi (.inr (.inl ⟨rfl, Nat.le_refl d⟩))⟩
  have hE : ∀ {c : Nat}, c < 1000 → (nI (chT s n i) = nI c ↔ chT s n i = c) := fun hc => nI_eq (by omega) (by omega)
  have hk : ∀ {c : Nat}, c < 1000 → c ≠ 0 → kdB c → nI (chT s n i) = nI c → chT s n i = c ∧ pD s n i = pI s n ((0, c) :: tkK c) i (fun _ => none) := fun hc c0 hc2 e => by
    have e' := (hE hc).mp e
    refine ⟨e', ?_⟩
    rw [pD_y (by rw [e']; exact hc2), e', pI_0y e']
  refine ⟨fun q => ?_, fun q => ?_, fun q => ?_, fun q => ?_, fun q => ?_, fun q1 q2 q3 q4 q5 => ?_⟩
  · obtain ⟨e, hp⟩ := hk (c := 104) (by decide) (by decide) (by unfold kdB; omega) q
    have hb : kdB (chT s n i) := by rw [e]; unfold kdB; omega
    refine st_take (c := 104) hR hp (by decide) (by decide) h0 (fun υ hR hp => ?_)
    refine st_num (k := 3) (x := 0) (r := [(0, 59)]) hR hp (by decide) (by decide) (by decide) rfl h0 (fun υ j v' hR hv hp => h1 υ j v' hb hp hR)
  · obtain ⟨e, hp⟩ := hk (c := 112) (by decide) (by decide) (by unfold kdB; omega) q
    have hb : kdB (chT s n i) := by rw [e]; unfold kdB; omega
    refine st_take (c := 112) hR hp (by decide) (by decide) h0 (fun υ hR hp => ?_)
    refine st_num (k := 1) (x := 0) (r := [(0, 45), (1, 1), (0, 58), (3, 2), (0, 44), (3, 3), (0, 59)]) hR hp (by decide) (by decide) (by decide) rfl h0 (fun υ j v1 hR hv1 hp => ?_)
    refine st_take (c := 45) hR hp (by decide) (by decide) h0 (fun υ hR hp => ?_)
    refine st_num (k := 1) (x := 1) (r := [(0, 58), (3, 2), (0, 44), (3, 3), (0, 59)]) hR hp (by decide) (by decide) (by decide) (by rw [hv1 1 (by decide)]) h0 (fun υ j v2 hR hv2 hp => ?_)
    refine st_take (c := 58) hR hp (by decide) (by decide) h0 (fun υ hR hp => ?_)
    refine st_num (k := 3) (x := 2) (r := [(0, 44), (3, 3), (0, 59)]) hR hp (by decide) (by decide) (by decide) (by rw [hv2 2 (by decide), hv1 2 (by decide)]) h0 (fun υ j v3 hR hv3 hp => ?_)
    refine st_take (c := 44) hR hp (by decide) (by decide) h0 (fun υ hR hp => ?_)
    refine st_num (k := 3) (x := 3) (r := [(0, 59)]) hR hp (by decide) (by decide) (by decide) (by rw [hv3 3 (by decide), hv2 3 (by decide), hv1 3 (by decide)]) h0 (fun υ j v4 hR hv4 hp => h1 υ j v4 hb hp hR)
  · obtain ⟨e, hp⟩ := hk (c := 115) (by decide) (by decide) (by unfold kdB; omega) q
    have hb : kdB (chT s n i) := by rw [e]; unfold kdB; omega
    refine st_take (c := 115) hR hp (by decide) (by decide) h0 (fun υ hR hp => ?_)
    refine st_num (k := 1) (x := 0) (r := [(0, 58), (3, 1), (0, 44), (3, 2), (0, 44), (3, 3), (0, 59)]) hR hp (by decide) (by decide) (by decide) rfl h0 (fun υ j v1 hR hv1 hp => ?_)
    refine st_take (c := 58) hR hp (by decide) (by decide) h0 (fun υ hR hp => ?_)
    refine st_num (k := 3) (x := 1) (r := [(0, 44), (3, 2), (0, 44), (3, 3), (0, 59)]) hR hp (by decide) (by decide) (by decide) (by rw [hv1 1 (by decide)]) h0 (fun υ j v2 hR hv2 hp => ?_)
    refine st_take (c := 44) hR hp (by decide) (by decide) h0 (fun υ hR hp => ?_)
    refine st_num (k := 3) (x := 2) (r := [(0, 44), (3, 3), (0, 59)]) hR hp (by decide) (by decide) (by decide) (by rw [hv2 2 (by decide), hv1 2 (by decide)]) h0 (fun υ j v3 hR hv3 hp => ?_)
    refine st_take (c := 44) hR hp (by decide) (by decide) h0 (fun υ hR hp => ?_)
    refine st_num (k := 3) (x := 3) (r := [(0, 59)]) hR hp (by decide) (by decide) (by decide) (by rw [hv3 3 (by decide), hv2 3 (by decide), hv1 3 (by decide)]) h0 (fun υ j v4 hR hv4 hp => h1 υ j v4 hb hp hR)
  · obtain ⟨e, hp⟩ := hk (c := 116) (by decide) (by decide) (by unfold kdB; omega) q
    have hb : kdB (chT s n i) := by rw [e]; unfold kdB; omega
    refine st_take (c := 116) hR hp (by decide) (by decide) h0 (fun υ hR hp => ?_)
    refine st_num (k := 1) (x := 0) (r := [(0, 61), (4, 1), (0, 59)]) hR hp (by decide) (by decide) (by decide) rfl h0 (fun υ j v1 hR hv1 hp => ?_)
    refine st_take (c := 61) hR hp (by decide) (by decide) h0 (fun υ hR hp => ?_)
    refine st_sgn (x := 1) (r := [(0, 59)]) hR hp (by decide) (by rw [hv1 1 (by decide)]) h0 (fun υ j v2 hR hv2 hp => h1 υ j v2 hb hp hR)
  · obtain ⟨e, hp⟩ := hk (c := 120) (by decide) (by decide) (by unfold kdB; omega) q
    have hb : kdB (chT s n i) := by rw [e]; unfold kdB; omega
    refine st_take (c := 120) hR hp (by decide) (by decide) h0 (fun υ hR hp => ?_)
    refine st_num (k := 1) (x := 0) (r := [(0, 59)]) hR hp (by decide) (by decide) (by decide) rfl h0 (fun υ j v1 hR hv1 hp => h1 υ j v1 hb hp hR)
  · refine h0 σ14 i _ (pD_n (fun hb => ?_)) hR
    rcases hb with hb | hb | hb | hb | hb
    · exact q2 (by rw [hb]; rfl)
    · exact q3 (by rw [hb]; rfl)
    · exact q5 (by rw [hb]; rfl)
    · exact q4 (by rw [hb]; rfl)
    · exact q1 (by rw [hb]; rfl)
/-- the definitions that the class has read -/
def DsC (l : List Df) (τ : Mem) : Prop := ∀ (j : Nat) (d : Df), l[j]? = some d → τ.1 81 j = nI d.1 ∧ kdB d.1 ∧ ∀ y, (∃ k, k ≠ 0 ∧ (k, y) ∈ tkK d.1) → y < 4 ∧ τ.1 82 (4 * j + y) = d.2 y
theorem DsC.fr {l : List Df} {σ τ : Mem} {d : Nat} (h : DsC l σ) (hf : FrC d σ τ) (hl : l.length ≤ d) : DsC l τ := fun j q hj => by
  have hlt : j < l.length := (List.getElem?_eq_some_iff.mp hj).1
  obtain ⟨h1, h2, h3⟩ := h j q hj
  refine ⟨by rw [hf.1 81 j (fun q => absurd q.1 (by decide)) (fun q => by omega) (fun q => absurd q.1 (by decide))]; exact h1, h2, fun y hy => ⟨(h3 y hy).1, ?_⟩⟩
  have := (h3 y hy).1
  rw [hf.1 82 (4 * j + y) (fun q => absurd q.1 (by decide)) (fun q => absurd q.1 (by decide)) (fun q => by omega)]
  exact (h3 y hy).2
theorem DsC.add {s : Nat → Nat} {n i d j : Nat} {l : List Df} {v : Nat → Option Int32} {σ τ : Mem} (h : DsC l σ) (hl : l.length = d) (hin : i ≤ n) (hp : pD s n i = (true, j, v)) (hR : RdC s n d (chT s n i) j v σ τ) : DsC (l ++ [dfO (chT s n i) v]) τ := by
  have h' := h.fr hR.2.2.2.2.2.2.2 (by omega)
  obtain ⟨e1, e2, e3⟩ := pD_end (s := s) hin
  rw [hp] at e3
  obtain ⟨f1, f2, f3⟩ := e3 rfl
  intro m q hm
  rcases get_app1 hm with hm | ⟨em, eq⟩
  · exact h' m q hm
  · subst eq
    rw [em, hl]
    refine ⟨hR.2.2.2.2.2.1, f2, fun y hy => ?_⟩
    have h0 := f3 y hy
    cases hz : v y with
    | none => exact absurd hz h0
    | some z =>
      have := hR.2.2.2.2.2.2.1 y z hz
      refine ⟨this.1, ?_⟩
      show _ = (v y).getD 0
      rw [hz]
      exact this.2
/-! ===== the reference reads a definition ===== -/
theorem rt_takes {s : Nat → Nat} {n i c : Nat} {r : List (Nat × Nat)} {v : Nat → Option Int32} {σ : Mem} {res : Bool × Nat × (Nat → Option Int32)} {Q : Int32 → Mem → Prop} {X : String → Mem → Prop} (hT : TxM s n σ) (hi : i ≤ n) (hres : res = pI s n ((0, c) :: r) i v) (c0 : c ≠ 0) (c1 : c < 1000) (h0 : res = (false, i, v) → Q 0 (wi σ 209 13 (nI i))) (h1 : i + 1 ≤ n → res = pI s n r (i + 1) v → Q 1 (wi σ 209 13 (nI (i + 1)))) : sp_X5_takes (nI c) (wi σ 209 13 (nI i)) Q X := by
  have h60 := hT.1
  refine i_X5_takes (hT.w13 _) (wi_at _ _ _ _) (by omega) c1 (fun e => ?_) (fun e => h0 (by rw [hres, pI_0n e]))
  rw [wi_wi]
  exact h1 (chT_lt (by rw [e]; exact c0)) (by rw [hres, pI_0y e])
theorem rt_num {s : Nat → Nat} {n i x : Nat} {r : List (Nat × Nat)} {v : Nat → Option Int32} {σ : Mem} {res : Bool × Nat × (Nat → Option Int32)} {Q : Int32 → Mem → Prop} {X : String → Mem → Prop} (hT : TxM s n σ) (hi : i ≤ n) (hres : res = pI s n ((3, x) :: r) i v) (h0 : res = (false, i, v) → Q (-1) (wi σ 209 13 (nI i))) (h1 : ∀ j V, j ≤ n → V ≤ 999 → res = pI s n r j (fun y => if y = x then some (nI V) else v y) → Q (nI V) (wi σ 209 13 (nI j))) : sp_X5_number (wi σ 209 13 (nI i)) Q X := by
  refine ⟨s, n, i, hT.w13 _, wi_at _ _ _ _, hi, ?_⟩
  have hj := (nD_le (s := s) (n := n) 3 i).2 hi
  rw [wi_wi]
  by_cases c : 0 < nD s n 3 i
  · rw [if_pos c]
    exact h1 _ _ hj (vD_bd (Nat.le_refl 3)) (by rw [hres, pI_ky (by decide) (by decide) c])
  · rw [if_neg c, show i + nD s n 3 i = i by omega]
    exact h0 (by rw [hres, pI_kn (by decide) (by decide) c])
theorem rt_dig {s : Nat → Nat} {n i x : Nat} {r : List (Nat × Nat)} {v : Nat → Option Int32} {σ : Mem} {res : Bool × Nat × (Nat → Option Int32)} {Q : Int32 → Mem → Prop} {X : String → Mem → Prop} (hT : TxM s n σ) (hi : i ≤ n) (hres : res = pI s n ((1, x) :: r) i v) (h0 : res = (false, i, v) → Q (-1) (wi σ 209 13 (nI i))) (h1 : ∀ j V, j ≤ n → V ≤ 999 → res = pI s n r j (fun y => if y = x then some (nI V) else v y) → Q (nI V) (wi σ 209 13 (nI j))) : sp_X5_digit (wi σ 209 13 (nI i)) Q X := by
  have h60 := hT.1
  refine i_X5_digit (hT.w13 _) (wi_at _ _ _ _) (by omega) (fun c => ?_) (fun c => h0 (by rw [hres, pI_kn (by decide) (by decide) (by rw [nD_0 c]; decide)]))
  rw [wi_wi]
  have hd := isD_iff.mp c
  have e1 : nD s n 1 i = 1 := nD_s (k := 0) c
  have e2 : vD s n 1 i 0 = chT s n i - 48 := by
    rw [vD_s (k := 0) c]; show 10 * 0 + _ = _; omega
  refine h1 _ _ (isD_lt c) (by omega) ?_
  rw [hres, pI_ky (by decide) (by decide) (by rw [e1]; decide), e1, e2]
/-- '-' may stand ahead -/
theorem rt_sgn {s : Nat → Nat} {n i x : Nat} {r : List (Nat × Nat)} {v : Nat → Option Int32} {σ : Mem} {res : Bool × Nat × (Nat → Option Int32)} {Q : Int32 → Int32 → Mem → Prop} {X : String → Mem → Prop} (hT : TxM s n σ) (hi : i ≤ n) (hres : res = pI s n ((4, x) :: r) i v) (h0 : ∀ m j, j ≤ n → res = (false, j, v) → Q m (-1) (wi σ 209 13 (nI j))) (h1 : ∀ j V, j ≤ n → V ≤ 999 → res = pI s n r j (fun y => if y = x then some (nI V) else v y) → Q 0 (nI V) (wi σ 209 13 (nI j))) (h2 : ∀ j V, j ≤ n → V ≤ 999 → res = pI s n r j (fun y => if y = x then some (-nI V) else v y) → Q 1 (nI V) (wi σ 209 13 (nI j))) : sp_X5_takes 45 (wi σ 209 13 (nI i)) (fun m τ => sp_X5_number τ (fun q υ => Q m q υ) X) X := by
  have h60 := hT.1
  refine i_X5_takes (c := 45) (hT.w13 _) (wi_at _ _ _ _) (by omega) (by decide) (fun e => ?_) (fun e => ?_)
  · rw [wi_wi]
    have hin : i + 1 ≤ n := chT_lt (s := s) (by rw [e]; decide)
    refine ⟨s, n, i + 1, hT.w13 _, wi_at _ _ _ _, hin, ?_⟩
    have hj := (nD_le (s := s) (n := n) 3 (i + 1)).2 hin
    rw [wi_wi]
    by_cases c : 0 < nD s n 3 (i + 1)
    · rw [if_pos c]
      exact h2 _ _ hj (vD_bd (Nat.le_refl 3)) (by rw [hres, pI_4my e c])
    · rw [if_neg c, show i + 1 + nD s n 3 (i + 1) = i + 1 by omega]
      exact h0 1 (i + 1) hin (by rw [hres, pI_4mn e c])
  · refine ⟨s, n, i, hT.w13 _, wi_at _ _ _ _, hi, ?_⟩
    have hj := (nD_le (s := s) (n := n) 3 i).2 hi
    rw [wi_wi]
    by_cases c : 0 < nD s n 3 i
    · rw [if_pos c]
      exact h1 _ _ hj (vD_bd (Nat.le_refl 3)) (by rw [hres, pI_4py e c])
    · rw [if_neg c, show i + nD s n 3 i = i by omega]
      exact h0 0 i hi (by rw [hres, pI_4pn e c])
