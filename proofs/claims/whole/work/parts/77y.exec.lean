/-! ===== what a definition does, and a list of them ===== -/
def Ex1 (d : Df) (w : Nat → Int32) (g : Gr) (u : Nat → Int64) (q : Nat) (w' : Nat → Int32) (g' : Gr) (u' : Nat → Int64) : Prop :=
  (d.1 = 112 → q = prN g (d.2 0) (d.2 1) (d.2 2) (d.2 3) ∧ (q = 0 → w' = apW w g.1 (d.2 0) (d.2 1) (d.2 2) (d.2 3) ∧ g' = apG g (d.2 0) (d.2 1) ∧ u' = u)) ∧
  (d.1 = 115 → q = srN w (d.2 0) (d.2 1) (d.2 2) (d.2 3) ∧ (q = 0 → w' = stW w (d.2 0).toNatClampNeg (d.2 1) (d.2 2) (d.2 3) ∧ g' = g ∧ u' = u0 u (d.2 0).toNatClampNeg)) ∧
  (d.1 = 120 → q = rmN w (d.2 0) ∧ (q = 0 → w' = uw w (48 + 6 * (d.2 0).toNatClampNeg) 0 ∧ g' = g ∧ u' = u)) ∧
  (d.1 = 116 → q = seN (d.2 0) (d.2 1) ∧ (q = 0 → w' = uw w (d.2 0).toNatClampNeg (d.2 1) ∧ g' = g ∧ u' = u)) ∧
  (d.1 = 104 → (¬ bt3 (d.2 0) 1 24 ∧ q = 2) ∨ (bt3 (d.2 0) 1 24 ∧ ∃ (c : Lp) (R : Nat) (D T : Nat → Nat → Nat) (B S : Nat → Nat) (z : Int) (f : Nat → Int32) (v : Int64), Sol w g c R D T B S z f ∧ Need w g c (D R) B z v ∧ ((v ≤ (w 4).toInt64 ∧ q = 0 ∧ w' = w ∧ g' = g ∧ HrU w u (D R) (T R) (B 0) (S 0) (d.2 0) u') ∨ (¬ v ≤ (w 4).toInt64 ∧ q = 7))))
def ExL : List Df → (Nat → Int32) → Gr → (Nat → Int64) → Nat → (Nat → Int32) → Gr → (Nat → Int64) → Prop
  | [], w, g, u, q, w', g', u' => q = 0 ∧ w' = w ∧ g' = g ∧ u' = u
  | d :: l, w, g, u, q, w', g', u' => (q ≠ 0 ∧ Ex1 d w g u q w' g' u') ∨ ∃ w1 g1 u1, Ex1 d w g u 0 w1 g1 u1 ∧ ExL l w1 g1 u1 q w' g' u'
theorem prN_le {g : Gr} {a b l r : Int32} : prN g a b l r ≤ 7 := by
  unfold prN
  split
  · decide
  split
  · decide
  split
  · decide
  split
  · decide
  split <;> decide
theorem srN_le {w : Nat → Int32} {p s r f : Int32} : srN w p s r f ≤ 7 := by
  unfold srN
  split
  · decide
  split
  · decide
  split <;> decide
theorem rmN_le {w : Nat → Int32} {p : Int32} : rmN w p ≤ 7 := by
  unfold rmN
  split
  · decide
  split <;> decide
theorem seN_le {p v : Int32} : seN p v ≤ 7 := by
  unfold seN
  split
  · decide
  split <;> decide
theorem Ex1.le {d : Df} {w w' : Nat → Int32} {g g' : Gr} {u u' : Nat → Int64} {q : Nat} (hk : kdB d.1) (h : Ex1 d w g u q w' g' u') : q ≤ 7 := by
  obtain ⟨h1, h2, h3, h4, h5⟩ := h
  rcases hk with e | e | e | e | e
  · rw [(h1 e).1]; exact prN_le
  · rw [(h2 e).1]; exact srN_le
  · rw [(h3 e).1]; exact rmN_le
  · rw [(h4 e).1]; exact seN_le
  · rcases h5 e with ⟨-, q⟩ | ⟨-, c, R, D, T, B, S, z, f, v, -, -, ⟨-, q, -⟩ | ⟨-, q⟩⟩ <;> omega
theorem ExL.le {w' : Nat → Int32} {g' : Gr} {u' : Nat → Int64} {q : Nat} : ∀ {l : List Df} {w : Nat → Int32} {g : Gr} {u : Nat → Int64}, (∀ d ∈ l, kdB d.1) → ExL l w g u q w' g' u' → q ≤ 7
  | [], _, _, _, _, h => by have := h.1; omega
  | d :: l, w, g, u, hk, h => by
    rcases h with ⟨-, h⟩ | ⟨w1, g1, u1, -, h⟩
    · exact h.le (hk d (List.mem_cons_self ..))
    · exact ExL.le (fun e he => hk e (List.mem_cons_of_mem _ he)) h
/-- the sums after some hours, as a row -/
noncomputable def hrV (w : Nat → Int32) (u : Nat → Int64) (dr T : Nat → Nat) (b s : Nat) (p : Int32) (k : Nat) : Int64 :=
  if k < 10 then u k + cnW w k (zL (htZ w dr T k)) * p.toInt64 else if k < 20 then u k + zL (htZ w dr T (k - 10)) * p.toInt64 else if k < 30 then u k + pyW w (k - 20) (cnW w (k - 20) (zL (htZ w dr T (k - 20)))) * p.toInt64 else if k = 30 then u 30 + p.toInt64 else if k = 31 then u 31 + lN b * (w 0 - nI s).toInt64 * p.toInt64 else if k = 32 then u 32 + zL (smZ (htZ w dr T) 10) * p.toInt64 else u 33 + smL (pyN w dr T) 10 * p.toInt64
theorem hrV_is {w : Nat → Int32} {u : Nat → Int64} {dr T : Nat → Nat} {b s : Nat} {p : Int32} : HrU w u dr T b s p (hrV w u dr T b s p) := by
  refine ⟨fun n hn _ => ⟨?_, ?_, ?_⟩, ?_, ?_, ?_, ?_⟩
  · unfold hrV; rw [if_pos hn]
  · unfold hrV; rw [if_neg (by omega), if_pos (by omega), show 10 + n - 10 = n by omega]
  · unfold hrV; rw [if_neg (by omega), if_neg (by omega), if_pos (by omega), show 20 + n - 20 = n by omega]
  · unfold hrV; rw [if_neg (by omega), if_neg (by omega), if_neg (by omega), if_pos rfl]
  · unfold hrV; rw [if_neg (by omega), if_neg (by omega), if_neg (by omega), if_neg (by omega), if_pos rfl]
  · unfold hrV; rw [if_neg (by omega), if_neg (by omega), if_neg (by omega), if_neg (by omega), if_neg (by omega), if_pos rfl]
  · unfold hrV; rw [if_neg (by omega), if_neg (by omega), if_neg (by omega), if_neg (by omega), if_neg (by omega), if_neg (by omega)]
/-- the greatest head is there -/
theorem gmx_is (P : Nat → Prop) (h : Nat → Int64) : ∀ N, ∃ v, GMx (fun n => n < N ∧ P n) h v
  | 0 => ⟨0, GMx.nil (fun n q => by omega)⟩
  | N + 1 => by
    obtain ⟨v, hv⟩ := gmx_is P h N
    by_cases c : P N
    · have e' : ∀ n, (n < N + 1 ∧ P n) ↔ (n < N ∧ P n) ∨ n = N := fun n => ⟨fun q => by
        by_cases e : n = N
        · exact .inr e
        · exact .inl ⟨by omega, q.2⟩, fun q => by
        rcases q with q | q
        · exact ⟨by omega, q.2⟩
        · rw [q]; exact ⟨by omega, c⟩⟩
      by_cases d : ∃ n, n < N ∧ P n
      · obtain ⟨k, hk⟩ := d
        by_cases t : v < h N
        · exact ⟨h N, hv.add (k := k) hk e' (fun _ => rfl) (fun q => absurd t q)⟩
        · exact ⟨v, hv.add (k := k) hk e' (fun q => absurd q t) (fun _ => rfl)⟩
      · exact ⟨h N, GMx.one (fun n q => d ⟨n, q⟩) e'⟩
    · exact ⟨v, hv.cg (fun n => ⟨fun q => ⟨by omega, q.2⟩, fun q => ⟨by
        have : n ≠ N := fun e => c (by rw [← e]; exact q.2)
        omega, q.2⟩⟩)⟩
theorem need_is (w : Nat → Int32) (g : Gr) (c : Lp) (dr B : Nat → Nat) (z : Int) : ∃ v, Need w g c dr B z v := gmx_is _ _ 10
theorem Ex1_is {d : Df} {w : Nat → Int32} {g : Gr} {u : Nat → Int64} (hw : WFw w g) (hk : kdB d.1) : ∃ q w' g' u', Ex1 d w g u q w' g' u' := by
  rcases hk with e | e | e | e | e
  · exact ⟨_, _, _, _, fun _ => ⟨rfl, fun _ => ⟨rfl, rfl, rfl⟩⟩, fun q => by omega, fun q => by omega, fun q => by omega, fun q => by omega⟩
  · exact ⟨_, _, _, _, fun q => by omega, fun _ => ⟨rfl, fun _ => ⟨rfl, rfl, rfl⟩⟩, fun q => by omega, fun q => by omega, fun q => by omega⟩
  · exact ⟨_, _, _, _, fun q => by omega, fun q => by omega, fun _ => ⟨rfl, fun _ => ⟨rfl, rfl, rfl⟩⟩, fun q => by omega, fun q => by omega⟩
  · exact ⟨_, _, _, _, fun q => by omega, fun q => by omega, fun q => by omega, fun _ => ⟨rfl, fun _ => ⟨rfl, rfl, rfl⟩⟩, fun q => by omega⟩
  · by_cases b : bt3 (d.2 0) 1 24
    · obtain ⟨c, R, D, T, B, S, z, f, hS⟩ := sol_is hw
      obtain ⟨v, hv⟩ := need_is w g c (D R) B z
      by_cases t : v ≤ (w 4).toInt64
      · exact ⟨0, w, g, _, fun q => by omega, fun q => by omega, fun q => by omega, fun q => by omega, fun _ => .inr ⟨b, c, R, D, T, B, S, z, f, v, hS, hv, .inl ⟨t, rfl, rfl, rfl, hrV_is⟩⟩⟩
      · exact ⟨7, w, g, u, fun q => by omega, fun q => by omega, fun q => by omega, fun q => by omega, fun _ => .inr ⟨b, c, R, D, T, B, S, z, f, v, hS, hv, .inr ⟨t, rfl⟩⟩⟩
    · exact ⟨2, w, g, u, fun q => by omega, fun q => by omega, fun q => by omega, fun q => by omega, fun _ => .inl ⟨b, rfl⟩⟩
theorem of_19' {w : Nat → Int32} {p s r f : Int32} (h : srN w p s r f = 0) : ∃ n, p = nI n ∧ 1 ≤ n ∧ n < 10 ∧ bt3 s 1 99 ∧ bt3 r 200 600 ∧ bt3 f 1 999 := by
  unfold srN at h
  by_cases c : bt3 p 1 9
  · rw [if_neg (fun q => q c)] at h
    by_cases d : bt3 s 1 99 ∧ bt3 r 200 600 ∧ bt3 f 1 999
    · obtain ⟨n, n1, n2, n3⟩ := of_19 c
      exact ⟨n, n1, n2, n3, d⟩
    · rw [if_pos d] at h; cases h
  · rw [if_pos c] at h; cases h
theorem of_rm {w : Nat → Int32} {p : Int32} (h : rmN w p = 0) : ∃ n, p = nI n ∧ 1 ≤ n ∧ n < 10 ∧ hasW w n := by
  unfold rmN at h
  by_cases c : bt3 p 1 9
  · rw [if_neg (fun q => q c)] at h
    obtain ⟨n, n1, n2, n3⟩ := of_19 c
    rw [n1, n_cl (by omega)] at h
    by_cases d : w (48 + 6 * n) = 1
    · exact ⟨n, n1, n2, n3, n2, d⟩
    · rw [if_neg d] at h; cases h
  · rw [if_pos c] at h; cases h
theorem of_se {p v : Int32} (h : seN p v = 0) : ∃ k, p = nI k ∧ k < 7 := by
  unfold seN at h
  by_cases c : bt3 p 0 6
  · obtain ⟨k, hk, e⟩ := sm_of (m := 6) rfl (by decide) c
    exact ⟨k, e, by omega⟩
  · rw [if_pos c] at h; cases h
theorem Ex1.wf {d : Df} {w w' : Nat → Int32} {g g' : Gr} {u u' : Nat → Int64} (hk : kdB d.1) (hw : WFw w g) (h : Ex1 d w g u 0 w' g' u') : WFw w' g' := by
  obtain ⟨h1, h2, h3, h4, h5⟩ := h
  rcases hk with e | e | e | e | e
  · obtain ⟨a, b⟩ := h1 e
    obtain ⟨b1, b2, b3⟩ := b rfl
    rw [b1, b2]; exact (hw.ap a.symm).2.1
  · obtain ⟨a, b⟩ := h2 e
    obtain ⟨b1, b2, b3⟩ := b rfl
    obtain ⟨n, n1, n2, n3, c1, c2, c3⟩ := of_19' a.symm
    rw [b1, b2]; exact hw.st c1 c2 c3
  · obtain ⟨a, b⟩ := h3 e
    obtain ⟨b1, b2, b3⟩ := b rfl
    rw [b1, b2]; exact hw.rm
  · obtain ⟨a, b⟩ := h4 e
    obtain ⟨b1, b2, b3⟩ := b rfl
    obtain ⟨k, k1, k2⟩ := of_se a.symm
    rw [b1, b2, k1, n_cl (by omega)]
    exact hw.se k2 (by rw [← k1]; exact a.symm)
  · rcases h5 e with ⟨-, q⟩ | ⟨-, c, R, D, T, B, S, z, f, v, -, -, ⟨-, -, q1, q2, -⟩ | ⟨-, q⟩⟩
    · cases q
    · rw [q1, q2]; exact hw
    · cases q
theorem ExL_is {l : List Df} : ∀ {w : Nat → Int32} {g : Gr} {u : Nat → Int64}, WFw w g → (∀ d ∈ l, kdB d.1) → ∃ q w' g' u', ExL l w g u q w' g' u' := by
  induction l with
  | nil => intro w g u _ _; exact ⟨0, w, g, u, rfl, rfl, rfl, rfl⟩
  | cons d l ih =>
    intro w g u hw hk
    obtain ⟨q, w1, g1, u1, h⟩ := Ex1_is (u := u) hw (hk d (List.mem_cons_self ..))
    by_cases c : q = 0
    · subst c
      obtain ⟨q, w', g', u', h'⟩ := ih (u := u1) (h.wf (hk d (List.mem_cons_self ..)) hw) (fun e he => hk e (List.mem_cons_of_mem _ he))
      exact ⟨q, w', g', u', .inr ⟨w1, g1, u1, h, h'⟩⟩
    · exact ⟨q, w1, g1, u1, .inl ⟨c, h⟩⟩
/-- all that is read are definitions -/
theorem pT_kd {s : Nat → Nat} {n : Nat} : ∀ (f i : Nat) (l : List Df), i ≤ n → (∀ d ∈ l, kdB d.1) → ∀ d ∈ (pT s n f i l).2.2, kdB d.1
  | 0, i, l, _, h => h
  | f + 1, i, l, hi, h => by
    obtain ⟨e1, e2, e3⟩ := pD_end (s := s) hi
    unfold pT
    by_cases c : (pD s n i).1 = true
    · rw [if_pos c]
      have hl : ∀ d ∈ l ++ [dfO (chT s n i) (pD s n i).2.2], kdB d.1 := fun d hd => by
        rcases List.mem_append.mp hd with q | q
        · exact h d q
        · rw [List.mem_singleton.mp q]; exact (e3 c).2.1
      by_cases t : (pD s n i).2.1 = n
      · rw [if_pos t]; exact hl
      · rw [if_neg t]; exact pT_kd f _ _ e2 hl
    · rw [if_neg c]; exact h
/-! ===== the class carries out a definition ===== -/
theorem i_defR {k : Nat} {a b c d : Int32} {σ : Mem} {K : Int32 → Mem → Prop} {X : String → Mem → Prop} (hk : kdB k) (h1 : k = 112 → sp_X0_pipeReason 1 a b c d σ K X) (h2 : k = 115 → sp_X0_stationReason 1 a b c d σ K X) (h3 : k = 120 → sp_X0_removalReason 1 a σ K X) (h4 : k = 116 → sp_X4_settingReason a b σ K X) (h5 : k = 104 → sp_X4_isWithin a 1 24 σ (fun r99 σ99 => (r99 = 0 → K 2 σ99) ∧ (¬ r99 = 0 → sp_X4_hoursReason σ99 (fun r106 σ106 => K r106 σ106) X)) X) : sp_X4_definitionReason (nI k) a b c d σ K X := by
  have k200 : k < 200 := by rcases hk with e | e | e | e | e <;> omega
  have hE : ∀ {c : Nat}, c < 1000 → (nI k = nI c ↔ k = c) := fun hc => nI_eq (by omega) (by omega)
  have no : ∀ {c : Nat} {P : Prop}, c < 1000 → ¬ kdB c → nI k = nI c → P := fun hc hb e => absurd (by rw [← (hE hc).mp e]; exact hk) hb
  refine ⟨fun q => h1 ((hE (c := 112) (by decide)).mp q), fun q => no (c := 113) (by decide) (by unfold kdB; omega) q, fun q => no (c := 114) (by decide) (by unfold kdB; omega) q, fun q => h2 ((hE (c := 115) (by decide)).mp q), fun q => h4 ((hE (c := 116) (by decide)).mp q), fun q => no (c := 117) (by decide) (by unfold kdB; omega) q, fun q => no (c := 118) (by decide) (by unfold kdB; omega) q, fun q => no (c := 119) (by decide) (by unfold kdB; omega) q, fun q => h3 ((hE (c := 120) (by decide)).mp q), fun q1 _ _ q4 q5 _ _ _ q9 => h5 ?_⟩
  rcases hk with e | e | e | e | e
  · exact absurd (by rw [e]; rfl) q1
  · exact absurd (by rw [e]; rfl) q4
  · exact absurd (by rw [e]; rfl) q9
  · exact absurd (by rw [e]; rfl) q5
  · exact e
/-- only the class's network, and that the state is found no more, has changed -/
def ChO (σ τ : Mem) : Prop := (∀ a k, (a = 0 ∧ k ≠ 11) ∨ 14 < a → τ.1 a k = σ.1 a k) ∧ (∀ a k, a = 0 ∨ 14 < a → τ.2.1 a k = σ.2.1 a k) ∧ τ.2.2 = σ.2.2
theorem o_chn {σ τ : Mem} (h : ChN σ τ) : ChO σ τ := ⟨fun a k q => (h.1 a k (by omega)).1, fun a k q => (h.1 a k (by omega)).2, h.2⟩
theorem o0_chn {σ τ : Mem} (h : ChN σ τ) (v : Int32) : ChO σ (wi τ 0 11 v) := ⟨fun a k q => by rw [wi_i, if_neg (by omega)]; exact (h.1 a k (by omega)).1, fun a k q => (h.1 a k (by omega)).2, h.2⟩
theorem i_carry {i : Nat} {d : Df} {w : Nat → Int32} {g : Gr} {u : Nat → Int64} {σ : Mem} {K : Int32 → Mem → Prop} {X : String → Mem → Prop} (hi : i < 20) (hw : WFw w g) (hN : NS σ 1 w g u) (hd : σ.1 81 i = nI d.1) (hk : kdB d.1) (hs : ∀ y, (∃ k, k ≠ 0 ∧ (k, y) ∈ tkK d.1) → y < 4 ∧ σ.1 82 (4 * i + y) = d.2 y) (hS : d.1 = 104 → ¬ σ.1 0 11 = 0 ∧ ∃ c R D T B S z, Sett w g c R D T B S z σ)
    (h0 : ∀ (τ : Mem) (w' : Nat → Int32) (g' : Gr) (u' : Nat → Int64), Ex1 d w g u 0 w' g' u' → NS τ 1 w' g' u' → ChO σ τ → (¬ τ.1 0 11 = 0 → SettE w' g' τ) → K 0 τ)
    (h1 : ∀ (q : Nat) (w' : Nat → Int32) (g' : Gr) (u' : Nat → Int64), q ≠ 0 → q ≤ 7 → Ex1 d w g u q w' g' u' → K (nI q) σ) : sp_X4_carryOut (nI i) σ K X := by
  have hg := hw.2.1.1
  have ix : ∀ y, nI i * 4 + nI y = nI (4 * i + y) := fun y => by rw [show (4 : Int32) = nI 4 from rfl, nI_mul, nI_add, Nat.mul_comm]
  have vo : ∀ (y : Nat) (Q : Int32 → Mem → Prop), y < 4 → Q (σ.1 82 (4 * i + y)) σ → sp_X3_valueOf (nI i) (nI y) σ Q X := fun y Q hy hQ => by
    unfold sp_X3_valueOf
    rw [ix y, n_cl (by omega)]
    exact ⟨n_inR (by omega) (by decide), hQ⟩
  have hin := n_inR (n := i) (N := 20) hi (by decide)
  refine vo 0 _ (by decide) (vo 1 _ (by decide) (vo 2 _ (by decide) (vo 3 _ (by decide) ⟨hin, ?_⟩)))
  rw [n_cl (by omega), hd]
  have k200 : d.1 < 200 := by rcases hk with e | e | e | e | e <;> omega
  have hE : ∀ {c : Nat}, c < 1000 → (nI d.1 = nI c ↔ d.1 = c) := fun hc => nI_eq (by omega) (by omega)
  have no : ∀ {c : Nat} {P : Prop}, c < 1000 → ¬ kdB c → nI d.1 = nI c → P := fun hc hb e => absurd (by rw [← (hE hc).mp e]; exact hk) hb
  have ne0 : ∀ {q : Nat}, q ≤ 7 → (nI q = 0 ↔ q = 0) := fun hq => nI_eq (a := _) (b := 0) (by omega) (by decide)
  refine i_defR hk (fun e => ?_) (fun e => ?_) (fun e => ?_) (fun e => ?_) (fun e => ?_)
  · have v0 := (hs 0 (by rw [e]; exact ⟨1, by decide, by decide⟩)).2
    have v1 := (hs 1 (by rw [e]; exact ⟨1, by decide, by decide⟩)).2
    have v2 := (hs 2 (by rw [e]; exact ⟨3, by decide, by decide⟩)).2
    have v3 := (hs 3 (by rw [e]; exact ⟨3, by decide, by decide⟩)).2
    rw [v0, v1, v2, v3]
    refine i_X0_pipeReason netA_1 hw.2.1 hN.1.2.1 ⟨fun q => ⟨hin, ?_⟩, fun q => ?_⟩
    · have q' := (ne0 prN_le).mp q
      rw [hd]
      refine ⟨fun _ => ?_, fun q => no (c := 113) (by decide) (by unfold kdB; omega) q, fun q => no (c := 114) (by decide) (by unfold kdB; omega) q, fun q => ?_, fun q => ?_, fun q => no (c := 117) (by decide) (by unfold kdB; omega) q, fun q => no (c := 118) (by decide) (by unfold kdB; omega) q, fun q => no (c := 119) (by decide) (by unfold kdB; omega) q, fun q => ?_, fun q1 _ _ _ _ _ _ _ _ => absurd (by rw [e]; rfl) q1⟩
      · obtain ⟨g10, -, un, vn, -, -, ea, eb, eG⟩ := hw.ap q'
        refine i_putPipe g10 ea eb hN (fun τ hC hN' σ197 e197 => ?_)
        refine h0 σ197 _ _ _ ⟨fun _ => ⟨q'.symm, fun _ => ⟨rfl, rfl, rfl⟩⟩, fun q => by omega, fun q => by omega, fun q => by omega, fun q => by omega⟩ ?_ ?_ ?_
        · rw [e197, eG]; exact hN'.fr (fun o k ho => by rw [wi_i, if_neg (by omega)]) (fun o k ho => rfl)
        · rw [e197]; exact o0_chn hC 0
        · intro z; rw [e197, wi_at] at z; exact absurd rfl z
      · exact absurd ((hE (c := 115) (by decide)).mp q) (by omega)
      · exact absurd ((hE (c := 116) (by decide)).mp q) (by omega)
      · exact absurd ((hE (c := 120) (by decide)).mp q) (by omega)
    · exact h1 _ w g u (fun z => q (by rw [z]; rfl)) prN_le ⟨fun _ => ⟨rfl, fun z => absurd (by rw [z]; rfl) q⟩, fun q => by omega, fun q => by omega, fun q => by omega, fun q => by omega⟩
  · have v0 := (hs 0 (by rw [e]; exact ⟨1, by decide, by decide⟩)).2
    have v1 := (hs 1 (by rw [e]; exact ⟨3, by decide, by decide⟩)).2
    have v2 := (hs 2 (by rw [e]; exact ⟨3, by decide, by decide⟩)).2
    have v3 := (hs 3 (by rw [e]; exact ⟨3, by decide, by decide⟩)).2
    rw [v0, v1, v2, v3]
    refine i_srC hw hN.1 ⟨fun q => ⟨hin, ?_⟩, fun q => ?_⟩
    · have q' := (ne0 srN_le).mp q
      rw [hd]
      refine ⟨fun q => ?_, fun q => no (c := 113) (by decide) (by unfold kdB; omega) q, fun q => no (c := 114) (by decide) (by unfold kdB; omega) q, fun _ => ?_, fun q => ?_, fun q => no (c := 117) (by decide) (by unfold kdB; omega) q, fun q => no (c := 118) (by decide) (by unfold kdB; omega) q, fun q => no (c := 119) (by decide) (by unfold kdB; omega) q, fun q => ?_, fun _ _ _ q4 _ _ _ _ _ => absurd (by rw [e]; rfl) q4⟩
      · exact absurd ((hE (c := 112) (by decide)).mp q) (by omega)
      · obtain ⟨n, n1, n2, n3, -⟩ := of_19' q'
        have ec : (d.2 0).toNatClampNeg = n := by rw [n1]; exact n_cl (by omega)
        rw [n1]
        refine i_putSt hg hN n2 n3 (fun τ hC hN' σ197 e197 => ?_)
        refine h0 σ197 _ _ _ ⟨fun q => by omega, fun _ => ⟨q'.symm, fun _ => ⟨rfl, rfl, rfl⟩⟩, fun q => by omega, fun q => by omega, fun q => by omega⟩ ?_ ?_ ?_
        · rw [e197, ec]; exact hN'.fr (fun o k ho => by rw [wi_i, if_neg (by omega)]) (fun o k ho => rfl)
        · rw [e197]; exact o0_chn hC 0
        · intro z; rw [e197, wi_at] at z; exact absurd rfl z
      · exact absurd ((hE (c := 116) (by decide)).mp q) (by omega)
      · exact absurd ((hE (c := 120) (by decide)).mp q) (by omega)
    · exact h1 _ w g u (fun z => q (by rw [z]; rfl)) srN_le ⟨fun q => by omega, fun _ => ⟨rfl, fun z => absurd (by rw [z]; rfl) q⟩, fun q => by omega, fun q => by omega, fun q => by omega⟩
  · have v0 := (hs 0 (by rw [e]; exact ⟨1, by decide, by decide⟩)).2
    rw [v0]
    refine i_rmC hw hN.1 ⟨fun q => ⟨hin, ?_⟩, fun q => ?_⟩
    · have q' := (ne0 rmN_le).mp q
      rw [hd]
      refine ⟨fun q => ?_, fun q => no (c := 113) (by decide) (by unfold kdB; omega) q, fun q => no (c := 114) (by decide) (by unfold kdB; omega) q, fun q => ?_, fun q => ?_, fun q => no (c := 117) (by decide) (by unfold kdB; omega) q, fun q => no (c := 118) (by decide) (by unfold kdB; omega) q, fun q => no (c := 119) (by decide) (by unfold kdB; omega) q, fun _ => ?_, fun _ _ _ _ _ _ _ _ q9 => absurd (by rw [e]; rfl) q9⟩
      · exact absurd ((hE (c := 112) (by decide)).mp q) (by omega)
      · exact absurd ((hE (c := 115) (by decide)).mp q) (by omega)
      · exact absurd ((hE (c := 116) (by decide)).mp q) (by omega)
      · obtain ⟨n, n1, n2, n3, -⟩ := of_rm q'
        have ec : (d.2 0).toNatClampNeg = n := by rw [n1]; exact n_cl (by omega)
        rw [n1]
        refine i_dropSt hg hN n3 (fun τ hC hN' σ197 e197 => ?_)
        refine h0 σ197 _ _ _ ⟨fun q => by omega, fun q => by omega, fun _ => ⟨q'.symm, fun _ => ⟨rfl, rfl, rfl⟩⟩, fun q => by omega, fun q => by omega⟩ ?_ ?_ ?_
        · rw [e197, ec]; exact hN'.fr (fun o k ho => by rw [wi_i, if_neg (by omega)]) (fun o k ho => rfl)
        · rw [e197]; exact o0_chn hC 0
        · intro z; rw [e197, wi_at] at z; exact absurd rfl z
    · exact h1 _ w g u (fun z => q (by rw [z]; rfl)) rmN_le ⟨fun q => by omega, fun q => by omega, fun _ => ⟨rfl, fun z => absurd (by rw [z]; rfl) q⟩, fun q => by omega, fun q => by omega⟩
  · have v0 := (hs 0 (by rw [e]; exact ⟨1, by decide, by decide⟩)).2
    have v1 := (hs 1 (by rw [e]; exact ⟨4, by decide, by decide⟩)).2
    rw [v0, v1]
    refine i_seC ⟨fun q => ⟨hin, ?_⟩, fun q => ?_⟩
    · have q' := (ne0 seN_le).mp q
      rw [hd]
      refine ⟨fun q => ?_, fun q => no (c := 113) (by decide) (by unfold kdB; omega) q, fun q => no (c := 114) (by decide) (by unfold kdB; omega) q, fun q => ?_, fun _ => ?_, fun q => no (c := 117) (by decide) (by unfold kdB; omega) q, fun q => no (c := 118) (by decide) (by unfold kdB; omega) q, fun q => no (c := 119) (by decide) (by unfold kdB; omega) q, fun q => ?_, fun _ _ _ _ q5 _ _ _ _ => absurd (by rw [e]; rfl) q5⟩
      · exact absurd ((hE (c := 112) (by decide)).mp q) (by omega)
      · exact absurd ((hE (c := 115) (by decide)).mp q) (by omega)
      · obtain ⟨k, k1, k2⟩ := of_se q'
        have ec : (d.2 0).toNatClampNeg = k := by rw [k1]; exact n_cl (by omega)
        rw [ec]
        refine ⟨by rw [k1]; exact n_inR k2 (by decide), fun σ184 e184 σ197 e197 => ?_⟩
        have hC : ChN σ σ184 := by rw [e184]; exact (ChN.rfl' σ).wi (by decide) (by decide)
        refine h0 σ197 _ _ _ ⟨fun q => by omega, fun q => by omega, fun q => by omega, fun _ => ⟨q'.symm, fun _ => ⟨rfl, rfl, rfl⟩⟩, fun q => by omega⟩ ?_ ?_ ?_
        · rw [e197, ec]
          have hN' := hN.se (v := d.2 1) hg k2
          rw [← e184] at hN'
          exact hN'.fr (fun o k ho => by rw [wi_i, if_neg (by omega)]) (fun o k ho => rfl)
        · rw [e197]; exact o0_chn hC 0
        · intro z; rw [e197, wi_at] at z; exact absurd rfl z
      · exact absurd ((hE (c := 120) (by decide)).mp q) (by omega)
    · exact h1 _ w g u (fun z => q (by rw [z]; rfl)) seN_le ⟨fun q => by omega, fun q => by omega, fun q => by omega, fun _ => ⟨rfl, fun z => absurd (by rw [z]; rfl) q⟩, fun q => by omega⟩
  · have v0 := (hs 0 (by rw [e]; exact ⟨3, by decide, by decide⟩)).2
    rw [v0]
    obtain ⟨h11, c, R, D, T, B, S, z, hSt⟩ := hS e
    have mk : ∀ {q : Nat} {u' : Nat → Int64}, ((¬ bt3 (d.2 0) 1 24 ∧ q = 2) ∨ (bt3 (d.2 0) 1 24 ∧ ∃ (c : Lp) (R : Nat) (D T : Nat → Nat → Nat) (B S : Nat → Nat) (z : Int) (f : Nat → Int32) (v : Int64), Sol w g c R D T B S z f ∧ Need w g c (D R) B z v ∧ ((v ≤ (w 4).toInt64 ∧ q = 0 ∧ w = w ∧ g = g ∧ HrU w u (D R) (T R) (B 0) (S 0) (d.2 0) u') ∨ (¬ v ≤ (w 4).toInt64 ∧ q = 7)))) → Ex1 d w g u q w g u' := fun hq => ⟨fun q => by omega, fun q => by omega, fun q => by omega, fun q => by omega, fun _ => hq⟩
    refine i_X4_isWithin ?_
    by_cases b : bt3 (d.2 0) 1 24
    · rw [if_pos b]
      refine ⟨fun q => absurd q (by decide), fun _ => i_hoursR hw hN.1 hSt (fun v hv => ⟨fun t => ⟨fun _ => ⟨hin, ?_⟩, fun q => absurd rfl q⟩, fun t => ⟨fun q => absurd q (by decide), fun _ => ?_⟩⟩)⟩
      · rw [hd]
        have ps : sp_X4_passHours (d.2 0) σ (fun σ190 => K 0 σ190) X := i_passH hw hN hSt.1.1 hSt.2.2 (fun τ hC e1 hu => h0 τ w g _ (mk (u' := hrV w u (D R) (T R) (B 0) (S 0) (d.2 0)) (.inr ⟨b, c, R, D, T, B, S, z, _, v, hSt.sol, hv, .inl ⟨t, rfl, rfl, rfl, hrV_is⟩⟩)) (hu _ hrV_is) (o_chn hC) (fun _ => ⟨c, R, D, T, B, S, z, hSt.fs ⟨by rw [e1], fun a k p q => by rw [e1], fun a k p q => (hC.1 a k (by omega)).2⟩⟩))
        refine ⟨fun q => ?_, fun _ => ps, fun _ => ps, fun q => ?_, fun q => ?_, fun _ => ps, fun _ => ps, fun _ => ps, fun q => ?_, fun _ _ _ _ _ _ _ _ _ => ps⟩
        · exact absurd ((hE (c := 112) (by decide)).mp q) (by omega)
        · exact absurd ((hE (c := 115) (by decide)).mp q) (by omega)
        · exact absurd ((hE (c := 116) (by decide)).mp q) (by omega)
        · exact absurd ((hE (c := 120) (by decide)).mp q) (by omega)
      · exact h1 7 w g u (by decide) (by decide) (mk (.inr ⟨b, c, R, D, T, B, S, z, _, v, hSt.sol, hv, .inr ⟨t, rfl⟩⟩))
    · rw [if_neg b]
      exact ⟨fun _ => ⟨fun q => absurd q (by decide), fun _ => h1 2 w g u (by decide) (by decide) (mk (.inl ⟨b, rfl⟩))⟩, fun q => absurd rfl q⟩
