/-! ===== the reason for which a pipe is refused ===== -/
theorem of_rng {v M : Int32} {m : Nat} (hM : M = nI m) (hm : m < 1000) (h : ¬ v < 1 ∧ ¬ M < v) : ∃ n, 1 ≤ n ∧ n ≤ m ∧ v = nI n := by
  have h0 : ¬ v < 0 := fun q => h.1 (by
    rw [Int32.lt_iff_toInt_lt] at q ⊢
    have e0 : (0 : Int32).toInt = 0 := rfl
    have e1 : (1 : Int32).toInt = 1 := rfl
    rw [e0] at q; rw [e1]; omega)
  obtain ⟨j, j1, j2⟩ := nI_of h0
  rw [j2, hM] at h
  refine ⟨j, ?_, ?_, j2⟩
  · apply Classical.byContradiction
    intro w
    exact h.1 (nI_lt (b := 1) (by omega) (by decide))
  · apply Classical.byContradiction
    intro w
    exact h.2 (nI_lt (a := m) (by omega) j1)
theorem hpB_ac {σ : Mem} {a : Nat} {g : Gr} (hg : WG g) (hG : GC σ a g) {u v : Nat} (hu : u < 10) (hv : v < 10) : hpB σ a (nI u) (nI v) g.1 = (List.range g.1).any (fun p => decide (ac g p u = some v)) := by
  unfold hpB
  have : ∀ p, p < g.1 → (decide (feC σ a p (nI u) = nI v)) = decide (ac g p u = some v) := fun p hp => by
    rw [fec_ac hg hG hp hu]
    exact decide_eq_decide.mpr (fI_some hv (fun d hd => (ac_lt hg hp hd).1))
  rw [Bool.eq_iff_iff, List.any_eq_true, List.any_eq_true]
  constructor
  · rintro ⟨p, p1, p2⟩; exact ⟨p, p1, by rw [← this p (List.mem_range.mp p1)]; exact p2⟩
  · rintro ⟨p, p1, p2⟩; exact ⟨p, p1, by rw [this p (List.mem_range.mp p1)]; exact p2⟩
theorem i_X0_pipeReason {a : Nat} {u v l r : Int32} {σ : Mem} {K : Int32 → Mem → Prop} {X : String → Mem → Prop} (ha : NetA a) {g : Gr} (hg : WG g) (hG : GC σ a g) (h : K (nI (prN g u v l r)) σ) : sp_X0_pipeReason a u v l r σ K X := by
  have hP := hg.1
  refine ⟨ha, i_X4_isNode ⟨fun c => ?_, fun c => i_X4_isNode ⟨fun d => ?_, fun d => ?_⟩⟩⟩
  · have hu : ¬ (¬ u < 0 ∧ ¬ 9 < u) := fun w => by rw [if_pos w] at c; exact absurd c (by decide)
    unfold prN at h
    rw [if_pos (fun w => hu w.1)] at h
    exact h
  · have hu : (¬ u < 0 ∧ ¬ 9 < u) := Classical.byContradiction fun w => c (by rw [if_neg w])
    have hv : (¬ v < 0 ∧ ¬ 9 < v) := Classical.byContradiction fun w => d (by rw [if_neg w])
    obtain ⟨un, un1, un2⟩ := of_node hu
    obtain ⟨vn, vn1, vn2⟩ := of_node hv
    unfold prN at h
    rw [if_neg (fun w => w ⟨hu, hv⟩)] at h
    refine i_X4_isWithin ⟨fun e => ?_, fun e => i_X4_isWithin ⟨fun f => ?_, fun f => ?_⟩⟩
    · have hl : ¬ (¬ l < 1 ∧ ¬ 99 < l) := fun w => by rw [if_pos w] at e; exact absurd e (by decide)
      rw [if_pos (fun w => hl w.1)] at h
      exact h
    · have hl : (¬ l < 1 ∧ ¬ 99 < l) := Classical.byContradiction fun w => e (by rw [if_neg w])
      have hr : (¬ r < 1 ∧ ¬ 9 < r) := Classical.byContradiction fun w => f (by rw [if_neg w])
      rw [if_neg (fun w => w ⟨hl, hr⟩), un2, vn2, n_cl (n := un) (by omega), n_cl (n := vn) (by omega)] at h
      rw [un2, vn2]
      refine ⟨fun c1 => ?_, fun c1 => ⟨ha, g.1, hP, hG.1, ?_⟩⟩
      · rw [if_pos (.inl c1)] at h; exact h
      · have hne : un ≠ vn := fun w => c1 (by rw [w])
        rw [hpB_ac hg hG un1 vn1]
        by_cases c2 : (List.range g.1).any (fun p => decide (ac g p un = some vn)) = true
        · rw [if_pos (.inr c2)] at h
          rw [if_pos c2]
          exact ⟨fun q => absurd q (by decide), fun _ => h⟩
        · rw [if_neg (fun q => by rcases q with q | q; exact c1 q; exact c2 q)] at h
          rw [if_neg c2]
          refine ⟨fun _ => ?_, fun q => absurd rfl q⟩
          rw [hG.1]
          refine ⟨fun q => ?_, fun q => ?_⟩
          · have hlt : g.1 < 10 := (nI_ltI (b := 10) (by omega) (by decide)).mp q
            rw [if_neg (by omega)] at h
            refine ⟨ha, g, un, hg, hG, un1, rfl, fun y1 hy1 => ⟨ha, g, vn, hg, hG, vn1, rfl, fun y2 hy2 v77 e77 => ⟨ha, g.1, hP, hG.1, ?_⟩⟩⟩
            have hwA := add_wg hg hlt un1 vn1 hne
            have hun := add_nds hg hlt un1 vn1 hne
            have hJ : Bs v77 (fun n => decide (n ∈ nds (bfs (addG g un vn) un))) := by
              rw [e77]
              refine (hy1.or hy2).congr (fun i hi => ?_)
              rw [Bool.eq_iff_iff, Bool.or_eq_true, decide_eq_true_iff, decide_eq_true_iff, decide_eq_true_iff]
              exact (hun i).symm
            have hw : ctB (pwB σ a v77) g.1 + 1 = pipA g un vn := by
              unfold pipA
              show _ = ctB _ g.1 + if decide ((addG g un vn).2.1 g.1 ∈ nds (bfs (addG g un vn) un)) = true then 1 else 0
              have h1 : decide ((addG g un vn).2.1 g.1 ∈ nds (bfs (addG g un vn) un)) = true := by
                rw [decide_eq_true_iff]
                show (if g.1 = g.1 then un else g.2.1 g.1) ∈ _
                rw [if_pos rfl]
                exact (bfs_tre hwA un1).src.1
              rw [if_pos h1]
              congr 1
              refine ctB_congr (fun p hp => ?_)
              obtain ⟨p1, -⟩ := hG.2 p hp
              obtain ⟨w1, -, -⟩ := hg.2 p hp
              unfold pwB
              rw [p1]
              have hz := hJ.and0 (Bs.one w1)
              have : (addG g un vn).2.1 p = g.2.1 p := by
                show (if p = g.1 then un else g.2.1 p) = _
                rw [if_neg (by omega)]
              rw [this]
              rw [Bool.eq_iff_iff, decide_eq_true_iff, decide_eq_true_iff]
              constructor
              · intro q
                apply Classical.byContradiction
                intro w
                refine q (hz.mpr (fun i hi ⟨z1, z2⟩ => w ?_))
                rw [← of_decide_eq_true z2]
                exact of_decide_eq_true z1
              · intro q w
                exact hz.mp w _ w1 ⟨decide_eq_true q, by simp⟩
            intro v9 e9 v23 e23 v33 e33 v40 e40 v47 e47
            have hbc : (v47 &&& 63) = nI (ndsA g un vn) := by
              rw [e47, e40, e33, e23, e9]
              exact hJ.cnt
            have b1 : ndsA g un vn ≤ 10 := ctB_le _ 10
            have b2 : pipA g un vn ≤ g.1 + 1 := ctB_le _ (g.1 + 1)
            rw [hbc, nI_1, hw]
            refine ⟨fun z => ?_, fun z => ?_⟩
            · rw [if_pos (n_le (by omega) (by omega) z)] at h; exact h
            · rw [if_neg (fun w => z (nI_le w (by omega)))] at h; exact h
          · have hge : g.1 = 10 := by
              apply Classical.byContradiction
              intro w
              exact q (nI_lt (b := 10) (by omega) (by decide))
            rw [if_pos hge] at h
            exact h
    · have hr : ¬ (¬ r < 1 ∧ ¬ 9 < r) := fun w => by rw [if_pos w] at f; exact absurd f (by decide)
      rw [if_pos (fun w => hr w.2)] at h
      exact h
  · have hv : ¬ (¬ v < 0 ∧ ¬ 9 < v) := fun w => by rw [if_pos w] at d; exact absurd d (by decide)
    unfold prN at h
    rw [if_pos (fun w => hv w.2)] at h
    exact h
/-- what an accepted pipe is -/
theorem prN_0 {g : Gr} {u v l r : Int32} (ho : Own g) (hn : NoPar g) (hg : WG g) (h : prN g u v l r = 0) : ∃ un vn ln rn, un < 10 ∧ vn < 10 ∧ u = nI un ∧ v = nI vn ∧ 1 ≤ ln ∧ ln ≤ 99 ∧ l = nI ln ∧ 1 ≤ rn ∧ rn ≤ 9 ∧ r = nI rn ∧ g.1 < 10 ∧ WG (addG g un vn) ∧ Own (addG g un vn) ∧ NoPar (addG g un vn) := by
  have hP := hg.1
  unfold prN at h
  by_cases c1 : (¬ u < 0 ∧ ¬ 9 < u) ∧ (¬ v < 0 ∧ ¬ 9 < v)
  · rw [if_neg (fun w => w c1)] at h
    obtain ⟨un, un1, un2⟩ := of_node c1.1
    obtain ⟨vn, vn1, vn2⟩ := of_node c1.2
    by_cases c2 : (¬ l < 1 ∧ ¬ 99 < l) ∧ (¬ r < 1 ∧ ¬ 9 < r)
    · rw [if_neg (fun w => w c2)] at h
      obtain ⟨ln, l1, l2, l3⟩ := of_rng (m := 99) rfl (by decide) c2.1
      obtain ⟨rn, r1, r2, r3⟩ := of_rng (m := 9) rfl (by decide) c2.2
      by_cases c3 : u = v ∨ (List.range g.1).any (fun p => decide (ac g p u.toNatClampNeg = some v.toNatClampNeg)) = true
      · rw [if_pos c3] at h; cases h
      · rw [if_neg c3] at h
        by_cases c4 : g.1 = 10
        · rw [if_pos c4] at h; cases h
        · rw [if_neg c4, un2, vn2, n_cl (n := un) (by omega), n_cl (n := vn) (by omega)] at h
          by_cases c5 : pipA g un vn ≤ ndsA g un vn
          · have hne : un ≠ vn := fun w => c3 (.inl (by rw [un2, vn2, w]))
            have hwA := add_wg hg (by omega) un1 vn1 hne
            refine ⟨un, vn, ln, rn, un1, vn1, un2, vn2, l1, l2, l3, r1, r2, r3, by omega, hwA, add_own' ho hwA un1 c5, add_nopar hn hne (fun p hp e => c3 (.inr ?_))⟩
            rw [un2, vn2, n_cl (n := un) (by omega), n_cl (n := vn) (by omega), List.any_eq_true]
            exact ⟨p, List.mem_range.mpr hp, decide_eq_true e⟩
          · rw [if_neg c5] at h; cases h
    · rw [if_pos c2] at h; cases h
  · rw [if_pos c1] at h; cases h
/-- of the reference only a new pipe's place and the rows of a look have changed -/
def ChQ (P : Nat) (σ τ : Mem) : Prop := (∀ a k, a < 209 ∨ (210 < a ∧ a < 219) ∨ 232 < a → τ.1 a k = σ.1 a k ∧ τ.2.1 a k = σ.2.1 a k) ∧ (∀ k, k ≠ 22 → k ≠ 32 → τ.1 209 k = σ.1 209 k) ∧ (∀ k, k ≠ 31 → τ.2.1 209 k = σ.2.1 209 k) ∧ (∀ k, k ≠ 7 → k < 8 + 4 * P ∨ 8 + 4 * P + 4 ≤ k → τ.1 210 k = σ.1 210 k) ∧ (∀ k, τ.2.1 210 k = σ.2.1 210 k) ∧ τ.2.2 = σ.2.2
theorem ChM.q {P : Nat} {σ τ : Mem} (h : ChM σ τ) : ChQ P σ τ := ⟨fun a k q => h.1 a k (by omega), h.2.1, h.2.2.1, fun k _ _ => (h.1 210 k (by omega)).1, fun k => (h.1 210 k (by omega)).2, h.2.2.2⟩
theorem ChQ.trans {P : Nat} {σ τ υ : Mem} (h : ChQ P σ τ) (k : ChQ P τ υ) : ChQ P σ υ :=
  ⟨fun a j q => ⟨(k.1 a j q).1.trans (h.1 a j q).1, (k.1 a j q).2.trans (h.1 a j q).2⟩, fun j h1 h2 => (k.2.1 j h1 h2).trans (h.2.1 j h1 h2), fun j h1 => (k.2.2.1 j h1).trans (h.2.2.1 j h1), fun j h1 h2 => (k.2.2.2.1 j h1 h2).trans (h.2.2.2.1 j h1 h2), fun j => (k.2.2.2.2.1 j).trans (h.2.2.2.2.1 j), k.2.2.2.2.2.trans h.2.2.2.2.2⟩
theorem ChQ.w {P : Nat} {σ τ : Mem} (h : ChQ P σ τ) {k : Nat} {v : Int32} (hk : k = 7 ∨ (8 + 4 * P ≤ k ∧ k < 8 + 4 * P + 4)) : ChQ P σ (wi τ 210 k v) :=
  ⟨fun b j q => ⟨by rw [wi_i, if_neg (fun w => by omega)]; exact (h.1 b j q).1, (h.1 b j q).2⟩, fun j q1 q2 => by rw [wi_i, if_neg (fun w => by omega)]; exact h.2.1 j q1 q2, h.2.2.1, fun j q1 q2 => by rw [wi_i, if_neg (fun w => by omega)]; exact h.2.2.2.1 j q1 q2, h.2.2.2.2.1, h.2.2.2.2.2⟩
