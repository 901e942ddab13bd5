/-! ===== the class's looks at numbers of nodes and pipes, as branches on the sign ===== -/
theorem i_X4_isPipe {p0 : Int32} {σ : Mem} {K : Int32 → Mem → Prop} {X : String → Mem → Prop} (h : K (if ¬ p0 < 0 ∧ ¬ 10 ≤ p0 then 1 else 0) σ) : sp_X4_isPipe p0 σ K X := by
  refine ⟨fun c => ?_, fun c => ⟨fun d => ?_, fun d => ?_⟩⟩
  · rw [if_neg (fun q => q.1 c)] at h; exact h
  · rw [if_neg (fun q => q.2 d)] at h; exact h
  · rw [if_pos ⟨c, d⟩] at h; exact h
theorem pipe_in {p : Nat} (hp : p < 10) : ¬ (10 : Int32) ≤ nI p := fun c => (lit_ge (by decide) hp c).elim
theorem ge0_lt (v : Int32) : 0 ≤ v ↔ ¬ v < 0 := by
  rw [Int32.le_iff_toInt_le, Int32.lt_iff_toInt_lt]; omega
theorem isNode_br {v : Int32} {σ : Mem} {A B : Mem → Prop} {X : String → Mem → Prop} (hv : ¬ 9 < v) (h : (v < 0 → A σ) ∧ (¬ v < 0 → B σ)) : sp_X4_isNode v σ (fun r τ => (r = 0 → A τ) ∧ (¬ r = 0 → B τ)) X := by
  refine i_X4_isNode ⟨fun e => h.1 (Classical.byContradiction fun c => ?_), fun e => h.2 (fun c => ?_)⟩
  · rw [if_pos ⟨c, hv⟩] at e; exact absurd e (by decide)
  · rw [if_neg (fun q => q.1 c)] at e; exact e rfl
theorem isNode_rb {v : Int32} {σ : Mem} {A B : Mem → Prop} {X : String → Mem → Prop} (hv : ¬ 9 < v) (h : (0 ≤ v → B σ) ∧ (¬ 0 ≤ v → A σ)) : sp_X4_isNode v σ (fun r τ => (¬ r = 0 → B τ) ∧ (r = 0 → A τ)) X := by
  have z := ge0_lt v
  refine i_X4_isNode ⟨fun e => h.1 (Classical.byContradiction fun c => ?_), fun e => h.2 (fun c => ?_)⟩
  · rw [if_neg (fun q => c (z.mpr q.1))] at e; exact e rfl
  · rw [if_pos ⟨z.mp c, hv⟩] at e; exact absurd e (by decide)
theorem isPipe_br {v : Int32} {σ : Mem} {A B : Mem → Prop} {X : String → Mem → Prop} (hv : ¬ 10 ≤ v) (h : (v < 0 → A σ) ∧ (¬ v < 0 → B σ)) : sp_X4_isPipe v σ (fun r τ => (r = 0 → A τ) ∧ (¬ r = 0 → B τ)) X := by
  refine i_X4_isPipe ⟨fun e => h.1 (Classical.byContradiction fun c => ?_), fun e => h.2 (fun c => ?_)⟩
  · rw [if_pos ⟨c, hv⟩] at e; exact absurd e (by decide)
  · rw [if_neg (fun q => q.1 c)] at e; exact e rfl
theorem isPipe_rb {v : Int32} {σ : Mem} {A B : Mem → Prop} {X : String → Mem → Prop} (hv : ¬ 10 ≤ v) (h : (0 ≤ v → B σ) ∧ (¬ 0 ≤ v → A σ)) : sp_X4_isPipe v σ (fun r τ => (¬ r = 0 → B τ) ∧ (r = 0 → A τ)) X := by
  have z := ge0_lt v
  refine i_X4_isPipe ⟨fun e => h.1 (Classical.byContradiction fun c => ?_), fun e => h.2 (fun c => ?_)⟩
  · rw [if_neg (fun q => c (z.mpr q.1))] at e; exact e rfl
  · rw [if_pos ⟨z.mp c, hv⟩] at e; exact absurd e (by decide)
theorem i_X2_putInOrder {t n : Nat} {v : Int32} {σ : Mem} {K : Int32 → Mem → Prop} {X : String → Mem → Prop} (ht : StaA t) (hn : n < 10) (h : K (nI (n + 1)) (wi σ (t + 5) n v)) : sp_X2_putInOrder t v (nI n) σ K X := by
  refine ⟨ht, fun _ => ⟨n_inR hn (by decide), fun τ e => ?_⟩, fun c => absurd (nI_lt (b := 10) hn (by decide)) c⟩
  rw [e, n_cl (by omega), nI_1]
  exact h
