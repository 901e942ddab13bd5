/-! ===== what a station draws ===== -/
def outZ (w : Nat → Int32) : Int := (w 2).toInt
def wtW (w : Nat → Int32) (n : Nat) : Nat := nV (w (48 + 6 * n + 1)) * (200 - outZ w).toNat
def hasB (w : Nat → Int32) (n : Nat) : Bool := decide (1 ≤ n ∧ w (48 + 6 * n) = 1)
theorem hasB_iff {w : Nat → Int32} {n : Nat} : hasB w n = true ↔ hasW w n := by unfold hasB hasW; exact decide_eq_true_iff
def drW (w : Nat → Int32) (L : List Rec) (T n : Nat) : Nat := if (hasB w n && (decide (n ∈ nds L) && decide (nV (w (48 + 6 * n + 2)) + 50 ≤ T))) = true then min ((wtW w n + (T - nV (w (48 + 6 * n + 2))) - 1) / (T - nV (w (48 + 6 * n + 2)))) (nV (w (48 + 6 * n + 3))) else 0
theorem drW_bd {w : Nat → Int32} {g : Gr} {L : List Rec} (hw : WFw w g) {T n : Nat} (hn : n < 10) : drW w L T n ≤ 999 ∧ (¬ hasW w n → drW w L T n = 0) ∧ (n ∉ nds L → drW w L T n = 0) := by
  unfold drW
  refine ⟨?_, fun q => ?_, fun q => ?_⟩
  · by_cases c : (hasB w n && (decide (n ∈ nds L) && decide (nV (w (48 + 6 * n + 2)) + 50 ≤ T))) = true
    · rw [if_pos c]
      rw [Bool.and_eq_true] at c
      obtain ⟨-, -, q3, -⟩ := hw.2.2.2.2.2.2.2.2.2.2.2.2 n hn (hasB_iff.mp c.1)
      obtain ⟨-, -, a2⟩ := q3.val (by decide)
      exact Nat.le_trans (Nat.min_le_right _ _) a2
    · rw [if_neg c]; exact Nat.zero_le _
  · rw [if_neg]
    intro c
    rw [Bool.and_eq_true] at c
    exact q (hasB_iff.mp c.1)
  · rw [if_neg]
    intro c
    rw [Bool.and_eq_true, Bool.and_eq_true] at c
    exact q (of_decide_eq_true c.2.1)
theorem drW_out {w : Nat → Int32} {L : List Rec} {T n : Nat} (h : n ∉ nds L) : drW w L T n = 0 := by
  unfold drW
  rw [if_neg]
  intro c
  rw [Bool.and_eq_true, Bool.and_eq_true] at c
  exact h (of_decide_eq_true c.2.1)
theorem i_min {a b : Nat} {σ : Mem} {K : Int32 → Mem → Prop} {X : String → Mem → Prop} (ha : a < 2 ^ 31) (hb : b < 2 ^ 31) (h : K (nI (min a b)) σ) : sp_J9_min_7cf53 (nI a) (nI b) σ K X := by
  refine ⟨fun q => ?_, fun q => ?_⟩
  · have q := (nI_ltI hb ha).mp q
    rw [Nat.min_eq_right (by omega)] at h; exact h
  · have q : ¬ b < a := fun z => q ((nI_ltI hb ha).mpr z)
    rw [Nat.min_eq_left (by omega)] at h; exact h
theorem wt_bd {w : Nat → Int32} {g : Gr} (hw : WFw w g) {n : Nat} (hn : n < 10) (hh : hasW w n) : w (48 + 6 * n + 1) = nI (nV (w (48 + 6 * n + 1))) ∧ wtW w n ≤ 49500 ∧ w 2 = zI (outZ w) ∧ (-300 ≤ outZ w ∧ outZ w ≤ 300) := by
  obtain ⟨q1, -⟩ := hw.2.2.2.2.2.2.2.2.2.2.2.2 n hn hh
  obtain ⟨a0, -, a2⟩ := q1.val (by decide)
  obtain ⟨z, z1, z2, z3⟩ := hw.2.2.2.2.2.2.2.1
  have eo : outZ w = z := by unfold outZ; rw [z3, zI_toInt (by omega) (by omega)]
  refine ⟨a0, ?_, by rw [eo]; exact z3, by omega⟩
  unfold wtW
  have : nV (w (48 + 6 * n + 1)) * (200 - outZ w).toNat ≤ 99 * 500 := Nat.mul_le_mul a2 (by omega)
  omega
theorem i_max200 {o : Int} {σ : Mem} {K : Int32 → Mem → Prop} {X : String → Mem → Prop} (h1 : -300 ≤ o) (h2 : o ≤ 300) (h : K (nI (200 - o).toNat) σ) : sp_J9_max_7cf53 0 (200 - zI o) σ K X := by
  have e : (200 : Int32) - zI o = zI (200 - o) := by rw [show (200 : Int32) = zI 200 from rfl, zI_sub]
  have z0 : (0 : Int32) = zI 0 := rfl
  rw [e]
  refine ⟨fun q => ?_, fun q => ?_⟩
  · rw [z0, zI_lt (by omega) (by omega) (by omega) (by omega)] at q
    rw [nI_z, show (((200 - o).toNat : Nat) : Int) = 200 - o by omega] at h
    exact h
  · rw [z0, zI_lt (by omega) (by omega) (by omega) (by omega)] at q
    rw [show (200 - o).toNat = 0 by omega] at h
    exact h
theorem i_X0_wantedHeat {a n : Nat} {w : Nat → Int32} {g : Gr} {σ : Mem} {K : Int32 → Mem → Prop} {X : String → Mem → Prop} (ha : NetA a) (hw : WFw w g) (hN : NR σ a w g) (hn : n < 10) (hh : hasW w n) (h : K (nI (wtW w n)) σ) : sp_X0_wantedHeat a (nI n) σ K X := by
  obtain ⟨a0, a1, a2, a3⟩ := wt_bd hw hn hh
  refine ⟨ha, n_inR hn (by decide), ?_⟩
  rw [hN.1 2 (by decide), a2]
  refine i_max200 a3.1 a3.2 ?_
  rw [n_cl (by omega), ((hN.2.2.2 n hn).1 hh).1, a0, nI_mul]
  exact h
theorem i_X5_wants {n : Nat} {w : Nat → Int32} {g : Gr} {σ : Mem} {K : Int32 → Mem → Prop} {X : String → Mem → Prop} (hw : WFw w g) (hr : ∀ k, k < 108 → σ.1 210 k = w k) (hn : n < 10) (hh : hasW w n) (h : K (nI (wtW w n)) σ) : sp_X5_wants (nI n) σ K X := by
  obtain ⟨a0, a1, a2, a3⟩ := wt_bd hw hn hh
  unfold sp_X5_wants
  rw [show (48 + (6 * nI n)) + 1 = nI (48 + 6 * n + 1) from ix_st', n_cl (n := 48 + 6 * n + 1) (by omega)]
  refine ⟨n_inR (by omega) (by decide), ?_⟩
  rw [hr 2 (by decide), a2]
  refine i_max200 a3.1 a3.2 ?_
  rw [hr _ (by omega), a0, nI_mul]
  exact h
theorem dr_num {x d : Nat} (h1 : x ≤ 49500) (h2 : 50 ≤ d) (h3 : d ≤ 1200) : (nI x + nI d - 1) / nI d = nI ((x + d - 1) / d) := by
  obtain ⟨m, hm⟩ : ∃ m, x + d = m + 1 := ⟨x + d - 1, by omega⟩
  rw [nI_add, hm, nI_pred, pk_div (by omega) (by omega) (by omega), Nat.add_sub_cancel]
theorem i_X2_drawnFlow {t a n T : Nat} {w : Nat → Int32} {g : Gr} {L : List Rec} {σ : Mem} {K : Int32 → Mem → Prop} {X : String → Mem → Prop} (ht : StaA t) (ha : NetA a) (hw : WFw w g) (hN : NR σ a w g) (hn : n < 10) (hh : hasW w n) (hc : n ∈ nds L) (hT : σ.1 (t + 6) n = nI T) (hT2 : T ≤ 1200) (h : K (nI (drW w L T n)) σ) : sp_X2_drawnFlow t a (nI n) σ K X := by
  obtain ⟨-, q2, q3, -⟩ := hw.2.2.2.2.2.2.2.2.2.2.2.2 n hn hh
  obtain ⟨r0, r1, r2⟩ := q2.val (by decide)
  obtain ⟨f0, f1, f2⟩ := q3.val (by decide)
  obtain ⟨b1, b2, b3, b4, b5⟩ := (hN.2.2.2 n hn).1 hh
  obtain ⟨-, wt, -⟩ := wt_bd hw hn hh
  have hi := n_inR (n := n) (N := 10) hn (by decide)
  unfold drW at h
  rw [hasB_iff.mpr hh, decide_eq_true hc, Bool.true_and, Bool.true_and] at h
  refine ⟨ht, ha, hi, hi, fun v13 e13 => ?_⟩
  rw [n_cl (by omega), hT, b2, r0, nI_z, nI_z, zI_sub] at e13
  have z50 : (50 : Int32) = zI 50 := rfl
  rw [e13, z50, zI_le (by omega) (by omega) (by omega) (by omega), n_cl (by omega)]
  refine ⟨fun q => i_X0_wantedHeat ha hw hN hn hh ⟨?_, fun v33 e33 => ⟨hi, ?_⟩⟩, fun q => ?_⟩
  · rw [show (0 : Int32) = zI 0 from rfl, zI_eq (by omega) (by omega) (by omega) (by omega)]
    omega
  · have ed : zI ((T : Int) - (nV (w (48 + 6 * n + 2)) : Nat)) = nI (T - nV (w (48 + 6 * n + 2))) := by rw [nI_z]; congr 1; omega
    rw [ed, dr_num wt (by omega) (by omega)] at e33
    rw [e33, b3, f0]
    rw [if_pos (decide_eq_true (by omega))] at h
    have dl : (wtW w n + (T - nV (w (48 + 6 * n + 2))) - 1) / (T - nV (w (48 + 6 * n + 2))) ≤ wtW w n + (T - nV (w (48 + 6 * n + 2))) - 1 := Nat.div_le_self _ _
    refine i_min (by omega) (by omega) ?_
    exact h
  · rw [if_neg (fun z => q (by have := of_decide_eq_true z; omega))] at h
    exact h
theorem i_X5_drawn {n T : Nat} {w : Nat → Int32} {g : Gr} {L : List Rec} {σ : Mem} {K : Int32 → Mem → Prop} {X : String → Mem → Prop} (hw : WFw w g) (hr : ∀ k, k < 108 → σ.1 210 k = w k) (hTr : Tre g 0 L) (hF : FarM L σ) (hn : n < 10) (hh : hasW w n) (hT2 : T ≤ 1200) (h : K (nI (drW w L T n)) σ) : sp_X5_drawn (nI n) (nI T) σ K X := by
  obtain ⟨-, q2, q3, -⟩ := hw.2.2.2.2.2.2.2.2.2.2.2.2 n hn hh
  obtain ⟨r0, r1, r2⟩ := q2.val (by decide)
  obtain ⟨f0, f1, f2⟩ := q3.val (by decide)
  obtain ⟨-, wt, -⟩ := wt_bd hw hn hh
  have hi := n_inR (n := n) (N := 10) hn (by decide)
  unfold sp_X5_drawn
  unfold drW at h
  rw [hasB_iff.mpr hh, Bool.true_and] at h
  rw [show (48 + (6 * nI n)) + 2 = nI (48 + 6 * n + 2) from ix_st', n_cl (n := 48 + 6 * n + 2) (by omega), show (48 + (6 * nI n)) + 3 = nI (48 + 6 * n + 3) from ix_st', n_cl (n := 48 + 6 * n + 3) (by omega), n_cl (n := n) (by omega), hF n hn]
  refine ⟨n_inR (by omega) (by decide), fun v14 e14 => ⟨hi, fun q => ?_, fun q => ?_⟩⟩
  · have hc : n ∉ nds L := (fI_lt10 hTr n).mp q
    rw [decide_eq_false hc, Bool.false_and, if_neg Bool.false_ne_true] at h
    exact h
  · have hc : n ∈ nds L := Classical.byContradiction fun z => q ((fI_lt10 hTr n).mpr z)
    rw [decide_eq_true hc, Bool.true_and] at h
    rw [hr _ (by omega), r0] at e14
    have z50 : (50 : Int32) = nI 50 := rfl
    rw [e14, z50, nI_add, nI_leI (by omega) (by omega)]
    refine ⟨fun y v37 e37 => ⟨n_inR (by omega) (by decide), i_X5_wants hw hr hn hh ?_⟩, fun y => ?_⟩
    · rw [pk_sub (by omega)] at e37
      have nz : ¬ nI (T - nV (w (48 + 6 * n + 2))) = (0 : Int32) := fun z => by
        have := (nI_eq (b := 0) (by omega) (by decide)).mp z
        omega
      rw [e37, dr_num wt (by omega) (by omega), hr _ (by omega), f0]
      refine ⟨nz, i_min (by omega) ?_ ?_⟩
      · have dl : (wtW w n + (T - nV (w (48 + 6 * n + 2))) - 1) / (T - nV (w (48 + 6 * n + 2))) ≤ wtW w n + (T - nV (w (48 + 6 * n + 2))) - 1 := Nat.div_le_self _ _
        omega
      · rw [if_pos (decide_eq_true y), Nat.min_comm] at h
        exact h
    · rw [if_neg (fun z => y (of_decide_eq_true z))] at h
      exact h
