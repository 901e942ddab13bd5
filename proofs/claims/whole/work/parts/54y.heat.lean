/-! ===== heat of stations ===== -/
def htZ (w : Nat → Int32) (dr T : Nat → Nat) (n : Nat) : Int := if hasB w n = true then (dr n : Int) * ((T n : Int) - (nV (w (48 + 6 * n + 2)) : Int)) else 0
theorem ret_bd {w : Nat → Int32} {g : Gr} (hw : WFw w g) {n : Nat} (hn : n < 10) (hh : hasW w n) : w (48 + 6 * n + 2) = nI (nV (w (48 + 6 * n + 2))) ∧ 200 ≤ nV (w (48 + 6 * n + 2)) ∧ nV (w (48 + 6 * n + 2)) ≤ 600 := by
  obtain ⟨-, q2, -⟩ := hw.2.2.2.2.2.2.2.2.2.2.2.2 n hn hh
  exact q2.val (by decide)
theorem heat_num {d x r : Nat} (h1 : d ≤ 999) (h2 : x ≤ 1200) (h3 : r ≤ 600) : (nI d).toInt64 * (nI x - nI r).toInt64 = zL ((d : Int) * ((x : Int) - (r : Int))) := by
  rw [nI_z, nI_z, nI_z, zI_sub, zI_L (by omega) (by omega), zI_L (by omega) (by omega), zL_mul]
theorem i_X2_stationHeat {t a n : Nat} {w : Nat → Int32} {g : Gr} {dr T : Nat → Nat} {σ : Mem} {K : Int64 → Mem → Prop} {X : String → Mem → Prop} (ht : StaA t) (ha : NetA a) (hw : WFw w g) (hN : NR σ a w g) (hn : n < 10) (hh : hasW w n) (h1 : σ.1 (t + 1) n = nI (dr n) ∧ dr n ≤ 999) (h6 : σ.1 (t + 6) n = nI (T n) ∧ T n ≤ 1200) (h : K (zL (htZ w dr T n)) σ) : sp_X2_stationHeat t a (nI n) σ K X := by
  have hi := n_inR (n := n) (N := 10) hn (by decide)
  obtain ⟨r0, r1, r2⟩ := ret_bd hw hn hh
  refine ⟨ht, ha, hi, hi, hi, ?_⟩
  unfold htZ at h
  rw [if_pos (hasB_iff.mpr hh)] at h
  rw [n_cl (by omega), h1.1, h6.1, ((hN.2.2.2 n hn).1 hh).2.1, r0, heat_num h1.2 h6.2 r2]
  exact h
theorem i_X5_heat {n : Nat} {w : Nat → Int32} {g : Gr} {dr T : Nat → Nat} {σ : Mem} {K : Int64 → Mem → Prop} {X : String → Mem → Prop} (hw : WFw w g) (hr : ∀ k, k < 108 → σ.1 210 k = w k) (hn : n < 10) (h1 : σ.1 225 n = nI (dr n) ∧ dr n ≤ 999) (h6 : σ.1 229 n = nI (T n) ∧ T n ≤ 1200) (h : K (zL (htZ w dr T n)) σ) : sp_X5_heat (nI n) σ K X := by
  have hi := n_inR (n := n) (N := 10) hn (by decide)
  unfold htZ at h
  refine i_X5_hasStation hn ?_
  rw [hr _ (by omega)]
  by_cases hh : 1 ≤ n ∧ w (48 + 6 * n) = 1
  · rw [if_pos hh]
    obtain ⟨r0, r1, r2⟩ := ret_bd hw hn hh
    rw [if_pos (hasB_iff.mpr hh)] at h
    refine ⟨fun q => absurd q (by decide), fun _ => ⟨hi, hi, ?_⟩⟩
    rw [show (48 + (6 * nI n)) + 2 = nI (48 + 6 * n + 2) from ix_st', n_cl (n := n) (by omega), n_cl (n := 48 + 6 * n + 2) (by omega), h1.1, h6.1, hr _ (by omega), r0, heat_num h1.2 h6.2 r2]
    exact ⟨n_inR (by omega) (by decide), h⟩
  · rw [if_neg hh]
    rw [if_neg (fun q => hh (hasB_iff.mp q))] at h
    exact ⟨fun _ => h, fun q => absurd rfl q⟩
