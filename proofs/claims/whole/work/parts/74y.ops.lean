/-! ===== what changes do to the rows; both sides' reasons ===== -/
def uw (w : Nat → Int32) (k : Nat) (v : Int32) : Nat → Int32 := fun j => if j = k then v else w j
theorem uw_at {w : Nat → Int32} {k : Nat} {v : Int32} : uw w k v k = v := if_pos rfl
theorem uw_ne {w : Nat → Int32} {k j : Nat} {v : Int32} (h : j ≠ k) : uw w k v j = w j := if_neg h
theorem rg_of {v : Int32} {lo hi : Nat} (hh : hi < 2147483648) (hl : lo ≤ hi) (h : bt3 v (nI lo) (nI hi)) : rg v lo hi := by
  obtain ⟨h1, h2⟩ := h
  have e1 := nI_toInt (n := lo) (by omega)
  have e2 := nI_toInt (n := hi) (by omega)
  rw [Int32.lt_iff_toInt_lt, e1] at h1
  rw [Int32.lt_iff_toInt_lt, e2] at h2
  refine ⟨v.toInt.toNat, by omega, by omega, ?_⟩
  apply Int32.toInt_inj.mp
  rw [nI_toInt (by omega)]
  omega
theorem hs_uw {w : Nat → Int32} {k n : Nat} {v : Int32} (h : k ≠ 48 + 6 * n) : hasW (uw w k v) n ↔ hasW w n := by unfold hasW; rw [uw_ne (fun q => h q.symm)]
/-- the reason for which a setting is refused -/
def seN (p v : Int32) : Nat := if ¬ bt3 p 0 6 then 1 else if ¬ bt3 v (LV.getD p.toNatClampNeg 0) (GV.getD p.toNatClampNeg 0) then 2 else 0
theorem i_seC {p v : Int32} {σ : Mem} {K : Int32 → Mem → Prop} {X : String → Mem → Prop} (h : K (nI (seN p v)) σ) : sp_X4_settingReason p v σ K X := by
  unfold seN at h
  refine i_X4_isWithin ?_
  by_cases c : bt3 p 0 6
  · rw [if_neg (fun q => q c)] at h
    rw [if_pos c]
    obtain ⟨k, hk, e⟩ := sm_of (m := 6) rfl (by decide) c
    have hin : vp_in p 7 := by rw [e]; exact n_inR (by omega) (by decide)
    refine ⟨fun _ => ⟨hin, hin, i_X4_isWithin ?_⟩, fun q => absurd q (by decide)⟩
    by_cases d : bt3 v (LV.getD p.toNatClampNeg 0) (GV.getD p.toNatClampNeg 0)
    · rw [if_neg (fun q => q d)] at h
      rw [if_pos d]
      exact ⟨fun q => absurd q (by decide), fun _ => h⟩
    · rw [if_pos d] at h
      rw [if_neg d]
      exact ⟨fun _ => h, fun q => absurd rfl q⟩
  · rw [if_pos c] at h
    rw [if_neg c]
    exact ⟨fun q => absurd rfl q, fun _ => h⟩
theorem i_isSV {k : Nat} {v : Int32} {σ : Mem} {K : Int32 → Mem → Prop} {X : String → Mem → Prop} (hk : k < 7) (h : K (if bt3 v (LV.getD k 0) (GV.getD k 0) then 1 else 0) σ) : sp_X5_isSettingValue (nI k) v σ K X := by
  have e : ∀ {j : Nat}, j < 1000 → (nI k = nI j ↔ k = j) := fun hj => nI_eq (by omega) (by omega)
  refine ⟨fun q => ?_, fun q => ?_, fun q => ?_, fun q => ?_, fun q => ?_, fun q => ?_, fun q0 q1 q2 q3 q4 q5 => ?_⟩
  · have := (e (j := 0) (by decide)).mp q; subst this; exact i_X5_in ⟨nb01 _, h⟩
  · have := (e (j := 1) (by decide)).mp q; subst this; exact i_X5_in ⟨nb01 _, h⟩
  · have := (e (j := 2) (by decide)).mp q; subst this; exact i_X5_in ⟨nb01 _, h⟩
  · have := (e (j := 3) (by decide)).mp q; subst this; exact i_X5_in ⟨nb01 _, h⟩
  · have := (e (j := 4) (by decide)).mp q; subst this; exact i_X5_in ⟨nb01 _, h⟩
  · have := (e (j := 5) (by decide)).mp q; subst this; exact i_X5_in ⟨nb01 _, h⟩
  · have : k = 6 := by
      have a0 : k ≠ 0 := fun z => q0 (by rw [z]; rfl)
      have a1 : k ≠ 1 := fun z => q1 (by rw [z]; rfl)
      have a2 : k ≠ 2 := fun z => q2 (by rw [z]; rfl)
      have a3 : k ≠ 3 := fun z => q3 (by rw [z]; rfl)
      have a4 : k ≠ 4 := fun z => q4 (by rw [z]; rfl)
      have a5 : k ≠ 5 := fun z => q5 (by rw [z]; rfl)
      omega
    subst this; exact i_X5_in ⟨nb01 _, h⟩
theorem i_seM {p v : Int32} {σ : Mem} {K : Int32 → Mem → Prop} {X : String → Mem → Prop} (h0 : ∀ k, k < 7 → p = nI k → seN p v = 0 → K 0 (wi σ 210 k v)) (h1 : seN p v ≠ 0 → K (nI (seN p v)) σ) : sp_X5_settingBy p v σ K X := by
  refine i_X5_in ?_
  by_cases c : bt3 p 0 6
  · rw [if_pos c]
    obtain ⟨k, hk, e⟩ := sm_of (m := 6) rfl (by decide) c
    refine ⟨fun _ => ?_, fun q => absurd q (by decide)⟩
    have ek : p.toNatClampNeg = k := by rw [e]; exact n_cl (by omega)
    have h0 := h0 k (by omega) e
    unfold seN at h0 h1
    rw [if_neg (fun q => q c), ek] at h0 h1
    rw [e]
    refine i_isSV (by omega) ?_
    by_cases d : bt3 v (LV.getD k 0) (GV.getD k 0)
    · rw [if_pos d]
      rw [if_neg (fun q => q d)] at h0
      refine ⟨fun _ => ⟨n_inR (by omega) (by decide), fun σ28 e28 => ?_⟩, fun q => absurd q (by decide)⟩
      rw [e28, n_cl (by omega)]
      exact h0 rfl
    · rw [if_neg d]
      rw [if_pos d] at h1
      exact ⟨fun q => absurd rfl q, fun _ => h1 (by decide)⟩
  · rw [if_neg c]
    unfold seN at h1
    rw [if_pos c] at h1
    exact ⟨fun q => absurd rfl q, fun _ => h1 (by decide)⟩
theorem WFw.se {w : Nat → Int32} {g : Gr} {k : Nat} {v : Int32} (hw : WFw w g) (hk : k < 7) (h : seN (nI k) v = 0) : WFw (uw w k v) g := by
  have hd : bt3 v (LV.getD k 0) (GV.getD k 0) := by
    unfold seN at h
    rw [if_neg (fun q => q (sm_in (m := 6) (by decide) (by omega))), n_cl (by omega)] at h
    apply Classical.byContradiction
    intro q
    rw [if_pos q] at h
    cases h
  obtain ⟨h1, h2, h3, h4, h5, h6, h7, h8, h9, h10, h11, h12, h13⟩ := hw
  have hp := h2.1
  have o : ∀ j, j ≠ k → uw w k v j = w j := fun j hj => uw_ne hj
  refine ⟨by rw [o 7 (by omega)]; exact h1, h2, h3, h4, fun p hp => by rw [o _ (by omega), o _ (by omega), o _ (by omega), o _ (by omega)]; exact h5 p hp, ?_, ?_, ?_, ?_, ?_, ?_, ?_, fun m hm hh => by
    rw [hs_uw (by omega)] at hh
    rw [o _ (by omega), o _ (by omega), o _ (by omega), o _ (by omega), o _ (by omega)]; exact h13 m hm hh⟩
  · by_cases c : k = 0
    · subst c; rw [uw_at]; exact rg_of (lo := 600) (hi := 1200) (by decide) (by decide) hd
    · rw [o 0 (by omega)]; exact h6
  · by_cases c : k = 1
    · subst c; rw [uw_at]; exact rg_of (lo := 0) (hi := 200) (by decide) (by decide) hd
    · rw [o 1 (by omega)]; exact h7
  · by_cases c : k = 2
    · subst c; rw [uw_at]
      have d1 := hd.1
      have d2 := hd.2
      rw [Int32.lt_iff_toInt_lt, show (LV.getD 2 0).toInt = -300 from rfl] at d1
      rw [Int32.lt_iff_toInt_lt, show (GV.getD 2 0).toInt = 300 from rfl] at d2
      refine ⟨v.toInt, by omega, by omega, ?_⟩
      apply Int32.toInt_inj.mp
      rw [zI_toInt (by omega) (by omega)]
    · rw [o 2 (by omega)]; exact h8
  · by_cases c : k = 3
    · subst c; rw [uw_at]; exact rg_of (lo := 0) (hi := 99) (by decide) (by decide) hd
    · rw [o 3 (by omega)]; exact h9
  · by_cases c : k = 4
    · subst c; rw [uw_at]; exact rg_of (lo := 1) (hi := 999999999) (by decide) (by decide) hd
    · rw [o 4 (by omega)]; exact h10
  · by_cases c : k = 5
    · subst c; rw [uw_at]; exact rg_of (lo := 0) (hi := 999) (by decide) (by decide) hd
    · rw [o 5 (by omega)]; exact h11
  · by_cases c : k = 6
    · subst c; rw [uw_at]; exact rg_of (lo := 0) (hi := 99) (by decide) (by decide) hd
    · rw [o 6 (by omega)]; exact h12
theorem NS.se {σ : Mem} {w : Nat → Int32} {g : Gr} {u : Nat → Int64} {k : Nat} {v : Int32} (h : NS σ 1 w g u) (hg : g.1 ≤ 10) (hk : k < 7) : NS (wi σ 2 k v) 1 (uw w k v) g u := by
  obtain ⟨⟨h1, h2, h3, h4⟩, h5, h6⟩ := h
  have i : ∀ a j, a ≠ 2 → (wi σ 2 k v).1 a j = σ.1 a j := fun a j q => by rw [wi_i, if_neg (by omega)]
  refine ⟨⟨fun j hj => ?_, ⟨by rw [i 1 1 (by decide)]; exact h2.1, fun p hp => by rw [i _ _ (by decide), i _ _ (by decide)]; exact h2.2 p hp⟩, fun p hp => by rw [i _ _ (by decide), i _ _ (by decide), uw_ne (by omega), uw_ne (by omega)]; exact h3 p hp, fun n hn => ?_⟩, fun n hn hh => ?_, h6⟩
  · by_cases c : j = k
    · subst c; rw [uw_at]; exact wi_at _ _ _ _
    · rw [uw_ne c, show (1 : Nat) + 1 = 2 from rfl, wi_i, if_neg (fun q => c q.2)]; exact h1 j hj
  · rw [hs_uw (by omega), i _ _ (by decide), i _ _ (by decide), i _ _ (by decide), i _ _ (by decide), i _ _ (by decide), uw_ne (by omega), uw_ne (by omega), uw_ne (by omega), uw_ne (by omega), uw_ne (by omega)]; exact h4 n hn
  · rw [hs_uw (by omega)] at hh; exact h5 n hn hh
/-! ===== stations ===== -/
/-- the reason for which a station is refused -/
def srN (w : Nat → Int32) (p s r f : Int32) : Nat := if ¬ bt3 p 1 9 then 1 else if ¬ (bt3 s 1 99 ∧ bt3 r 200 600 ∧ bt3 f 1 999) then 2 else if w (48 + 6 * p.toNatClampNeg) = 1 then 6 else 0
theorem bt19 {p : Int32} : bt3 p 1 9 ↔ (bt3 p 0 9 ∧ ¬ p = 0) := by
  have z0 : (0 : Int32).toInt = 0 := rfl
  have z1 : (1 : Int32).toInt = 1 := rfl
  have z9 : (9 : Int32).toInt = 9 := rfl
  have e : p = 0 ↔ p.toInt = 0 := by rw [← Int32.toInt_inj, z0]
  rw [bt3, bt3, e, Int32.lt_iff_toInt_lt, Int32.lt_iff_toInt_lt, Int32.lt_iff_toInt_lt, z0, z1, z9]
  omega
theorem i_srC {p s r f : Int32} {w : Nat → Int32} {g : Gr} {σ : Mem} {K : Int32 → Mem → Prop} {X : String → Mem → Prop} (hw : WFw w g) (hN : NR σ 1 w g) (h : K (nI (srN w p s r f)) σ) : sp_X0_stationReason 1 p s r f σ K X := by
  unfold srN at h
  refine ⟨netA_1, i_X4_isNode ?_⟩
  by_cases c : bt3 p 0 9
  · rw [if_pos c]
    refine ⟨fun q => absurd q (by decide), fun _ => ⟨fun c0 => i_X4_isWithin ?_, fun c0 => ?_⟩⟩
    · rw [if_neg (fun q => q (bt19.mpr ⟨c, c0⟩))] at h
      by_cases d1 : bt3 s 1 99
      · rw [if_pos d1]
        refine ⟨fun q => absurd q (by decide), fun _ => i_X4_isWithin ?_⟩
        by_cases d2 : bt3 r 200 600
        · rw [if_pos d2]
          refine ⟨fun q => absurd q (by decide), fun _ => i_X4_isWithin ?_⟩
          by_cases d3 : bt3 f 1 999
          · rw [if_pos d3]
            rw [if_neg (fun q => q ⟨d1, d2, d3⟩)] at h
            refine ⟨fun _ => i_hasC netA_1 hw hN (fun n hn e hh => ⟨fun q => absurd q (by decide), fun _ => ?_⟩) (fun a => ⟨fun _ => ?_, fun q => absurd rfl q⟩), fun q => absurd q (by decide)⟩
            · rw [e, n_cl (by omega), if_pos hh.2] at h; exact h
            · obtain ⟨n, hn, e⟩ := sm_of (m := 9) rfl (by decide) c
              have n1 : 1 ≤ n := by
                apply Nat.pos_of_ne_zero
                intro z; exact c0 (by rw [e, z]; rfl)
              rw [e, n_cl (by omega), if_neg (fun q => a n (by omega) e ⟨n1, q⟩)] at h; exact h
          · rw [if_neg d3]
            rw [if_pos (fun q => d3 q.2.2)] at h
            exact ⟨fun q => absurd rfl q, fun _ => h⟩
        · rw [if_neg d2]
          rw [if_pos (fun q => d2 q.2.1)] at h
          exact ⟨fun _ => h, fun q => absurd rfl q⟩
      · rw [if_neg d1]
        rw [if_pos (fun q => d1 q.1)] at h
        exact ⟨fun _ => h, fun q => absurd rfl q⟩
    · rw [if_pos (fun q => (bt19.mp q).2 c0)] at h
      exact h
  · rw [if_neg c]
    rw [if_pos (fun q => c (bt19.mp q).1)] at h
    exact ⟨fun _ => h, fun q => absurd rfl q⟩
theorem i_srM {p s r f : Int32} {w : Nat → Int32} {σ : Mem} {K : Int32 → Mem → Prop} {X : String → Mem → Prop} (hr : ∀ k, k < 108 → σ.1 210 k = w k) (h0 : ∀ n, 1 ≤ n → n < 10 → p = nI n → srN w p s r f = 0 → K 0 (stZ (stB6 σ n s r f) n 3)) (h1 : srN w p s r f ≠ 0 → K (nI (srN w p s r f)) σ) : sp_X5_stationBy p s r f σ K X := by
  refine ⟨fun c => ?_, fun n e n1 n10 => ⟨fun d => ?_, fun d1 d2 d3 => ⟨fun q => ?_, fun q => ?_⟩⟩⟩
  · unfold srN at h1; rw [if_pos c] at h1; exact h1 (by decide)
  · have c : bt3 p 1 9 := by rw [e]; exact ⟨nI_nlt (b := 1) n1 (by omega), nI_nlt (a := 9) (by omega) (by decide)⟩
    unfold srN at h1; rw [if_neg (fun q => q c), if_pos d] at h1; exact h1 (by decide)
  · have c : bt3 p 1 9 := by rw [e]; exact ⟨nI_nlt (b := 1) n1 (by omega), nI_nlt (a := 9) (by omega) (by decide)⟩
    unfold srN at h1
    rw [if_neg (fun q => q c), if_neg (fun q => q ⟨d1, d2, d3⟩), e, n_cl (by omega), ← hr _ (by omega), if_pos q] at h1; exact h1 (by decide)
  · have c : bt3 p 1 9 := by rw [e]; exact ⟨nI_nlt (b := 1) n1 (by omega), nI_nlt (a := 9) (by omega) (by decide)⟩
    refine h0 n n1 n10 e ?_
    unfold srN
    rw [if_neg (fun q => q c), if_neg (fun q => q ⟨d1, d2, d3⟩), e, n_cl (by omega), ← hr _ (by omega), if_neg q]
/-- the rows with a new station -/
def stW (w : Nat → Int32) (n : Nat) (s r f : Int32) : Nat → Int32 := uw (uw (uw (uw (uw (uw w (48 + 6 * n) 1) (48 + 6 * n + 1) s) (48 + 6 * n + 2) r) (48 + 6 * n + 3) f) (48 + 6 * n + 4) 0) (48 + 6 * n + 5) 1000
def u0 (u : Nat → Int64) (n : Nat) : Nat → Int64 := fun k => if k = n ∨ k = 10 + n ∨ k = 20 + n then 0 else u k
theorem stW_ne {w : Nat → Int32} {n k : Nat} {s r f : Int32} (h : k < 48 + 6 * n ∨ 48 + 6 * n + 5 < k) : stW w n s r f k = w k := by
  unfold stW
  rw [uw_ne (by omega), uw_ne (by omega), uw_ne (by omega), uw_ne (by omega), uw_ne (by omega), uw_ne (by omega)]
theorem stW_at {w : Nat → Int32} {n : Nat} {s r f : Int32} : stW w n s r f (48 + 6 * n) = 1 ∧ stW w n s r f (48 + 6 * n + 1) = s ∧ stW w n s r f (48 + 6 * n + 2) = r ∧ stW w n s r f (48 + 6 * n + 3) = f ∧ stW w n s r f (48 + 6 * n + 4) = 0 ∧ stW w n s r f (48 + 6 * n + 5) = 1000 := by
  unfold stW
  refine ⟨?_, ?_, ?_, ?_, ?_, uw_at⟩
  · rw [uw_ne (by omega), uw_ne (by omega), uw_ne (by omega), uw_ne (by omega), uw_ne (by omega), uw_at]
  · rw [uw_ne (by omega), uw_ne (by omega), uw_ne (by omega), uw_ne (by omega), uw_at]
  · rw [uw_ne (by omega), uw_ne (by omega), uw_ne (by omega), uw_at]
  · rw [uw_ne (by omega), uw_ne (by omega), uw_at]
  · rw [uw_ne (by omega), uw_at]
theorem stW_has {w : Nat → Int32} {n m : Nat} {s r f : Int32} (h : m ≠ n) : hasW (stW w n s r f) m ↔ hasW w m := by unfold hasW; rw [stW_ne (by omega)]
theorem WFw.st {w : Nat → Int32} {g : Gr} {n : Nat} {s r f : Int32} (hw : WFw w g) (h1 : bt3 s 1 99) (h2 : bt3 r 200 600) (h3 : bt3 f 1 999) : WFw (stW w n s r f) g := by
  obtain ⟨a1, a2, a3, a4, a5, a6, a7, a8, a9, a10, a11, a12, a13⟩ := hw
  have hp := a2.1
  have o : ∀ j, j < 48 → stW w n s r f j = w j := fun j hj => stW_ne (by omega)
  refine ⟨by rw [o 7 (by omega)]; exact a1, a2, a3, a4, fun p hp => by rw [o _ (by omega), o _ (by omega), o _ (by omega), o _ (by omega)]; exact a5 p hp, by rw [o _ (by omega)]; exact a6, by rw [o _ (by omega)]; exact a7, by rw [o _ (by omega)]; exact a8, by rw [o _ (by omega)]; exact a9, by rw [o _ (by omega)]; exact a10, by rw [o _ (by omega)]; exact a11, by rw [o _ (by omega)]; exact a12, fun m hm hh => ?_⟩
  by_cases c : m = n
  · subst c
    obtain ⟨b0, b1, b2, b3, b4, b5⟩ := stW_at (w := w) (n := m) (s := s) (r := r) (f := f)
    rw [b1, b2, b3, b4, b5]
    exact ⟨rg_of (lo := 1) (hi := 99) (by decide) (by decide) h1, rg_of (lo := 200) (hi := 600) (by decide) (by decide) h2, rg_of (lo := 1) (hi := 999) (by decide) (by decide) h3, ⟨0, by decide, by decide, rfl⟩, ⟨1000, by decide, by decide, rfl⟩⟩
  · rw [stW_has c] at hh
    rw [stW_ne (by omega), stW_ne (by omega), stW_ne (by omega), stW_ne (by omega), stW_ne (by omega)]
    exact a13 m hm hh
theorem i_putSt {n : Nat} {s r f : Int32} {w : Nat → Int32} {g : Gr} {u : Nat → Int64} {σ : Mem} {K : Mem → Prop} {X : String → Mem → Prop} (hg : g.1 ≤ 10) (hN : NS σ 1 w g u) (n1 : 1 ≤ n) (hn : n < 10) (h : ∀ τ : Mem, ChN σ τ → NS τ 1 (stW w n s r f) g (u0 u n) → K τ) : sp_X0_putStation 1 (nI n) s r f σ K X := by
  have hin := n_inR (n := n) (N := 10) hn (by decide)
  unfold sp_X0_putStation
  rw [n_cl (by omega)]
  refine ⟨netA_1, hin, fun σ6 e6 => ⟨hin, fun σ13 e13 => ⟨hin, fun σ21 e21 => ⟨hin, fun σ28 e28 => ⟨hin, fun σ37 e37 => ⟨hin, fun σ44 e44 => ⟨hin, fun σ51 e51 => ⟨hin, fun σ58 e58 => h σ58 ?_ ?_⟩⟩⟩⟩⟩⟩⟩⟩
  · rw [e58, e51, e44, e37, e28, e21, e13, e6]
    exact ((((((((ChN.rfl' σ).wi (by decide) (by decide)).wi (by decide) (by decide)).wi (by decide) (by decide)).wi (by decide) (by decide)).wi (by decide) (by decide)).wl (by decide) (by decide)).wl (by decide) (by decide)).wl (by decide) (by decide)
  · have hI : σ58.1 = σ37.1 := by rw [e58]; show σ51.1 = _; rw [e51]; show σ44.1 = _; rw [e44]; rfl
    have hL : σ37.2 = σ.2 := by rw [e37]; show σ28.2 = _; rw [e28]; show σ21.2 = _; rw [e21]; show σ13.2 = _; rw [e13]; show σ6.2 = _; rw [e6]; rfl
    have i : ∀ a k, ¬ (7 ≤ a ∧ a ≤ 11 ∧ k = n) → σ58.1 a k = σ.1 a k := fun a k q => by
      rw [hI, e37, wi_i, if_neg (by omega), e28, wi_i, if_neg (by omega), e21, wi_i, if_neg (by omega), e13, wi_i, if_neg (by omega), e6, wi_i, if_neg (by omega)]
    have l : ∀ a k, ¬ (12 ≤ a ∧ a ≤ 14 ∧ k = n) → σ58.2.1 a k = σ.2.1 a k := fun a k q => by
      rw [e58, wl_l, if_neg (by omega), e51, wl_l, if_neg (by omega), e44, wl_l, if_neg (by omega), hL]
    obtain ⟨⟨h1, h2, h3, h4⟩, h5, h6, h7, h8, h9⟩ := hN
    obtain ⟨b0, b1, b2, b3, b4, b5⟩ := stW_at (w := w) (n := n) (s := s) (r := r) (f := f)
    refine ⟨⟨fun k hk => by rw [i _ _ (by omega), stW_ne (by omega)]; exact h1 k hk, ⟨by rw [i _ _ (by omega)]; exact h2.1, fun p hp => by rw [i _ _ (by omega), i _ _ (by omega)]; exact h2.2 p hp⟩, fun p hp => by rw [i _ _ (by omega), i _ _ (by omega), stW_ne (by omega), stW_ne (by omega)]; exact h3 p hp, fun m hm => ?_⟩, fun m hm hh => ?_, ?_, ?_, ?_, ?_⟩
    · by_cases c : m = n
      · subst c
        refine ⟨fun _ => ?_, fun q => absurd ⟨n1, b0⟩ q⟩
        rw [b1, b2, b3, b4, b5, hI]
        refine ⟨?_, ?_, ?_, ?_, ?_⟩
        · rw [e37, wi_i, if_neg (by omega), e28, wi_i, if_neg (by omega), e21, wi_i, if_neg (by omega), e13, wi_i, if_neg (by omega), e6, wi_at]
        · rw [e37, wi_i, if_neg (by omega), e28, wi_i, if_neg (by omega), e21, wi_i, if_neg (by omega), e13, wi_at]
        · rw [e37, wi_i, if_neg (by omega), e28, wi_i, if_neg (by omega), e21, wi_at]
        · rw [e37, wi_i, if_neg (by omega), e28, wi_at]
        · rw [e37, wi_at]
      · rw [stW_has c, i _ _ (by omega), i _ _ (by omega), i _ _ (by omega), i _ _ (by omega), i _ _ (by omega), stW_ne (by omega), stW_ne (by omega), stW_ne (by omega), stW_ne (by omega), stW_ne (by omega)]
        exact h4 m hm
    · unfold u0
      by_cases c : m = n
      · subst c
        rw [if_pos (by omega), if_pos (by omega), if_pos (by omega)]
        refine ⟨?_, ?_, ?_⟩
        · rw [e58, wl_l, if_neg (by omega), e51, wl_l, if_neg (by omega), e44, wl_l, if_pos ⟨rfl, rfl⟩]
        · rw [e58, wl_l, if_neg (by omega), e51, wl_l, if_pos ⟨rfl, rfl⟩]
        · rw [e58, wl_l, if_pos ⟨rfl, rfl⟩]
      · rw [stW_has c] at hh
        rw [if_neg (by omega), if_neg (by omega), if_neg (by omega), l _ _ (by omega), l _ _ (by omega), l _ _ (by omega)]
        exact h5 m hm hh
    · unfold u0; rw [if_neg (by omega), l _ _ (by omega)]; exact h6
    · unfold u0; rw [if_neg (by omega), l _ _ (by omega)]; exact h7
    · unfold u0; rw [if_neg (by omega), l _ _ (by omega)]; exact h8
    · unfold u0; rw [if_neg (by omega), l _ _ (by omega)]; exact h9
/-- the reference's rows with a new station -/
theorem stM_is {n : Nat} {s r f : Int32} {σ : Mem} : OpM σ (stZ (stB6 σ n s r f) n 3) ∧ (∀ k, (stZ (stB6 σ n s r f) n 3).1 210 k = stW (σ.1 210) n s r f k) ∧ ∀ k, (stZ (stB6 σ n s r f) n 3).2.1 211 k = u0 (σ.2.1 211) n k := by
  refine ⟨?_, fun k => ?_, fun k => ?_⟩
  · show OpM σ (wl (wl (wl (stB6 σ n s r f) 211 (10 * 0 + n) 0) 211 (10 * 1 + n) 0) 211 (10 * 2 + n) 0)
    unfold stB6
    exact (((((((((OpM.rfl' σ).wi (.inl rfl)).wi (.inl rfl)).wi (.inl rfl)).wi (.inl rfl)).wi (.inl rfl)).wi (.inl rfl)).wl (.inr rfl)).wl (.inr rfl)).wl (.inr rfl)
  · have e : ∀ (τ : Mem) (j : Nat) (v : Int32), (wi τ 210 j v).1 210 k = uw (τ.1 210) j v k := fun τ j v => by
      rw [wi_i]; unfold uw
      by_cases c : k = j
      · rw [if_pos ⟨rfl, c⟩, if_pos c]
      · rw [if_neg (fun q => c q.2), if_neg c]
    show (stB6 σ n s r f).1 210 k = _
    have e' : ∀ (τ : Mem) (j : Nat) (v : Int32), (wi τ 210 j v).1 210 = uw (τ.1 210) j v := fun τ j v => funext fun i => by
      rw [wi_i]; unfold uw
      by_cases c : i = j
      · rw [if_pos ⟨rfl, c⟩, if_pos c]
      · rw [if_neg (fun q => c q.2), if_neg c]
    unfold stB6 stW
    rw [e', e', e', e', e', e']
  · show (wl (wl (wl (stB6 σ n s r f) 211 (10 * 0 + n) 0) 211 (10 * 1 + n) 0) 211 (10 * 2 + n) 0).2.1 211 k = _
    unfold u0
    rw [wl_l, wl_l, wl_l]
    by_cases c : k = n ∨ k = 10 + n ∨ k = 20 + n
    · rw [if_pos c]
      by_cases c1 : k = 10 * 2 + n
      · rw [if_pos ⟨rfl, c1⟩]
      · rw [if_neg (by omega)]
        by_cases c2 : k = 10 * 1 + n
        · rw [if_pos ⟨rfl, c2⟩]
        · rw [if_neg (by omega), if_pos (by omega)]
    · rw [if_neg c, if_neg (by omega), if_neg (by omega), if_neg (by omega)]
      rfl
/-- the reason for which a removal is refused -/
def rmN (w : Nat → Int32) (p : Int32) : Nat := if ¬ bt3 p 1 9 then 1 else if w (48 + 6 * p.toNatClampNeg) = 1 then 0 else 6
theorem i_rmC {p : Int32} {w : Nat → Int32} {g : Gr} {σ : Mem} {K : Int32 → Mem → Prop} {X : String → Mem → Prop} (hw : WFw w g) (hN : NR σ 1 w g) (h : K (nI (rmN w p)) σ) : sp_X0_removalReason 1 p σ K X := by
  unfold rmN at h
  refine ⟨netA_1, i_X4_isNode ?_⟩
  by_cases c : bt3 p 0 9
  · rw [if_pos c]
    refine ⟨fun q => absurd q (by decide), fun _ => ⟨fun c0 => i_hasC netA_1 hw hN (fun n hn e hh => ⟨fun q => absurd q (by decide), fun _ => ?_⟩) (fun a => ⟨fun _ => ?_, fun q => absurd rfl q⟩), fun c0 => ?_⟩⟩
    · rw [if_neg (fun q => q (bt19.mpr ⟨c, c0⟩)), e, n_cl (by omega), if_pos hh.2] at h; exact h
    · obtain ⟨n, hn, e⟩ := sm_of (m := 9) rfl (by decide) c
      have n1 : 1 ≤ n := by
        apply Nat.pos_of_ne_zero
        intro z; exact c0 (by rw [e, z]; rfl)
      rw [if_neg (fun q => q (bt19.mpr ⟨c, c0⟩)), e, n_cl (by omega), if_neg (fun q => a n (by omega) e ⟨n1, q⟩)] at h; exact h
    · rw [if_pos (fun q => (bt19.mp q).2 c0)] at h; exact h
  · rw [if_neg c]
    rw [if_pos (fun q => c (bt19.mp q).1)] at h
    exact ⟨fun _ => h, fun q => absurd rfl q⟩
theorem i_rmM {p : Int32} {w : Nat → Int32} {σ : Mem} {K : Int32 → Mem → Prop} {X : String → Mem → Prop} (hr : ∀ k, k < 108 → σ.1 210 k = w k) (h0 : ∀ n, n < 10 → p = nI n → hasW w n → rmN w p = 0 → K 0 (wi σ 210 (48 + 6 * n) 0)) (h1 : rmN w p ≠ 0 → K (nI (rmN w p)) σ) : sp_X5_goneBy p σ K X := by
  refine i_X5_in ?_
  by_cases c : bt3 p 1 9
  · rw [if_pos c]
    refine ⟨fun _ => i_hasM hr (fun n hn e hh => ⟨fun _ => ?_, fun q => absurd q (by decide)⟩) (fun a => ⟨fun q => absurd rfl q, fun _ => ?_⟩), fun q => absurd q (by decide)⟩
    · rw [e, ix_st]
      refine ⟨n_inR (by omega) (by decide), fun σ35 e35 => ?_⟩
      rw [e35, n_cl (by omega)]
      refine h0 n hn e hh ?_
      unfold rmN
      rw [if_neg (fun q => q c), e, n_cl (by omega), if_pos hh.2]
    · obtain ⟨n, e, n1, n2⟩ := of_19 c
      have : rmN w p = 6 := by
        unfold rmN
        rw [if_neg (fun q => q c), e, n_cl (by omega), if_neg (fun q => a n n2 e ⟨n1, q⟩)]
      rw [this] at h1
      exact h1 (by decide)
  · rw [if_neg c]
    have : rmN w p = 1 := by unfold rmN; rw [if_pos c]
    rw [this] at h1
    exact ⟨fun q => absurd rfl q, fun _ => h1 (by decide)⟩
theorem WFw.rm {w : Nat → Int32} {g : Gr} {n : Nat} (hw : WFw w g) : WFw (uw w (48 + 6 * n) 0) g := by
  obtain ⟨a1, a2, a3, a4, a5, a6, a7, a8, a9, a10, a11, a12, a13⟩ := hw
  have hp := a2.1
  have o : ∀ j, j < 48 → uw w (48 + 6 * n) 0 j = w j := fun j hj => uw_ne (by omega)
  refine ⟨by rw [o 7 (by omega)]; exact a1, a2, a3, a4, fun p hp => by rw [o _ (by omega), o _ (by omega), o _ (by omega), o _ (by omega)]; exact a5 p hp, by rw [o _ (by omega)]; exact a6, by rw [o _ (by omega)]; exact a7, by rw [o _ (by omega)]; exact a8, by rw [o _ (by omega)]; exact a9, by rw [o _ (by omega)]; exact a10, by rw [o _ (by omega)]; exact a11, by rw [o _ (by omega)]; exact a12, fun m hm hh => ?_⟩
  by_cases c : m = n
  · subst c
    have := hh.2
    rw [uw_at] at this
    exact absurd this (by decide)
  · rw [hs_uw (by omega)] at hh
    rw [uw_ne (by omega), uw_ne (by omega), uw_ne (by omega), uw_ne (by omega), uw_ne (by omega)]
    exact a13 m hm hh
theorem i_dropSt {n : Nat} {w : Nat → Int32} {g : Gr} {u : Nat → Int64} {σ : Mem} {K : Mem → Prop} {X : String → Mem → Prop} (hg : g.1 ≤ 10) (hN : NS σ 1 w g u) (hn : n < 10) (h : ∀ τ : Mem, ChN σ τ → NS τ 1 (uw w (48 + 6 * n) 0) g u → K τ) : sp_X0_dropStation 1 (nI n) σ K X := by
  unfold sp_X0_dropStation
  rw [n_cl (by omega)]
  refine ⟨netA_1, n_inR hn (by decide), fun σ6 e6 => h σ6 ?_ ?_⟩
  · rw [e6]; exact (ChN.rfl' σ).wi (by decide) (by decide)
  · have i : ∀ a k, ¬ (a = 7 ∧ k = n) → σ6.1 a k = σ.1 a k := fun a k q => by rw [e6, wi_i, if_neg (by omega)]
    have l : σ6.2 = σ.2 := by rw [e6]; rfl
    obtain ⟨⟨h1, h2, h3, h4⟩, h5, h6, h7, h8, h9⟩ := hN
    refine ⟨⟨fun k hk => by rw [i _ _ (by omega), uw_ne (by omega)]; exact h1 k hk, ⟨by rw [i _ _ (by omega)]; exact h2.1, fun p hp => by rw [i _ _ (by omega), i _ _ (by omega)]; exact h2.2 p hp⟩, fun p hp => by rw [i _ _ (by omega), i _ _ (by omega), uw_ne (by omega), uw_ne (by omega)]; exact h3 p hp, fun m hm => ?_⟩, fun m hm hh => ?_, by rw [l]; exact h6, by rw [l]; exact h7, by rw [l]; exact h8, by rw [l]; exact h9⟩
    · by_cases c : m = n
      · subst c
        have no : ¬ hasW (uw w (48 + 6 * m) 0) m := fun q => by have := q.2; rw [uw_at] at this; exact absurd this (by decide)
        exact ⟨fun q => absurd q no, fun _ => by rw [e6]; exact wi_at _ _ _ _⟩
      · rw [hs_uw (by omega), i _ _ (by omega), i _ _ (by omega), i _ _ (by omega), i _ _ (by omega), i _ _ (by omega), uw_ne (by omega), uw_ne (by omega), uw_ne (by omega), uw_ne (by omega), uw_ne (by omega)]
        exact h4 m hm
    · rw [l]
      by_cases c : m = n
      · subst c
        have := hh.2
        rw [uw_at] at this
        exact absurd this (by decide)
      · rw [hs_uw (by omega)] at hh
        exact h5 m hm hh
