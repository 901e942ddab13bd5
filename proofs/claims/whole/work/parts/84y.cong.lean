/-! ===== rows that say the same of all that is there ===== -/
def Lv (w w' : Nat → Int32) (g : Gr) : Prop := ∀ k, k < 8 + 4 * g.1 ∨ 48 ≤ k → w' k = w k
theorem lv_rs {w w' : Nat → Int32} {g : Gr} (h : Lv w w' g) {p : Nat} (hp : p < g.1) : rsW w' p = rsW w p := by unfold rsW; rw [h _ (by omega), h _ (by omega)]
theorem lv_gd {w w' : Nat → Int32} {g : Gr} (h : Lv w w' g) : gd w' = gd w := by unfold gd; rw [h 1 (by omega)]
theorem lv_hsW {w w' : Nat → Int32} {g : Gr} (h : Lv w w' g) {n : Nat} : hasW w' n ↔ hasW w n := by unfold hasW; rw [h _ (by omega)]
theorem lv_thr {w w' : Nat → Int32} {g : Gr} (h : Lv w w' g) {fl : Nat → Int} {p T : Nat} (hp : p < g.1) : thr w' fl p T = thr w fl p T := by unfold thr; rw [lv_gd h, h _ (by omega), h 3 (by omega)]
theorem lv_smH {w w' : Nat → Int32} {g : Gr} (h : Lv w w' g) {fl : Nat → Int} {T : Nat → Nat} {n : Nat} : smH w' g fl T n = smH w g fl T n := by
  unfold smH
  refine smN_congr (fun p hp => ?_)
  unfold tH
  cases frO g fl p with
  | none => rfl
  | some e =>
    show (if toO g fl p = some n then flN fl p * thr w' fl p (T e) else 0) = (if toO g fl p = some n then flN fl p * thr w fl p (T e) else 0)
    rw [lv_thr h hp]
theorem lv_smC {w w' : Nat → Int32} {g : Gr} (h : Lv w w' g) {fl : Nat → Int} {dr T : Nat → Nat} {n : Nat} : smC w' g fl dr T n = smC w g fl dr T n := by
  unfold smC
  rw [h (48 + 6 * n + 2) (by omega)]
  congr 1
  refine smN_congr (fun p hp => ?_)
  unfold tC
  cases toO g fl p with
  | none => rfl
  | some e =>
    show (if frO g fl p = some n then flN fl p * thr w' fl p (T e) else 0) = (if frO g fl p = some n then flN fl p * thr w fl p (T e) else 0)
    rw [lv_thr h hp]
theorem lv_EqH {w w' : Nat → Int32} {g : Gr} (h : Lv w w' g) {fl : Nat → Int} {T : Nat → Nat} {n : Nat} : EqH w' g fl T n ↔ EqH w g fl T n := by unfold EqH; rw [lv_gd h, lv_smH h, h 0 (by omega)]
theorem lv_EqC {w w' : Nat → Int32} {g : Gr} (h : Lv w w' g) {fl : Nat → Int} {dr T : Nat → Nat} {n : Nat} : EqC w' g fl dr T n ↔ EqC w g fl dr T n := by unfold EqC; rw [lv_gd h, lv_smC h]
theorem lv_rmH {w w' : Nat → Int32} {g : Gr} (h : Lv w w' g) {fl : Nat → Int} {T : Nat → Nat} {n : Nat} : rmH w' g fl T n = rmH w g fl T n := by unfold rmH; rw [lv_smH h]
theorem lv_rmC {w w' : Nat → Int32} {g : Gr} (h : Lv w w' g) {fl : Nat → Int} {dr T : Nat → Nat} {n : Nat} : rmC w' g fl dr T n = rmC w g fl dr T n := by unfold rmC; rw [lv_smC h]
theorem lv_lsH {w w' : Nat → Int32} {g : Gr} (h : Lv w w' g) {fl : Nat → Int} {T : Nat → Nat} {p : Nat} (hp : p < g.1) : lsH w' g fl T p = lsH w g fl T p := by
  unfold lsH
  cases frO g fl p with
  | none => rfl
  | some e =>
    show flN fl p * (T e - thr w' fl p (T e)) = flN fl p * (T e - thr w fl p (T e))
    rw [lv_thr h hp]
theorem lv_lsC {w w' : Nat → Int32} {g : Gr} (h : Lv w w' g) {fl : Nat → Int} {T : Nat → Nat} {p : Nat} (hp : p < g.1) : lsC w' g fl T p = lsC w g fl T p := by
  unfold lsC
  cases toO g fl p with
  | none => rfl
  | some e =>
    show flN fl p * (T e - thr w' fl p (T e)) = flN fl p * (T e - thr w fl p (T e))
    rw [lv_thr h hp]
theorem lv_sum {w w' : Nat → Int32} {g : Gr} (h : Lv w w' g) {L : List Rec} {c : Lp} {dr B : Nat → Nat} {x : Int} (hL : LP0 g L c) : sumD g L c dr B (rsW w') x = sumD g L c dr B (rsW w) x := by
  unfold sumD
  refine smZ_congr (fun k hk => ?_)
  rw [lv_rs h (hL.2.1 k hk).1]
theorem lv_FlB {w w' : Nat → Int32} {g : Gr} (h : Lv w w' g) {L : List Rec} {c : Lp} {dr B : Nat → Nat} {x : Int} {f : Nat → Int32} (hL : LP0 g L c) (hF : FlB w g L c dr B x f) : FlB w' g L c dr B x f := by
  obtain ⟨h1, h2, h3, h4⟩ := hF
  refine ⟨h1, h2, fun q => ?_, h4⟩
  obtain ⟨a1, a2, a3, a4⟩ := h3 q
  exact ⟨a1, a2, by rw [lv_sum h hL]; exact a3, fun y y0 y1 => by rw [lv_sum h hL]; exact a4 y y0 y1⟩
theorem lv_dr {w w' : Nat → Int32} {g : Gr} (h : Lv w w' g) {T : Nat → Nat → Nat} {j : Nat} : drNx w' g T j = drNx w g T j := by
  unfold drNx drW hasB wtW outZ
  funext n
  rw [h 0 (by omega), h (48 + 6 * n) (by omega), h (48 + 6 * n + 2) (by omega), h (48 + 6 * n + 1) (by omega), h (48 + 6 * n + 3) (by omega), h 2 (by omega)]
theorem lv_hist {w w' : Nat → Int32} {g : Gr} (h : Lv w w' g) {c : Lp} {R : Nat} {D T : Nat → Nat → Nat} (hL : LP0 g (bfs g 0) c) (hH : Hist w g c R D T) : Hist w' g c R D T := by
  obtain ⟨h1, h2, h3, h4, h5⟩ := hH
  refine ⟨h1, h2, fun j j1 j2 => ?_, h4, h5⟩
  obtain ⟨a1, B, z, f, rk, a2, a3, a4⟩ := h3 j j1 j2
  rw [lv_dr h]
  exact ⟨a1, B, z, f, rk, lv_FlB h hL a2, a3, fun n hn => by rw [lv_EqH h, lv_gd h]; exact a4 n hn⟩
theorem ixL_le (c : Lp) (n : Nat) : ∀ k, ixL c n k ≤ k
  | 0 => Nat.le_refl 0
  | k + 1 => by
    have ih := ixL_le c n k
    show (if c.2.1 k = n then k else ixL c n k) ≤ k + 1
    split <;> omega
theorem lv_hd {w w' : Nat → Int32} {g : Gr} (h : Lv w w' g) {L : List Rec} {c : Lp} {B : Nat → Nat} {f : Nat → Int} (hT : Tre g 0 L) (hL : LP0 g L c) : ∀ (d n : Nat), n ∈ nds L → hdF w' L c B f d n = hdF w L c B f d n
  | 0, _, _ => rfl
  | d + 1, n, hn => by
    have hle := ixL_le c n c.1
    show (if n = 0 then 0 else if 0 < ixL c n c.1 then hdF w' L c B f d (c.2.1 0) + smZ (fun j => drop (rsW w' (c.2.2 j)) (f j)) (ixL c n c.1) else hdF w' L c B f d (fe L n) + drop (rsW w' (fp L n)) (B n)) = (if n = 0 then 0 else if 0 < ixL c n c.1 then hdF w L c B f d (c.2.1 0) + smZ (fun j => drop (rsW w (c.2.2 j)) (f j)) (ixL c n c.1) else hdF w L c B f d (fe L n) + drop (rsW w (fp L n)) (B n))
    by_cases c0 : n = 0
    · rw [if_pos c0, if_pos c0]
    · rw [if_neg c0, if_neg c0]
      by_cases c1 : 0 < ixL c n c.1
      · rw [if_pos c1, if_pos c1, lv_hd h hT hL d (c.2.1 0) (hL.2.2.2.1 0 (by omega)), smZ_congr (f := fun j => drop (rsW w' (c.2.2 j)) (f j)) (f' := fun j => drop (rsW w (c.2.2 j)) (f j)) (fun j hj => by rw [lv_rs h (hL.2.1 j (by omega)).1])]
      · obtain ⟨u1, u2, u3, u4⟩ := hT.up hn c0
        rw [if_neg c1, if_neg c1, lv_hd h hT hL d (fe L n) u1, lv_rs h u3]
theorem Sett.lv {w w' : Nat → Int32} {g : Gr} {c : Lp} {R : Nat} {D T : Nat → Nat → Nat} {B S : Nat → Nat} {z : Int} {σ : Mem} (hg : WG g) (h : Lv w w' g) (hS : Sett w g c R D T B S z σ) : Sett w' g c R D T B S z σ := by
  obtain ⟨hP, hH, hF⟩ := hS
  have hT := bfs_tre hg (src := 0) (by decide)
  have hL := hP.1.1
  refine ⟨hP, lv_hist h hL hH, ?_⟩
  obtain ⟨⟨f1, f1'⟩, f2, f3, f4, f5, f6, f7, f8, f9⟩ := hF
  refine ⟨⟨lv_FlB h hL f1, f1'⟩, fun n hn => ?_, fun n hn => ?_, fun n hn => ?_, fun p hp => ?_, f6, fun n hn => ?_, ?_, f9⟩
  · rw [lv_hsW h]; exact f2 n hn
  · rw [lv_gd h, lv_EqH h]; exact f3 n hn
  · rw [lv_gd h, lv_EqC h, lv_rmH h, lv_rmC h]; exact f4 n hn
  · rw [f5 p hp]
    by_cases c : p < g.1
    · rw [if_pos c, if_pos c, lv_lsH h c, lv_lsC h c]
    · rw [if_neg c, if_neg c]
  · rw [f7 n hn]
    unfold hdN
    rw [lv_hd h hT hL 11 n hn]
  · rw [f8, lv_sum h hL]
theorem SettE.lv {w w' : Nat → Int32} {g : Gr} {σ : Mem} (hg : WG g) (h : Lv w w' g) (hS : SettE w g σ) : SettE w' g σ := by
  obtain ⟨c, R, D, T, B, S, z, hS⟩ := hS
  exact ⟨c, R, D, T, B, S, z, hS.lv hg h⟩
/-- a refusal: the reason is kept on both sides; of the reference's rows only what nothing is said of has changed -/
theorem Rel.refuse {w : Nat → Int32} {g : Gr} {u : Nat → Int64} {σ τ' υ : Mem} {v : Int32} (hC : Core w g u σ) (hS : ¬ σ.1 0 11 = 0 → SettE w g σ) (hF : FO (wi σ 0 13 v) τ') (hc : ∀ a k, a < 209 ∨ (211 < a ∧ a < 216) ∨ a = 218 → υ.1 a k = τ'.1 a k ∧ υ.2.1 a k = τ'.2.1 a k) (h9 : ∀ k, k = 5 ∨ k = 8 ∨ k = 12 ∨ k = 14 → υ.1 209 k = τ'.1 209 k) (h15 : υ.1 209 15 = v) (h210 : ∀ k, k < 108 → k < 8 + 4 * g.1 ∨ 48 ≤ k → υ.1 210 k = w k) (h211 : ∀ k, k < 34 → υ.2.1 211 k = u k) : Rel υ := by
  have hg := hC.1.2.1.1
  have e1 : ∀ a k, a < 209 ∨ (211 < a ∧ a < 216) ∨ a = 218 → ¬ (a = 0 ∧ k = 13) → υ.1 a k = σ.1 a k := fun a k q z => by rw [(hc a k q).1, (hF a k (by omega)).1, wi_i, if_neg z]
  have e2 : ∀ a k, a < 209 ∨ (211 < a ∧ a < 216) ∨ a = 218 → υ.2.1 a k = σ.2.1 a k := fun a k q => by rw [(hc a k q).2, (hF a k (by omega)).2, wi_l]
  have e9 : ∀ k, k = 5 ∨ k = 8 ∨ k = 12 ∨ k = 14 → υ.1 209 k = σ.1 209 k := fun k q => by rw [h9 k q, (hF 209 k (by omega)).1, wi_i, if_neg (by omega)]
  have hlv : Lv w (fun k => if k < 108 then υ.1 210 k else w k) g := fun k q => by
    show (if k < 108 then υ.1 210 k else w k) = w k
    by_cases c : k < 108
    · rw [if_pos c]; exact h210 k c q
    · rw [if_neg c]
  obtain ⟨a1, a2, a3, a4, a5, a6, a7, a8, a9⟩ := hC
  refine ⟨fun k => if k < 108 then υ.1 210 k else w k, g, u, ⟨a1.cg (fun k _ q => hlv k q), (a2.cgw hg (fun k _ q => hlv k q)).fr (fun o k ho => e1 _ k (by omega) (by omega)) (fun o k ho => e2 _ k (by omega)), fun k hk => by show _ = (if k < 108 then υ.1 210 k else w k); rw [if_pos hk], h211, ⟨by rw [e1 0 10 (by omega) (by omega), e9 8 (by omega)]; exact a5.1, fun q => ?_⟩, ?_, ?_, ?_, ?_⟩, fun q => ?_⟩
  · rw [e1 0 10 (by omega) (by omega)] at q
    exact (a5.2 q).fr (fun o k ho => e1 _ k (by omega) (by omega)) (fun o k ho => e2 _ k (by omega)) (fun k => e1 214 k (by omega) (by omega)) (fun k => e2 215 k (by omega))
  · obtain ⟨n, e, b1, b2, b3, b4, b5, b6⟩ := a6
    refine ⟨n, e, b1, b2, by rw [e1 0 8 (by omega) (by omega)]; exact b3, by rw [e1 0 9 (by omega) (by omega)]; exact b4, by rw [e9 5 (by omega)]; exact b5, fun j hj => ?_⟩
    have hm : (e + 8 - j) % 9 < 9 := Nat.mod_lt _ (by decide)
    exact (b6 j hj).fr (fun o k ho => e1 _ k (by omega) (by omega)) (fun o k ho => e2 _ k (by omega)) (fun k => e1 212 k (by omega) (by omega)) (fun k => e2 213 k (by omega))
  · obtain ⟨s, m, t1, t2⟩ := a7
    exact ⟨s, m, t1.of (e1 79 1 (by omega) (by omega)) (fun j => e1 80 j (by omega) (by omega)), t2.of (e9 12 (by omega)) (fun j => e1 218 j (by omega) (by omega))⟩
  · rw [e1 0 12 (by omega) (by omega), e9 14 (by omega)]; exact a8
  · rw [h15, (hc 0 13 (by omega)).1, (hF 0 13 (by omega)).1, wi_at]
  · rw [e1 0 11 (by omega) (by omega)] at q
    exact ((hS q).lv a1.2.1 hlv).fs ⟨e1 0 11 (by omega) (by omega), fun a k p q => e1 a k (by omega) (by omega), fun a k p q => e2 a k (by omega)⟩
