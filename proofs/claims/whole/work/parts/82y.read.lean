/-! ===== calls that change nothing ===== -/
/-- the law's own rows may have been written -/
def FO (τ τ' : Mem) : Prop := ∀ a k, a < 233 → τ'.1 a k = τ.1 a k ∧ τ'.2.1 a k = τ.2.1 a k
theorem FO.rfl' (τ : Mem) : FO τ τ := fun _ _ _ => ⟨rfl, rfl⟩
theorem FO.fm {τ τ' : Mem} (h : FO τ τ') : FM τ τ' := ⟨⟨fun a k q => (h a k (by unfold Es at q; omega)).1, fun a k q => (h a k (by omega)).2⟩, (h 0 11 (by omega)).1, fun a k p q => (h a k (by omega)).1, fun a k p q => (h a k (by omega)).2⟩
/-- the reference keeps what the law's cell holds -/
def RU (τ' υ : Mem) : Prop := Rel υ ∧ υ.2.1 233 0 = τ'.2.1 233 0
def RV (τ' υ : Mem) : Prop := Rel υ ∧ υ.2.2 234 0 = τ'.2.2 234 0
theorem RU.um {τ' υ ω : Mem} (h : RU τ' υ) (hM : ChM υ ω) : RU τ' ω := ⟨h.1.fm hM.fm, by rw [(hM.1 233 0 (by omega)).2, h.2]⟩
theorem RU.u0 {τ' υ : Mem} (h : RU τ' υ) (v : Int32) : RU τ' (wi υ 209 0 v) := ⟨h.1.fm (FM.w0 υ v), h.2⟩
theorem RV.um {τ' υ ω : Mem} (h : RV τ' υ) (hM : ChM υ ω) : RV τ' ω := ⟨h.1.fm hM.fm, by rw [hM.2.2.2, h.2]⟩
theorem RV.u0 {τ' υ : Mem} (h : RV τ' υ) (v : Int32) : RV τ' (wi υ 209 0 v) := ⟨h.1.fm (FM.w0 υ v), h.2⟩
/-- behind the class's answer r, the reference's call throws as told and answers the same; both sides then say the same -/
def AnI (mc : Mem → (Int32 → Mem → Prop) → (String → Mem → Prop) → Prop) (code r : Int32) (τ : Mem) : Prop := ∀ τ', FO τ τ' → ∀ (K : Int32 → Mem → Prop) (X : String → Mem → Prop), (∀ b υ, υ.1 209 0 = code → (code = 0 → b = r) → RU τ' υ → K b υ) → mc τ' K X
def AnL (mc : Mem → (Int64 → Mem → Prop) → (String → Mem → Prop) → Prop) (code : Int32) (r : Int64) (τ : Mem) : Prop := ∀ τ', FO τ τ' → ∀ (K : Int64 → Mem → Prop) (X : String → Mem → Prop), (∀ b υ, υ.1 209 0 = code → (code = 0 → b = r) → RU τ' υ → K b υ) → mc τ' K X
def AnF (mc : Mem → (UInt32 → Mem → Prop) → (String → Mem → Prop) → Prop) (code : Int32) (r : UInt32) (τ : Mem) : Prop := ∀ τ', FO τ τ' → ∀ (K : UInt32 → Mem → Prop) (X : String → Mem → Prop), (∀ b υ, υ.1 209 0 = code → (code = 0 → b = r) → RU τ' υ → K b υ) → mc τ' K X
def AnD (mc : Mem → (UInt64 → Mem → Prop) → (String → Mem → Prop) → Prop) (code : Int32) (r : UInt64) (τ : Mem) : Prop := ∀ τ', FO τ τ' → ∀ (K : UInt64 → Mem → Prop) (X : String → Mem → Prop), (∀ b υ, υ.1 209 0 = code → (code = 0 → b = r) → RV τ' υ → K b υ) → mc τ' K X
abbrev xIOO : String := "java/lang/IndexOutOfBoundsException"
abbrev xIAE : String := "java/lang/IllegalArgumentException"
abbrev xNSE : String := "java/util/NoSuchElementException"
abbrev xUOE : String := "java/lang/UnsupportedOperationException"
abbrev xISE : String := "java/lang/IllegalStateException"
abbrev xARI : String := "java/lang/ArithmeticException"
theorem ne10 : ¬ (1 : Int32) = 0 := by decide
theorem ne20 : ¬ (2 : Int32) = 0 := by decide
/-- the network's rows, on both sides -/
def Bth (w : Nat → Int32) (g : Gr) (u : Nat → Int64) (τ : Mem) : Prop := WFw w g ∧ NS τ 1 w g u ∧ (∀ k, k < 108 → τ.1 210 k = w k) ∧ (∀ k, k < 34 → τ.2.1 211 k = u k)
theorem Bth.fr {w : Nat → Int32} {g : Gr} {u : Nat → Int64} {σ τ : Mem} (h : Bth w g u σ) (f : Fr σ τ) : Bth w g u τ :=
  ⟨h.1, h.2.1.fr (fun o k ho => f.1 _ k (by unfold Es; omega)) (fun o k ho => f.2 _ k (by omega)), fun k hk => by rw [f.1 210 k (by unfold Es; omega)]; exact h.2.2.1 k hk, fun k hk => by rw [f.2 211 k (by omega)]; exact h.2.2.2 k hk⟩
theorem Core.b {w : Nat → Int32} {g : Gr} {u : Nat → Int64} {σ : Mem} (h : Core w g u σ) : Bth w g u σ := ⟨h.1, h.2.1, h.2.2.1, h.2.2.2.1⟩
theorem rd_sett {w : Nat → Int32} {g : Gr} {u : Nat → Int64} {σ : Mem} {K : Mem → Prop} {X : String → Mem → Prop} (hC : Core w g u σ) (hS : ¬ σ.1 0 11 = 0 → SettE w g σ) (h : ∀ (τ : Mem) (c : Lp) (R : Nat) (D T : Nat → Nat → Nat) (B S : Nat → Nat) (z : Int), Core w g u τ → Sett w g c R D T B S z τ → ¬ τ.1 0 11 = 0 → Rel τ → ChS σ τ → K τ) : sp_X4_settle σ K X :=
  i_settle hC.1 hC.2.1.1 hS (fun τ c R D T B S z hCh hSt h11 => h τ c R D T B S z (hC.fr hCh.fr) hSt h11 ⟨w, g, u, hC.fr hCh.fr, fun _ => ⟨c, R, D, T, B, S, z, hSt⟩⟩ hCh)
theorem rel0 {τ τ' : Mem} (hR : Rel τ) (hF : FO τ τ') (v : Int32) : RU τ' (wi τ' 209 0 v) := ⟨hR.fm (hF.fm.trans (FM.w0 τ' v)), rfl⟩
theorem rm_look {w : Nat → Int32} {g : Gr} {c : Lp} {R : Nat} {D T : Nat → Nat → Nat} {B S : Nat → Nat} {z : Int} {f : Nat → Int32} {τ τ' : Mem} {v : Int32} {K : Mem → Prop} {X : String → Mem → Prop} (hw : WFw w g) (hr : ∀ k, k < 108 → τ.1 210 k = w k) (hRel : Rel τ) (hS : Sol w g c R D T B S z f) (hF : FO τ τ') (h : ∀ υ : Mem, RU τ' υ → υ.1 209 0 = v → (∀ k, k < 108 → υ.1 210 k = w k) → (∀ k, υ.2.1 211 k = τ.2.1 211 k) → ReF w g c R (D R) B (T R) S z f υ → K υ) : sp_X5_looks (wi τ' 209 0 v) K X := by
  have hr' : ∀ k, k < 108 → (wi τ' 209 0 v).1 210 k = w k := fun k hk => by rw [wi_i, if_neg (by omega), (hF 210 k (by omega)).1]; exact hr k hk
  refine ⟨w, g, c, R, D, T, B, S, z, f, hw, hr', hS.1, hS.2.1, hS.2.2, fun υ hM hR => h υ ((rel0 hRel hF v).um hM) ?_ (fun k hk => by rw [hM.i210]; exact hr' k hk) (fun k => by rw [(hM.1 211 k (by omega)).2, wi_l, (hF 211 k (by omega)).2]) hR⟩
  rw [hM.2.1 0 (by omega) (by omega), wi_at]
theorem i_needPipe {p : Int32} {w : Nat → Int32} {g : Gr} {σ : Mem} {K : Mem → Prop} {X : String → Mem → Prop} (hg : g.1 ≤ 10) (hN : NR σ 1 w g) (h1 : ∀ m, m < g.1 → p = nI m → K σ) (h0 : (∀ m, m < g.1 → p ≠ nI m) → X xIOO σ) : sp_X4_needPipe p σ K X := by
  refine ⟨fun c => h0 (fun m hm e => by rw [e] at c; exact nI_pos (by omega) c), fun c => ?_⟩
  obtain ⟨m, hm, e⟩ := nI_of c
  rw [hN.2.1.1, e, nI_ltI hm (by omega)]
  exact ⟨fun q => h1 m q e, fun q => h0 (fun k hk ek => q (by
    rw [e, nI_eq hm (by omega)] at ek
    omega))⟩
theorem i_isPipe {p : Int32} {w : Nat → Int32} {g : Gr} {σ : Mem} {K : Int32 → Mem → Prop} {X : String → Mem → Prop} (hw : WFw w g) (hr : ∀ k, k < 108 → σ.1 210 k = w k) (h1 : ∀ m, m < g.1 → p = nI m → K 1 σ) (h0 : (∀ m, m < g.1 → p ≠ nI m) → K 0 σ) : sp_X5_isPipe p σ K X := by
  have hg := hw.2.1.1
  refine i_X5_isPipe ?_
  rw [hr 7 (by decide), hw.1]
  by_cases c : ¬ p < 0 ∧ ¬ nI g.1 - 1 < p
  · rw [if_pos c]
    obtain ⟨m, hm, e⟩ := nI_of c.1
    refine h1 m ?_ e
    have c2 := c.2
    rw [e] at c2
    by_cases gz : g.1 = 0
    · rw [gz] at c2
      exact absurd (by
        rw [Int32.lt_iff_toInt_lt, nI_toInt (by omega), show (nI 0 - 1 : Int32).toInt = -1 from rfl]; omega) c2
    · rw [show g.1 = (g.1 - 1) + 1 by omega, nI_pred, nI_ltI (by omega) (by omega)] at c2
      omega
  · rw [if_neg c]
    refine h0 (fun m hm e => c ?_)
    rw [e, show g.1 = (g.1 - 1) + 1 by omega, nI_pred]
    exact ⟨nI_pos (by omega), nI_nlt (by omega) (by omega)⟩
theorem no_node {p : Int32} (c : ¬ (¬ p < 0 ∧ ¬ 9 < p)) : ∀ n, n < 10 → p ≠ nI n := fun n hn e => c (by rw [e]; exact node_in hn)
theorem i_needNode {p : Int32} {σ : Mem} {K : Mem → Prop} {X : String → Mem → Prop} (h1 : ∀ n, n < 10 → p = nI n → K σ) (h0 : (∀ n, n < 10 → p ≠ nI n) → X xIOO σ) : sp_X4_needNode p σ K X := by
  refine i_X4_isNode ?_
  by_cases c : ¬ p < 0 ∧ ¬ 9 < p
  · rw [if_pos c]
    obtain ⟨n, hn, e⟩ := sm_of (m := 9) rfl (by decide) c
    exact ⟨fun _ => h1 n (by omega) e, fun q => absurd q (by decide)⟩
  · rw [if_neg c]
    exact ⟨fun q => absurd rfl q, fun _ => h0 (no_node c)⟩
theorem i_isNodeM {p : Int32} {σ : Mem} {K : Int32 → Mem → Prop} {X : String → Mem → Prop} (h1 : ∀ n, n < 10 → p = nI n → K 1 σ) (h0 : (∀ n, n < 10 → p ≠ nI n) → K 0 σ) : sp_X5_isNode p σ K X := by
  refine i_X5_isNode ?_
  by_cases c : ¬ p < 0 ∧ ¬ 9 < p
  · rw [if_pos c]
    obtain ⟨n, hn, e⟩ := sm_of (m := 9) rfl (by decide) c
    exact h1 n (by omega) e
  · rw [if_neg c]; exact h0 (no_node c)
theorem i_needConn {p : Int32} {g : Gr} {L : List Rec} {c : Lp} {σ : Mem} {K : Mem → Prop} {X : String → Mem → Prop} (hT : Tre g 0 L) (hP : Shp g L c σ) (h1 : ∀ n, n ∈ nds L → p = nI n → K σ) (h0 : (∀ n, n ∈ nds L → p ≠ nI n) → X xNSE σ) : sp_X4_needConnected p σ K X := by
  refine i_X4_isNode ?_
  by_cases q : ¬ p < 0 ∧ ¬ 9 < p
  · rw [if_pos q]
    obtain ⟨n, hn, e⟩ := sm_of (m := 9) rfl (by decide) q
    refine ⟨fun z => absurd z (by decide), fun _ => ?_⟩
    rw [e, n_cl (by omega)]
    refine ⟨n_inR (by omega) (by decide), ?_⟩
    rw [hP.2.2.2.2.1 n (by omega)]
    have hlt := fI_lt10 hT n
    have hle : (0 ≤ fI (dOf L n)) ↔ ¬ fI (dOf L n) < 0 := Int32.not_lt.symm
    rw [hle, hlt]
    refine ⟨fun z => h1 n (Classical.not_not.mp z) e, fun z => h0 (fun m hm em => z (fun z' => z' ?_))⟩
    rw [e, nI_eq (by omega) (by have := hT.lt hm; omega)] at em
    rw [em]; exact hm
  · rw [if_neg q]
    exact ⟨fun _ => h0 (fun n hn => no_node q n (hT.lt hn)), fun z => absurd rfl z⟩
theorem i_joined {p : Int32} {w : Nat → Int32} {g : Gr} {σ : Mem} {K : Int32 → Mem → Prop} {X : String → Mem → Prop} (hw : WFw w g) (hr : ∀ k, k < 108 → σ.1 210 k = w k) (h1 : ∀ n τ, n ∈ nds (bfs g 0) → p = nI n → ChM σ τ → FarM (bfs g 0) τ → K 1 τ) (h0 : (∀ n, n ∈ nds (bfs g 0) → p ≠ nI n) → ∀ τ, ChM σ τ → K 0 τ) : sp_X5_isJoined p σ K X := by
  have hT := bfs_tre hw.2.1 (src := 0) (by decide)
  refine i_isNodeM (fun n hn e => ⟨fun _ => ⟨g, 0, hw.2.1, by decide, rfl, GM_of hw hr, fun τ t1 t2 t3 => ?_⟩, fun z => absurd z (by decide)⟩) (fun a => ⟨fun z => absurd rfl z, fun _ => h0 (fun n hn => a n (hT.lt hn)) σ (ChM.rfl' σ)⟩)
  have hM : ChM σ τ := ⟨fun a k q => ⟨t1 a k (by omega) (by omega), by rw [t2]⟩, fun k _ _ => t1 209 k (by decide) (by decide), fun k _ => by rw [t2], by rw [t2]⟩
  rw [e, n_cl (by omega)]
  show vp_in (nI n) 10 ∧ (τ.1 219 n < 0 → K 0 τ) ∧ (¬ τ.1 219 n < 0 → K 1 τ)
  rw [t3 n hn, fI_lt10 hT n]
  refine ⟨n_inR hn (by decide), fun z => h0 (fun m hm em => z ?_) τ hM, fun z => h1 n τ (Classical.not_not.mp z) e hM t3⟩
  rw [e, nI_eq (by omega) (by have := hT.lt hm; omega)] at em
  rw [em]; exact hm
theorem i_needRg {p lo hi : Int32} {σ : Mem} {K : Mem → Prop} {X : String → Mem → Prop} (h1 : bt3 p lo hi → K σ) (h0 : ¬ bt3 p lo hi → X xIAE σ) : sp_X4_needRange p lo hi σ K X := by
  refine i_X4_isWithin ?_
  by_cases c : bt3 p lo hi
  · rw [if_pos c]; exact ⟨fun _ => h1 c, fun q => absurd q (by decide)⟩
  · rw [if_neg c]; exact ⟨fun q => absurd rfl q, fun _ => h0 c⟩
theorem i_inY {p lo hi : Int32} {σ : Mem} {K : Int32 → Mem → Prop} {X : String → Mem → Prop} (c : bt3 p lo hi) (h : K 1 σ) : sp_X5_in p lo hi σ K X := i_X5_in (by rw [if_pos c]; exact h)
theorem i_inN {p lo hi : Int32} {σ : Mem} {K : Int32 → Mem → Prop} {X : String → Mem → Prop} (c : ¬ bt3 p lo hi) (h : K 0 σ) : sp_X5_in p lo hi σ K X := i_X5_in (by rw [if_neg c]; exact h)
/-- rows behind what the law and the reference's first step have written -/
theorem rw0 {w : Nat → Int32} {τ τ' : Mem} {v : Int32} (hr : ∀ k, k < 108 → τ.1 210 k = w k) (hF : FO τ τ') : ∀ k, k < 108 → (wi τ' 209 0 v).1 210 k = w k := fun k hk => by rw [wi_i, if_neg (by omega), (hF 210 k (by omega)).1]; exact hr k hk
theorem rel1 {τ τ' : Mem} (hR : Rel τ) (hF : FO τ τ') (v v' : Int32) : RU τ' (wi (wi τ' 209 0 v) 209 0 v') := (rel0 hR hF v).u0 v'
/-! ===== one call after another ===== -/
theorem q_setting {p : Int32} {σ : Mem} {K : Int32 → Mem → Prop} {X : String → Mem → Prop} (hR : Rel σ) (hK : ∀ r τ, AnI (sp_X5_setting p) 0 r τ → K r τ) (hX : ∀ τ, AnI (sp_X5_setting p) 1 0 τ → X xIOO τ) : sp_X4_setting p σ K X := by
  have hR0 := hR
  obtain ⟨w, g, u, hC, hS⟩ := hR
  refine i_X4_isWithin ?_
  by_cases c : bt3 p 0 6
  · rw [if_pos c]
    obtain ⟨k, hk, e⟩ := sm_of (m := 6) rfl (by decide) c
    refine ⟨fun _ => ?_, fun q => absurd q (by decide)⟩
    have ek : p.toNatClampNeg = k := by rw [e]; exact n_cl (by omega)
    rw [ek]
    refine ⟨by rw [e]; exact n_inR (by omega) (by decide), hK _ σ (fun τ' hF K2 X2 hK2 σ2 e2 => i_inY c ⟨fun q => absurd q (by decide), fun _ => ?_⟩)⟩
    rw [ek, e2]
    refine ⟨by rw [e]; exact n_inR (by omega) (by decide), hK2 _ _ (wi_at _ _ _ _) (fun _ => ?_) (rel0 hR0 hF 0)⟩
    rw [rw0 hC.2.2.1 hF k (by omega)]
    exact (hC.2.1.1.1 k (by omega)).symm
  · rw [if_neg c]
    refine ⟨fun q => absurd rfl q, fun _ => hX σ (fun τ' hF K2 X2 hK2 σ2 e2 => i_inN c ⟨fun _ => i_X5_raises ?_, fun q => absurd rfl q⟩)⟩
    rw [e2]
    exact hK2 _ _ (wi_at _ _ _ _) (fun q => absurd q ne10) (rel1 hR0 hF 0 1)
theorem q_faultPosition {σ : Mem} {K : Int32 → Mem → Prop} {X : String → Mem → Prop} (hR : Rel σ) (hK : ∀ r τ, AnI sp_X5_faultPosition 0 r τ → K r τ) : sp_X4_faultPosition σ K X := by
  have hR0 := hR
  obtain ⟨w, g, u, hC, hS⟩ := hR
  refine hK _ σ (fun τ' hF K2 X2 hK2 σ2 e2 => ?_)
  rw [e2]
  refine hK2 _ _ (wi_at _ _ _ _) (fun _ => ?_) (rel0 hR0 hF 0)
  rw [wi_i, if_neg (by omega), (hF 209 14 (by omega)).1]
  exact hC.2.2.2.2.2.2.2.1.symm
theorem q_refusal {σ : Mem} {K : Int32 → Mem → Prop} {X : String → Mem → Prop} (hR : Rel σ) (hK : ∀ r τ, AnI sp_X5_refusal 0 r τ → K r τ) (hX : ∀ τ, AnI sp_X5_refusal 1 0 τ → X xNSE τ) : sp_X4_refusal σ K X := by
  have hR0 := hR
  obtain ⟨w, g, u, hC, hS⟩ := hR
  have h15 := hC.2.2.2.2.2.2.2.2
  have e15 : ∀ {τ' : Mem}, FO σ τ' → (wi τ' 209 0 0).1 209 15 = σ.1 0 13 := fun hF => by rw [wi_i, if_neg (by omega), (hF 209 15 (by omega)).1]; exact h15.symm
  refine ⟨fun c => hK _ σ (fun τ' hF K2 X2 hK2 σ2 e2 => ?_), fun c => hX σ (fun τ' hF K2 X2 hK2 σ2 e2 => ?_)⟩
  · rw [e2, e15 hF]
    exact ⟨fun _ => hK2 _ _ (wi_at _ _ _ _) (fun _ => rfl) (rel0 hR0 hF 0), fun q => absurd q c⟩
  · rw [e2, e15 hF]
    exact ⟨fun q => absurd c q, fun _ => i_X5_raises (hK2 _ _ (wi_at _ _ _ _) (fun q => absurd q ne10) (rel1 hR0 hF 0 1))⟩
theorem q_flow {p : Int32} {σ : Mem} {K : Int32 → Mem → Prop} {X : String → Mem → Prop} (hR : Rel σ) (hK : ∀ r τ, AnI (sp_X5_flow p) 0 r τ → K r τ) (hX : ∀ τ, AnI (sp_X5_flow p) 1 0 τ → X xIOO τ) : sp_X4_flow p σ K X := by
  have hR0 := hR
  obtain ⟨w, g, u, hC, hS⟩ := hR
  have hg := hC.1.2.1.1
  refine i_needPipe hg hC.2.1.1 (fun m hm e => ?_) (fun a => hX σ (fun τ' hF K2 X2 hK2 σ2 e2 => ?_))
  · subst e
    refine rd_sett hC hS (fun τ c R D T B S z hCτ hSt h11 hRτ hCh => ?_)
    rw [n_cl (by omega)]
    refine ⟨n_inR (by omega) (by decide), hK _ τ (fun τ' hF K2 X2 hK2 σ2 e2 => ?_)⟩
    rw [e2]
    refine i_isPipe hC.1 (rw0 hCτ.2.2.1 hF) (fun m' hm' em' => ⟨fun _ => rm_look hC.1 hCτ.2.2.1 hRτ hSt.sol hF (fun υ hRυ h0 hr hs hRe => ?_), fun q => absurd q (by decide)⟩) (fun a => absurd rfl (a m hm))
    rw [n_cl (by omega)]
    exact ⟨n_inR (by omega) (by decide), hK2 _ _ h0 (fun _ => hRe.2.2.2.2.2.1 m hm) hRυ⟩
  · rw [e2]
    refine i_isPipe hC.1 (rw0 hC.2.2.1 hF) (fun m' hm' em' => absurd em' (a m' hm')) (fun _ => ⟨fun q => absurd rfl q, fun _ => i_X5_raises (hK2 _ _ (wi_at _ _ _ _) (fun q => absurd q ne10) (rel1 hR0 hF 0 1))⟩)
theorem q_direction {p : Int32} {σ : Mem} {K : Int32 → Mem → Prop} {X : String → Mem → Prop} (hR : Rel σ) (hK : ∀ r τ, AnI (sp_X5_direction p) 0 r τ → K r τ) (hX : ∀ τ, AnI (sp_X5_direction p) 1 0 τ → X xIOO τ) : sp_X4_direction p σ K X := by
  have hR0 := hR
  obtain ⟨w, g, u, hC, hS⟩ := hR
  have hg := hC.1.2.1.1
  refine i_needPipe hg hC.2.1.1 (fun m hm e => ?_) (fun a => hX σ (fun τ' hF K2 X2 hK2 => ?_))
  · subst e
    refine rd_sett hC hS (fun τ c R D T B S z hCτ hSt h11 hRτ hCh => ?_)
    rw [n_cl (by omega)]
    have key : ∀ r : Int32, (¬ τ.1 55 m ≤ 0 → r = 43) → (τ.1 55 m ≤ 0 → 0 ≤ τ.1 55 m → r = 48) → (τ.1 55 m ≤ 0 → ¬ 0 ≤ τ.1 55 m → r = 45) → AnI (sp_X5_direction (nI m)) 0 r τ := by
      intro r r1 r2 r3 τ' hF K2 X2 hK2
      have hr' : ∀ k, k < 108 → τ'.1 210 k = w k := fun k hk => by rw [(hF 210 k (by omega)).1]; exact hCτ.2.2.1 k hk
      refine i_isPipe hC.1 hr' (fun m' hm' em' => ⟨fun q => absurd q (by decide), fun _ σ14 e14 => ?_⟩) (fun a => absurd rfl (a m hm))
      rw [e14, wi_at]
      refine ⟨fun _ => rm_look hC.1 hCτ.2.2.1 hRτ hSt.sol hF (fun υ hRυ h0 hr hs hRe => ?_), fun q => absurd (by decide) q⟩
      have ef : υ.1 228 m = τ.1 55 m := hRe.2.2.2.2.2.1 m hm
      rw [n_cl (by omega), ef]
      have hin := n_inR (n := m) (N := 10) (by omega) (by decide)
      exact ⟨hin, fun q => ⟨hin, fun q2 => hK2 _ _ h0 (fun _ => (r2 q q2).symm) hRυ, fun q2 => hK2 _ _ h0 (fun _ => (r3 q q2).symm) hRυ⟩, fun q => hK2 _ _ h0 (fun _ => (r1 q).symm) hRυ⟩
    refine ⟨n_inR (by omega) (by decide), fun v18 e18 => ?_⟩
    rw [e18]
    have le0 : ∀ v : Int32, v ≤ 0 → 0 ≤ v → v = 0 := fun v q1 q2 => by
      rw [Int32.le_iff_toInt_le] at q1 q2
      exact Int32.toInt_inj.mp (Int.le_antisymm q1 q2)
    refine ⟨fun q => ⟨fun q2 => hK _ τ (key 45 (fun z => absurd q2 z) (fun z z2 => absurd (le0 _ z z2) q) (fun _ _ => rfl)), fun q2 => hK _ τ (key 43 (fun _ => rfl) (fun z => absurd z q2) (fun z => absurd z q2))⟩, fun q => hK _ τ (key 48 (fun z => absurd (by rw [q]; decide) z) (fun _ _ => rfl) (fun _ z => absurd (by rw [q]; decide) z))⟩
  · have hr' : ∀ k, k < 108 → τ'.1 210 k = w k := fun k hk => by rw [(hF 210 k (by omega)).1]; exact hC.2.2.1 k hk
    refine i_isPipe hC.1 hr' (fun m' hm' em' => absurd em' (a m' hm')) (fun _ => ⟨fun _ σ14 e14 => ?_, fun q => absurd rfl q⟩)
    rw [e14, wi_at]
    exact ⟨fun q => absurd q (by decide), fun _ => hK2 _ _ (wi_at _ _ _ _) (fun q => absurd q ne10) (rel0 hR0 hF 1)⟩
theorem q_loss {p : Int32} {σ : Mem} {K : Int64 → Mem → Prop} {X : String → Mem → Prop} (hR : Rel σ) (hK : ∀ r τ, AnL (sp_X5_loss p) 0 r τ → K r τ) (hX : ∀ τ, AnL (sp_X5_loss p) 1 0 τ → X xIOO τ) : sp_X4_loss p σ K X := by
  have hR0 := hR
  obtain ⟨w, g, u, hC, hS⟩ := hR
  have hg := hC.1.2.1.1
  refine i_needPipe hg hC.2.1.1 (fun m hm e => ?_) (fun a => hX σ (fun τ' hF K2 X2 hK2 σ2 e2 => ?_))
  · subst e
    refine rd_sett hC hS (fun τ c R D T B S z hCτ hSt h11 hRτ hCh => ?_)
    rw [n_cl (by omega)]
    refine ⟨n_inR (by omega) (by decide), hK _ τ (fun τ' hF K2 X2 hK2 σ2 e2 => ?_)⟩
    rw [e2]
    have hsol := hSt.sol
    refine i_isPipe hC.1 (rw0 hCτ.2.2.1 hF) (fun m' hm' em' => ⟨fun _ => rm_look hC.1 hCτ.2.2.1 hRτ hsol hF (fun υ hRυ h0 hr hs hRe => i_X5_loses hC.1 hr hsol.1 hsol.2.2 hRe hm (hK2 _ _ h0 (fun _ => ?_) hRυ)), fun q => absurd q (by decide)⟩) (fun a => absurd rfl (a m hm))
    have := hSt.2.2.2.2.2.2.1 m (by omega)
    rw [if_pos hm] at this
    exact this.symm
  · rw [e2]
    refine i_isPipe hC.1 (rw0 hC.2.2.1 hF) (fun m' hm' em' => absurd em' (a m' hm')) (fun _ => ⟨fun q => absurd rfl q, fun _ => i_X5_raises (hK2 _ _ (wi_at _ _ _ _) (fun q => absurd q ne10) (rel1 hR0 hF 0 1))⟩)
theorem q_temperature {p v : Int32} {σ : Mem} {K : Int32 → Mem → Prop} {X : String → Mem → Prop} (hR : Rel σ) (hK : ∀ r τ, AnI (sp_X5_temperature p v) 0 r τ → K r τ) (hX : ∀ τ, AnI (sp_X5_temperature p v) 1 0 τ → X xIOO τ) : sp_X4_temperature p v σ K X := by
  have hR0 := hR
  obtain ⟨w, g, u, hC, hS⟩ := hR
  refine i_needNode (fun n hn e => ?_) (fun a => hX σ (fun τ' hF K2 X2 hK2 σ2 e2 => ?_))
  · subst e
    refine rd_sett hC hS (fun τ c R D T B S z hCτ hSt h11 hRτ hCh => ?_)
    have hin := n_inR (n := n) (N := 10) hn (by decide)
    rw [n_cl (by omega)]
    refine ⟨fun q => ⟨hin, hK _ τ (fun τ' hF K2 X2 hK2 σ2 e2 => ?_)⟩, fun q => ⟨hin, hK _ τ (fun τ' hF K2 X2 hK2 σ2 e2 => ?_)⟩⟩
    · rw [e2]
      refine i_isNodeM (fun m hm em => ⟨fun _ => rm_look hC.1 hCτ.2.2.1 hRτ hSt.sol hF (fun υ hRυ h0 hr hs hRe => ⟨fun _ => ?_, fun z => absurd q z⟩), fun q => absurd q (by decide)⟩) (fun a => absurd rfl (a n hn))
      rw [n_cl (by omega)]
      exact ⟨hin, hK2 _ _ h0 (fun _ => by rw [(hRe.2.2.2.2.2.2.1 n hn).1]; exact (hSt.2.2.2.2.1 n hn).1.symm) hRυ⟩
    · rw [e2]
      refine i_isNodeM (fun m hm em => ⟨fun _ => rm_look hC.1 hCτ.2.2.1 hRτ hSt.sol hF (fun υ hRυ h0 hr hs hRe => ⟨fun z => absurd z q, fun _ => ?_⟩), fun q => absurd q (by decide)⟩) (fun a => absurd rfl (a n hn))
      rw [n_cl (by omega)]
      exact ⟨hin, hK2 _ _ h0 (fun _ => by rw [(hRe.2.2.2.2.2.2.1 n hn).2.1]; exact (hSt.2.2.2.2.2.1 n hn).1.symm) hRυ⟩
  · rw [e2]
    refine i_isNodeM (fun n hn e => absurd e (a n hn)) (fun _ => ⟨fun q => absurd rfl q, fun _ => i_X5_raises (hK2 _ _ (wi_at _ _ _ _) (fun q => absurd q ne10) (rel1 hR0 hF 0 1))⟩)
theorem q_rounding {p : Int32} {σ : Mem} {K : Int64 → Mem → Prop} {X : String → Mem → Prop} (hR : Rel σ) (hK : ∀ r τ, AnL (sp_X5_rounding p) 0 r τ → K r τ) (hX : ∀ τ, AnL (sp_X5_rounding p) 1 0 τ → X xIOO τ) : sp_X4_rounding p σ K X := by
  have hR0 := hR
  obtain ⟨w, g, u, hC, hS⟩ := hR
  refine i_needNode (fun n hn e => ?_) (fun a => hX σ (fun τ' hF K2 X2 hK2 σ2 e2 => ?_))
  · subst e
    refine rd_sett hC hS (fun τ c R D T B S z hCτ hSt h11 hRτ hCh => ?_)
    have hin := n_inR (n := n) (N := 10) hn (by decide)
    rw [n_cl (by omega)]
    refine ⟨hin, hK _ τ (fun τ' hF K2 X2 hK2 σ2 e2 => ?_)⟩
    rw [e2]
    refine i_isNodeM (fun m hm em => ⟨fun _ => rm_look hC.1 hCτ.2.2.1 hRτ hSt.sol hF (fun υ hRυ h0 hr hs hRe => ?_), fun q => absurd q (by decide)⟩) (fun a => absurd rfl (a n hn))
    rw [n_cl (by omega)]
    exact ⟨hin, hK2 _ _ h0 (fun _ => by rw [(hRe.2.2.2.2.2.2.1 n hn).2.2]; exact (hSt.2.2.2.2.2.1 n hn).2.2.2.symm) hRυ⟩
  · rw [e2]
    refine i_isNodeM (fun n hn e => absurd e (a n hn)) (fun _ => ⟨fun q => absurd rfl q, fun _ => i_X5_raises (hK2 _ _ (wi_at _ _ _ _) (fun q => absurd q ne10) (rel1 hR0 hF 0 1))⟩)
theorem q_rounds {σ : Mem} {K : Int32 → Mem → Prop} {X : String → Mem → Prop} (hR : Rel σ) (hK : ∀ r τ, AnI sp_X5_rounds 0 r τ → K r τ) : sp_X4_rounds σ K X := by
  obtain ⟨w, g, u, hC, hS⟩ := hR
  refine rd_sett hC hS (fun τ c R D T B S z hCτ hSt h11 hRτ hCh => hK _ τ (fun τ' hF K2 X2 hK2 σ2 e2 => ?_))
  rw [e2]
  exact rm_look hC.1 hCτ.2.2.1 hRτ hSt.sol hF (fun υ hRυ h0 hr hs hRe => hK2 _ _ h0 (fun _ => by rw [hRe.2.2.2.2.2.2.2]; exact hSt.2.2.2.2.2.2.2.2.2.2.symm) hRυ)
theorem q_neededHead {σ : Mem} {K : Int64 → Mem → Prop} {X : String → Mem → Prop} (hR : Rel σ) (hK : ∀ r τ, AnL sp_X5_neededHead 0 r τ → K r τ) : sp_X4_neededHead σ K X := by
  obtain ⟨w, g, u, hC, hS⟩ := hR
  refine rd_sett hC hS (fun τ c R D T B S z hCτ hSt h11 hRτ hCh => i_great hC.1 hSt (fun v hv => hK _ τ (fun τ' hF K2 X2 hK2 σ2 e2 => ?_)))
  rw [e2]
  have hsol := hSt.sol
  exact rm_look hC.1 hCτ.2.2.1 hRτ hsol hF (fun υ hRυ h0 hr hs hRe => ⟨w, g, c, R, D R, B, T R, S, z, _, hC.1, hr, hsol.1, hsol.2.2, hRe, fun n hn => ⟨(drD hC.1 hsol.2.1 hn).1, (drD hC.1 hsol.2.1 hn).2.2⟩, fun v' hv' => hK2 _ _ h0 (fun _ => hv'.uniq hv) hRυ⟩)
theorem q_imbalance {σ : Mem} {K : Int64 → Mem → Prop} {X : String → Mem → Prop} (hR : Rel σ) (hK : ∀ r τ, AnL sp_X5_imbalance 0 r τ → K r τ) (hX : ∀ τ, AnL sp_X5_imbalance 1 0 τ → X xNSE τ) : sp_X4_imbalance σ K X := by
  obtain ⟨w, g, u, hC, hS⟩ := hR
  refine rd_sett hC hS (fun τ c R D T B S z hCτ hSt h11 hRτ hCh => ?_)
  have hl : τ.1 44 8 = nI c.1 := hSt.1.2.1.1
  have hc10 : c.1 ≤ 10 := hSt.1.1.1.le (bfs_tre hC.1.2.1 (src := 0) (by decide))
  rw [hl]
  refine ⟨fun q => hK _ τ (fun τ' hF K2 X2 hK2 σ2 e2 => ?_), fun q => hX τ (fun τ' hF K2 X2 hK2 σ2 e2 => ?_)⟩
  · rw [e2]
    refine rm_look hC.1 hCτ.2.2.1 hRτ hSt.sol hF (fun υ hRυ h0 hr hs hRe => ?_)
    rw [hRe.2.1.1]
    refine ⟨fun _ => hK2 _ _ h0 (fun _ => ?_) hRυ, fun z => absurd z q⟩
    rw [hRe.2.2.2.2.1]; exact hSt.2.2.2.2.2.2.2.2.2.1.symm
  · rw [e2]
    refine rm_look hC.1 hCτ.2.2.1 hRτ hSt.sol hF (fun υ hRυ h0 hr hs hRe => ?_)
    rw [hRe.2.1.1]
    exact ⟨fun z => absurd q z, fun _ => i_X5_raises (hK2 _ _ (wi_at _ _ _ _) (fun q => absurd q ne10) (hRυ.u0 1))⟩
theorem q_returnDegrees {σ : Mem} {K : UInt32 → Mem → Prop} {X : String → Mem → Prop} (hR : Rel σ) (hK : ∀ r τ, vf_n32 r → AnF sp_X5_returnDegrees 0 r τ → K r τ) : sp_X4_returnDegrees σ K X := by
  obtain ⟨w, g, u, hC, hS⟩ := hR
  refine rd_sett hC hS (fun τ c R D T B S z hCτ hSt h11 hRτ hCh => ?_)
  have h0S := hSt.2.2.2.2.2.1 0 (by decide)
  rw [h0S.1]
  have hnn := nn32 h0S.2.1.2
  refine ⟨hnn, hK _ τ hnn (fun τ' hF K2 X2 hK2 σ2 e2 => ?_)⟩
  rw [e2]
  refine rm_look hC.1 hCτ.2.2.1 hRτ hSt.sol hF (fun υ hRυ h0 hr hs hRe => ?_)
  rw [(hRe.2.2.2.2.2.2.1 0 (by decide)).2.1]
  exact ⟨hnn, hK2 _ _ h0 (fun _ => rfl) hRυ⟩
