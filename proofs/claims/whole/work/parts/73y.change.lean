/-! ===== changes: the class keeps the old network, the reference its rows ===== -/
/-- only the class's network has changed -/
def ChN (σ τ : Mem) : Prop := (∀ a k, a = 0 ∨ 14 < a → τ.1 a k = σ.1 a k ∧ τ.2.1 a k = σ.2.1 a k) ∧ τ.2.2 = σ.2.2
theorem ChN.rfl' (σ : Mem) : ChN σ σ := ⟨fun _ _ _ => ⟨rfl, rfl⟩, rfl⟩
theorem ChN.trans {σ τ υ : Mem} (h : ChN σ τ) (k : ChN τ υ) : ChN σ υ := ⟨fun a j q => ⟨by rw [(k.1 a j q).1, (h.1 a j q).1], by rw [(k.1 a j q).2, (h.1 a j q).2]⟩, by rw [k.2, h.2]⟩
theorem ChN.wi {σ τ : Mem} (h : ChN σ τ) {b j : Nat} {v : Int32} (h1 : 1 ≤ b) (h2 : b ≤ 14) : ChN σ (wi τ b j v) := ⟨fun a k q => ⟨by rw [wi_i, if_neg (by omega)]; exact (h.1 a k q).1, (h.1 a k q).2⟩, h.2⟩
theorem ChN.wl {σ τ : Mem} (h : ChN σ τ) {b j : Nat} {v : Int64} (h1 : 1 ≤ b) (h2 : b ≤ 14) : ChN σ (wl τ b j v) := ⟨fun a k q => ⟨(h.1 a k q).1, by rw [wl_l, if_neg (by omega)]; exact (h.1 a k q).2⟩, h.2⟩
theorem i_begin {e : Nat} {σ : Mem} {K : Mem → Prop} {X : String → Mem → Prop} (he : e < 9) (h8 : σ.1 0 8 = nI e) (h : ∀ τ : Mem, TkO (83 + 14 * e) 1 σ τ → K τ) : sp_X4_beginChange σ K X := by
  unfold sp_X4_beginChange
  rw [h8, n_cl (by omega)]
  exact ⟨n_inR he (by decide), i_takeOver (earl_netN e he) netA_1 (.inr (by omega)) h⟩
def enM (σ : Mem) (e n : Nat) : Mem := wi (wi (wi σ 0 8 (nI ((e + 1) % 9))) 0 9 (nI (min (n + 1) 8))) 0 11 0
theorem i_end {e n : Nat} {σ : Mem} {K : Mem → Prop} {X : String → Mem → Prop} (he : e < 9) (hn : n ≤ 8) (h8 : σ.1 0 8 = nI e) (h9 : σ.1 0 9 = nI n) (h : K (enM σ e n)) : sp_X4_endChange σ K X := by
  have e9 : ∀ v : Int32, (wi σ 0 8 v).1 0 9 = nI n := fun v => by rw [wi_i, if_neg (by omega)]; exact h9
  refine ⟨fun c σ20 e20 => ?_, fun c σ20 e20 => ?_⟩
  · have he8 : e ≠ 8 := fun q => c (by rw [h8, q]; rfl)
    rw [h8, nI_1] at e20
    rw [e20, e9, nI_1]
    refine i_min (b := 8) (by omega) (by decide) (fun σ35 e35 σ40 e40 => ?_)
    rw [e40, e35]
    unfold enM at h
    rw [show (e + 1) % 9 = e + 1 by omega] at h
    exact h
  · have he8 : e = 8 := by
      rw [h8, show (8 : Int32) = nI 8 from rfl, nI_eq (by omega) (by omega)] at c; exact c
    rw [e20, e9, nI_1]
    refine i_min (b := 8) (by omega) (by decide) (fun σ35 e35 σ40 e40 => ?_)
    rw [e40, e35]
    unfold enM at h
    rw [show (e + 1) % 9 = 0 by omega] at h
    exact h
/-- what the class has done: w, g, u became w', g', u' -/
def ClC (w : Nat → Int32) (g : Gr) (u : Nat → Int64) (w' : Nat → Int32) (g' : Gr) (u' : Nat → Int64) (e n : Nat) (σ τ : Mem) : Prop := WFw w' g' ∧ NS τ 1 w' g' u' ∧ NS τ (83 + 14 * e) w g u ∧ τ.1 0 8 = nI ((e + 1) % 9) ∧ τ.1 0 9 = nI (min (n + 1) 8) ∧ τ.1 0 11 = 0 ∧ τ.1 0 10 = σ.1 0 10 ∧ (∀ a k, (15 ≤ a ∧ a ≤ 28) ∨ (83 ≤ a ∧ a ≤ 208 ∧ (a < 83 + 14 * e ∨ 83 + 14 * e + 13 < a)) ∨ 209 ≤ a → τ.1 a k = σ.1 a k ∧ τ.2.1 a k = σ.2.1 a k)
def ClX (σ τ : Mem) : Prop := τ.1 79 1 = σ.1 79 1 ∧ (∀ k, τ.1 80 k = σ.1 80 k) ∧ τ.1 0 12 = σ.1 0 12 ∧ τ.1 0 13 = σ.1 0 13
theorem ClC.mk {w w' : Nat → Int32} {g g' : Gr} {u u' : Nat → Int64} {e n : Nat} {σ τ υ : Mem} (hg : g.1 ≤ 10) (hN : NS σ 1 w g u) (he : e < 9) (hT : TkO (83 + 14 * e) 1 σ τ) (hC : ChN τ υ) (hw' : WFw w' g') (hN' : NS υ 1 w' g' u') : ClC w g u w' g' u' e n σ (enM υ e n) ∧ ClX σ (enM υ e n) := by
  have i1 : ∀ a k, a ≠ 0 → (enM υ e n).1 a k = υ.1 a k := fun a k q => by
    unfold enM; rw [wi_i, if_neg (by omega), wi_i, if_neg (by omega), wi_i, if_neg (by omega)]
  have i2 : ∀ a k, (enM υ e n).2.1 a k = υ.2.1 a k := fun a k => rfl
  have i3 : ∀ k, k ≠ 8 → k ≠ 9 → k ≠ 11 → (enM υ e n).1 0 k = υ.1 0 k := fun k q1 q2 q3 => by
    unfold enM; rw [wi_i, if_neg (by omega), wi_i, if_neg (by omega), wi_i, if_neg (by omega)]
  have f1 : ∀ a k, (15 ≤ a ∧ a < 83 + 14 * e) ∨ 83 + 14 * e + 13 < a → υ.1 a k = σ.1 a k ∧ υ.2.1 a k = σ.2.1 a k := fun a k q => ⟨by rw [(hC.1 a k (by omega)).1, (hT.1 a k (by omega)).1], by rw [(hC.1 a k (by omega)).2, (hT.1 a k (by omega)).2]⟩
  have f0 : ∀ k, υ.1 0 k = σ.1 0 k := fun k => by rw [(hC.1 0 k (.inl rfl)).1, (hT.1 0 k (by omega)).1]
  refine ⟨⟨hw', hN'.fr (fun o k ho => i1 _ k (by omega)) (fun o k ho => i2 _ k), ((hN.tk hg hT).fr (τ := υ) (fun o k ho => (hC.1 _ k (by omega)).1) (fun o k ho => (hC.1 _ k (by omega)).2)).fr (fun o k ho => i1 _ k (by omega)) (fun o k ho => i2 _ k), ?_, ?_, wi_at _ _ _ _, by rw [i3 10 (by decide) (by decide) (by decide), f0], fun a k q => ?_⟩, ?_, fun k => ?_, ?_, ?_⟩
  · unfold enM; rw [wi_i, if_neg (by omega), wi_i, if_neg (by omega), wi_at]
  · unfold enM; rw [wi_i, if_neg (by omega), wi_at]
  · rw [i1 a k (by omega), i2]; exact f1 a k (by omega)
  · rw [i1 79 1 (by omega)]; exact (f1 79 1 (by omega)).1
  · rw [i1 80 k (by omega)]; exact (f1 80 k (by omega)).1
  · rw [i3 12 (by decide) (by decide) (by decide), f0]
  · rw [i3 13 (by decide) (by decide) (by decide), f0]
/-! ===== the reference keeps ===== -/
def KpO (n : Nat) (w : Nat → Int32) (u : Nat → Int64) (σ υ : Mem) : Prop := υ.1 209 5 = nI (min (n + 1) 8) ∧ (∀ k, k < 108 → υ.1 212 (108 * min n 7 + k) = w k) ∧ (∀ k, k < 34 → υ.2.1 213 (34 * min n 7 + k) = u k) ∧ (∀ i k, i < min n 7 → k < 108 → υ.1 212 (108 * i + k) = σ.1 212 (108 * (i + if n = 8 then 1 else 0) + k)) ∧ ∀ i k, i < min n 7 → k < 34 → υ.2.1 213 (34 * i + k) = σ.2.1 213 (34 * (i + if n = 8 then 1 else 0) + k)
def KpF (σ υ : Mem) : Prop := (∀ a k, ¬ (a = 209 ∧ k = 5) → a ≠ 212 → υ.1 a k = σ.1 a k) ∧ (∀ a k, a ≠ 213 → υ.2.1 a k = σ.2.1 a k) ∧ υ.2.2 = σ.2.2
theorem KpO.cg {n : Nat} {w : Nat → Int32} {u : Nat → Int64} {σ σ' υ υ' : Mem} (h : KpO n w u σ υ) (h1 : ∀ k, σ.1 212 k = σ'.1 212 k) (h2 : ∀ k, σ.2.1 213 k = σ'.2.1 213 k) (h3 : υ'.1 209 5 = υ.1 209 5) (h4 : ∀ k, υ'.1 212 k = υ.1 212 k) (h5 : ∀ k, υ'.2.1 213 k = υ.2.1 213 k) : KpO n w u σ' υ' :=
  ⟨by rw [h3]; exact h.1, fun k hk => by rw [h4]; exact h.2.1 k hk, fun k hk => by rw [h5]; exact h.2.2.1 k hk, fun i k hi hk => by rw [h4, ← h1]; exact h.2.2.2.1 i k hi hk, fun i k hi hk => by rw [h5, ← h2]; exact h.2.2.2.2 i k hi hk⟩
theorem i_keeps {n : Nat} {w : Nat → Int32} {u : Nat → Int64} {σ : Mem} {K : Mem → Prop} {X : String → Mem → Prop} (hn : n ≤ 8) (h5 : σ.1 209 5 = nI n) (hw : ∀ k, k < 108 → σ.1 216 k = w k) (hu : ∀ k, k < 34 → σ.2.1 217 k = u k) (h : ∀ υ : Mem, KpO n w u σ υ → KpF σ υ → K υ) : sp_X5_keeps σ K X := by
  refine ⟨n, hn, h5, ?_⟩
  by_cases c : n = 8
  · rw [if_pos c]
    subst c
    refine h _ ⟨by unfold kpP; rw [wi_at]; rfl, fun k hk => ?_, fun k hk => ?_, fun i k hi hk => ?_, fun i k hi hk => ?_⟩ ⟨fun a k q1 q2 => ?_, fun a k q => ?_, rfl⟩
    · rw [show min 8 7 = 7 from rfl]
      unfold kpP
      rw [wi_i, if_neg (by omega), cl_i, ci_i, if_pos (by omega)]
      unfold kpS
      rw [wi_i, if_neg (by omega), cl_i, ci_i, if_neg (by omega), show 0 + (108 * 7 + k - 108 * 7) = k by omega]
      exact hw k hk
    · rw [show min 8 7 = 7 from rfl]
      unfold kpP
      rw [wi_l, cl_l, if_pos (by omega), ci_l]
      unfold kpS
      rw [wi_l, cl_l, if_neg (by omega), ci_l, show 0 + (34 * 7 + k - 34 * 7) = k by omega]
      exact hu k hk
    · rw [show min 8 7 = 7 from rfl] at hi
      rw [if_pos rfl]
      unfold kpP
      rw [wi_i, if_neg (by omega), cl_i, ci_i, if_neg (by omega)]
      unfold kpS
      rw [wi_i, if_neg (by omega), cl_i, ci_i, if_pos (by omega)]
      exact congrArg (σ.1 212) (by omega)
    · rw [show min 8 7 = 7 from rfl] at hi
      rw [if_pos rfl]
      unfold kpP
      rw [wi_l, cl_l, if_neg (by omega), ci_l]
      unfold kpS
      rw [wi_l, cl_l, if_pos (by omega), ci_l]
      exact congrArg (σ.2.1 213) (by omega)
    · unfold kpP
      rw [wi_i, if_neg q1, cl_i, ci_i, if_neg (by omega)]
      unfold kpS
      rw [wi_i, if_neg q1, cl_i, ci_i, if_neg (by omega)]
    · unfold kpP
      rw [wi_l, cl_l, if_neg (by omega), ci_l]
      unfold kpS
      rw [wi_l, cl_l, if_neg (by omega), ci_l]
  · rw [if_neg c]
    have m7 : min n 7 = n := by omega
    refine h _ ⟨by unfold kpP; rw [wi_at]; congr 1; omega, fun k hk => ?_, fun k hk => ?_, fun i k hi hk => ?_, fun i k hi hk => ?_⟩ ⟨fun a k q1 q2 => ?_, fun a k q => ?_, rfl⟩
    · rw [m7]
      unfold kpP
      rw [wi_i, if_neg (by omega), cl_i, ci_i, if_pos (by omega), show 0 + (108 * n + k - 108 * n) = k by omega]
      exact hw k hk
    · rw [m7]
      unfold kpP
      rw [wi_l, cl_l, if_pos (by omega), ci_l, show 0 + (34 * n + k - 34 * n) = k by omega]
      exact hu k hk
    · rw [if_neg c]
      unfold kpP
      rw [wi_i, if_neg (by omega), cl_i, ci_i, if_neg (by omega), Nat.add_zero]
    · rw [if_neg c]
      unfold kpP
      rw [wi_l, cl_l, if_neg (by omega), ci_l, Nat.add_zero]
    · unfold kpP
      rw [wi_i, if_neg q1, cl_i, ci_i, if_neg (by omega)]
    · unfold kpP
      rw [wi_l, cl_l, if_neg (by omega), ci_l]
/-- the rows are tried -/
def trM (σ : Mem) : Mem := cl (ci σ 210 216 0 0 108) 211 217 0 0 34
theorem trM_i (σ : Mem) {a k : Nat} (h : a ≠ 216) : (trM σ).1 a k = σ.1 a k := by unfold trM; rw [cl_i, ci_i, if_neg (by omega)]
theorem trM_l (σ : Mem) {a k : Nat} (h : a ≠ 217) : (trM σ).2.1 a k = σ.2.1 a k := by unfold trM; rw [cl_l, if_neg (by omega), ci_l]
theorem trM_w (σ : Mem) {k : Nat} (h : k < 108) : (trM σ).1 216 k = σ.1 210 k := by unfold trM; rw [cl_i, ci_i, if_pos (by omega), show 0 + (k - 0) = k by omega]
theorem trM_u (σ : Mem) {k : Nat} (h : k < 34) : (trM σ).2.1 217 k = σ.2.1 211 k := by unfold trM; rw [cl_l, if_pos (by omega), ci_l, show 0 + (k - 0) = k by omega]
/-- only rows of a look and the network's rows have changed -/
def OpM (σ τ : Mem) : Prop := (∀ a k, a < 209 ∨ (211 < a ∧ a < 219) ∨ 232 < a → τ.1 a k = σ.1 a k ∧ τ.2.1 a k = σ.2.1 a k) ∧ (∀ k, k ≠ 22 → k ≠ 32 → τ.1 209 k = σ.1 209 k) ∧ τ.2.2 = σ.2.2
theorem OpM.rfl' (σ : Mem) : OpM σ σ := ⟨fun _ _ _ => ⟨rfl, rfl⟩, fun _ _ _ => rfl, rfl⟩
theorem OpM.trans {σ τ υ : Mem} (h : OpM σ τ) (k : OpM τ υ) : OpM σ υ := ⟨fun a j q => ⟨by rw [(k.1 a j q).1, (h.1 a j q).1], by rw [(k.1 a j q).2, (h.1 a j q).2]⟩, fun j q2 q3 => by rw [k.2.1 j q2 q3, h.2.1 j q2 q3], by rw [k.2.2, h.2.2]⟩
theorem ChM.op {σ τ : Mem} (h : ChM σ τ) : OpM σ τ := ⟨fun a k q => h.1 a k (by omega), fun k q2 q3 => h.2.1 k q2 q3, h.2.2.2⟩
theorem ChQ.op {P : Nat} {σ τ : Mem} (h : ChQ P σ τ) : OpM σ τ := ⟨fun a k q => h.1 a k (by omega), fun k q2 q3 => h.2.1 k q2 q3, h.2.2.2.2.2⟩
theorem OpM.wi {σ τ : Mem} (h : OpM σ τ) {a j : Nat} {v : Int32} (ha : a = 210 ∨ a = 211) : OpM σ (wi τ a j v) := h.trans ⟨fun b k q => ⟨by rw [wi_i, if_neg (by omega)], rfl⟩, fun k _ _ => by rw [wi_i, if_neg (by omega)], rfl⟩
theorem OpM.wl {σ τ : Mem} (h : OpM σ τ) {a j : Nat} {v : Int64} (ha : a = 210 ∨ a = 211) : OpM σ (wl τ a j v) := h.trans ⟨fun b k q => ⟨rfl, by rw [wl_l, if_neg (by omega)]⟩, fun k _ _ => rfl, rfl⟩
/-- fields of the reference may have changed, too, but for how much is kept and whether it has saved -/
def OpR (σ τ : Mem) : Prop := (∀ a k, a < 209 ∨ (211 < a ∧ a < 219) ∨ 232 < a → τ.1 a k = σ.1 a k ∧ τ.2.1 a k = σ.2.1 a k) ∧ (∀ k, k = 5 ∨ k = 8 → τ.1 209 k = σ.1 209 k) ∧ τ.2.2 = σ.2.2
theorem OpM.r {σ τ : Mem} (h : OpM σ τ) : OpR σ τ := ⟨h.1, fun k q => h.2.1 k (by omega) (by omega), h.2.2⟩
theorem OpR.trans {σ τ υ : Mem} (h : OpR σ τ) (k : OpR τ υ) : OpR σ υ := ⟨fun a j q => ⟨by rw [(k.1 a j q).1, (h.1 a j q).1], by rw [(k.1 a j q).2, (h.1 a j q).2]⟩, fun j q => by rw [k.2.1 j q, h.2.1 j q], by rw [k.2.2, h.2.2]⟩
theorem opR_w9 (σ : Mem) {k : Nat} (v : Int32) (h : k ≠ 5 ∧ k ≠ 8) : OpR σ (wi σ 209 k v) := ⟨fun a j q => ⟨by rw [wi_i, if_neg (by omega)], rfl⟩, fun j q => by rw [wi_i, if_neg (by omega)], rfl⟩
/-- what the reference has kept, and what it left as it was -/
def MdK (n : Nat) (w : Nat → Int32) (u : Nat → Int64) (τ υ : Mem) : Prop := KpO n w u τ υ ∧ (∀ a k, a < 209 ∨ a = 214 ∨ a = 215 ∨ a = 218 ∨ 232 < a → υ.1 a k = τ.1 a k ∧ υ.2.1 a k = τ.2.1 a k) ∧ υ.1 209 8 = τ.1 209 8
/-- tried, done, kept -/
theorem MdK.mk1 {n : Nat} {w : Nat → Int32} {u : Nat → Int64} {τ τ0 σ2 : Mem} {K : Mem → Prop} {X : String → Mem → Prop} (hn : n ≤ 8) (h0 : OpR τ τ0) (h1 : OpR (trM τ0) σ2) (h5 : τ.1 209 5 = nI n) (hw : ∀ k, k < 108 → τ0.1 210 k = w k) (hu : ∀ k, k < 34 → τ0.2.1 211 k = u k) (h : ∀ υ : Mem, MdK n w u τ υ → KpF σ2 υ → K υ) : sp_X5_keeps σ2 K X := by
  have e1 : ∀ a k, a < 209 ∨ (211 < a ∧ a < 216) ∨ a = 218 ∨ 232 < a → σ2.1 a k = τ.1 a k ∧ σ2.2.1 a k = τ.2.1 a k := fun a k q => ⟨by rw [(h1.1 a k (by omega)).1, trM_i _ (by omega), (h0.1 a k (by omega)).1], by rw [(h1.1 a k (by omega)).2, trM_l _ (by omega), (h0.1 a k (by omega)).2]⟩
  have e2 : ∀ k, k = 5 ∨ k = 8 → σ2.1 209 k = τ.1 209 k := fun k q => by rw [h1.2.1 k q, trM_i _ (by omega), h0.2.1 k q]
  refine i_keeps hn (by rw [e2 5 (.inl rfl)]; exact h5) (fun k hk => by rw [(h1.1 216 k (by omega)).1, trM_w _ hk]; exact hw k hk) (fun k hk => by rw [(h1.1 217 k (by omega)).2, trM_u _ hk]; exact hu k hk) (fun υ k1 k2 => h υ ⟨k1.cg (fun k => (e1 212 k (by omega)).1) (fun k => (e1 213 k (by omega)).2) rfl (fun _ => rfl) (fun _ => rfl), fun a k q => ⟨?_, ?_⟩, ?_⟩ k2)
  · rw [k2.1 a k (by omega) (by omega)]; exact (e1 a k (by omega)).1
  · rw [k2.2.1 a k (by omega)]; exact (e1 a k (by omega)).2
  · rw [k2.1 209 8 (by omega) (by omega)]; exact e2 8 (.inr rfl)
theorem MdK.op {n : Nat} {w : Nat → Int32} {u : Nat → Int64} {τ υ υ' : Mem} (h : MdK n w u τ υ) (k : OpR υ υ') : MdK n w u τ υ' := by
  obtain ⟨h1, h2, h3⟩ := h
  exact ⟨h1.cg (fun _ => rfl) (fun _ => rfl) (k.2.1 5 (.inl rfl)) (fun j => (k.1 212 j (by omega)).1) (fun j => (k.1 213 j (by omega)).2), fun a j q => ⟨by rw [(k.1 a j (by omega)).1, (h2 a j q).1], by rw [(k.1 a j (by omega)).2, (h2 a j q).2]⟩, by rw [k.2.1 8 (.inr rfl), h3]⟩
/-- sums that say the same of the stations that are there -/
def uEq (w : Nat → Int32) (u u' : Nat → Int64) : Prop := (∀ n, n < 10 → hasW w n → u' n = u n ∧ u' (10 + n) = u (10 + n) ∧ u' (20 + n) = u (20 + n)) ∧ u' 30 = u 30 ∧ u' 31 = u 31 ∧ u' 32 = u 32 ∧ u' 33 = u 33
theorem NS.ue {σ : Mem} {a : Nat} {w : Nat → Int32} {g : Gr} {u u' : Nat → Int64} (h : NS σ a w g u) (k : uEq w u u') : NS σ a w g u' := by
  obtain ⟨h1, h2, h3, h4, h5, h6⟩ := h
  exact ⟨h1, fun n hn hh => by rw [(k.1 n hn hh).1, (k.1 n hn hh).2.1, (k.1 n hn hh).2.2]; exact h2 n hn hh, by rw [k.2.1]; exact h3, by rw [k.2.2.1]; exact h4, by rw [k.2.2.2.1]; exact h5, by rw [k.2.2.2.2]; exact h6⟩
theorem Sv.cg {σ τ : Mem} {a b i d j b' i' d' j' : Nat} (h : Sv σ a b i d j) (e : ∀ o k, o ≤ 13 → τ.1 (a + o) k = σ.1 (a + o) k) (e2 : ∀ o k, o ≤ 13 → τ.2.1 (a + o) k = σ.2.1 (a + o) k) (e3 : ∀ k, k < 108 → τ.1 b' (i' + k) = σ.1 b (i + k)) (e4 : ∀ k, k < 34 → τ.2.1 d' (j' + k) = σ.2.1 d (j + k)) : Sv τ a b' i' d' j' := by
  obtain ⟨w, g, u, h1, h2, h3, h4⟩ := h
  exact ⟨w, g, u, h1, h2.fr e e2, fun k hk => by rw [e3 k hk]; exact h3 k hk, fun k hk => by rw [e4 k hk]; exact h4 k hk⟩
/-- a change is done on both sides -/
theorem Rel.ch {w w' : Nat → Int32} {g g' : Gr} {u u' : Nat → Int64} {e n : Nat} {σ τ τ' υ : Mem} (hC : Core w g u σ) (hn : n ≤ 8) (he : e < 9) (hj : ∀ j, j < n → Sv σ (83 + 14 * ((e + 8 - j) % 9)) 212 (108 * (n - 1 - j)) 213 (34 * (n - 1 - j))) (hcl : ClC w g u w' g' u' e n σ τ) (hF : ∀ a k, a < 233 → τ'.1 a k = τ.1 a k ∧ τ'.2.1 a k = τ.2.1 a k) (hK : MdK n w u τ' υ) (h210 : ∀ k, k < 108 → υ.1 210 k = w' k) (h211 : uEq w' u' (υ.2.1 211)) (hT : Txt υ) (h12 : υ.1 0 12 = υ.1 209 14) (h13 : υ.1 0 13 = υ.1 209 15) : Rel υ := by
  obtain ⟨c1, c2, c3, c4, c5, c6, c7, c8⟩ := hcl
  obtain ⟨k1, k2, k3⟩ := hK
  have f : ∀ a k, a < 209 → υ.1 a k = τ.1 a k ∧ υ.2.1 a k = τ.2.1 a k := fun a k q => ⟨by rw [(k2 a k (.inl q)).1, (hF a k (by omega)).1], by rw [(k2 a k (.inl q)).2, (hF a k (by omega)).2]⟩
  have f9 : υ.1 209 8 = σ.1 209 8 := by rw [k3, (hF 209 8 (by omega)).1, (c8 209 8 (by omega)).1]
  have g2 : ∀ a k, a = 214 ∨ a = 215 → υ.1 a k = σ.1 a k ∧ υ.2.1 a k = σ.2.1 a k := fun a k q => ⟨by rw [(k2 a k (by omega)).1, (hF a k (by omega)).1, (c8 a k (by omega)).1], by rw [(k2 a k (by omega)).2, (hF a k (by omega)).2, (c8 a k (by omega)).2]⟩
  have hS := hC.2.2.2.2.1
  refine ⟨w', g', υ.2.1 211, ⟨c1, (c2.fr (fun o k ho => (f _ k (by omega)).1) (fun o k ho => (f _ k (by omega)).2)).ue h211, h210, fun k _ => rfl, ⟨?_, fun q => ?_⟩, ⟨min (n + 1) 8, (e + 1) % 9, by omega, by omega, by rw [(f 0 8 (by omega)).1]; exact c4, by rw [(f 0 9 (by omega)).1]; exact c5, k1.1, fun j hj' => ?_⟩, hT, h12, h13⟩, fun q => absurd (by rw [(f 0 11 (by omega)).1]; exact c6) q⟩
  · rw [(f 0 10 (by omega)).1, c7, f9]; exact hS.1
  · rw [(f 0 10 (by omega)).1, c7] at q
    exact (hS.2 q).fr (fun o k ho => by rw [(f _ k (by omega)).1, (c8 _ k (by omega)).1]) (fun o k ho => by rw [(f _ k (by omega)).2, (c8 _ k (by omega)).2]) (fun k => (g2 214 k (by omega)).1) (fun k => (g2 215 k (by omega)).2)
  · by_cases c : j = 0
    · subst c
      refine ⟨w, g, u, hC.1, ?_, fun k hk => ?_, fun k hk => ?_⟩
      · rw [show ((e + 1) % 9 + 8 - 0) % 9 = e by omega]
        exact c3.fr (fun o k ho => (f _ k (by omega)).1) (fun o k ho => (f _ k (by omega)).2)
      · rw [show min (n + 1) 8 - 1 - 0 = min n 7 by omega]; exact k1.2.1 k hk
      · rw [show min (n + 1) 8 - 1 - 0 = min n 7 by omega]; exact k1.2.2.1 k hk
    · have hb : ((e + 1) % 9 + 8 - j) % 9 = (e + 8 - (j - 1)) % 9 := by omega
      have hne : (e + 8 - (j - 1)) % 9 ≠ e := by omega
      have hlt : (e + 8 - (j - 1)) % 9 < 9 := Nat.mod_lt _ (by decide)
      rw [hb]
      generalize hbb : (e + 8 - (j - 1)) % 9 = b at *
      have h0 := hj (j - 1) (by omega)
      rw [hbb] at h0
      have fb : ∀ o k, o ≤ 13 → υ.1 (83 + 14 * b + o) k = σ.1 (83 + 14 * b + o) k ∧ υ.2.1 (83 + 14 * b + o) k = σ.2.1 (83 + 14 * b + o) k := fun o k ho => ⟨by rw [(f _ k (by omega)).1, (c8 _ k (by omega)).1], by rw [(f _ k (by omega)).2, (c8 _ k (by omega)).2]⟩
      refine h0.cg (fun o k ho => (fb o k ho).1) (fun o k ho => (fb o k ho).2) (fun k hk => ?_) (fun k hk => ?_)
      · rw [k1.2.2.2.1 _ k (by omega) hk, (hF 212 _ (by omega)).1, (c8 212 _ (by omega)).1]
        refine congrArg (σ.1 212) ?_
        by_cases c9 : n = 8
        · rw [if_pos c9]; omega
        · rw [if_neg c9]; omega
      · rw [k1.2.2.2.2 _ k (by omega) hk, (hF 213 _ (by omega)).2, (c8 213 _ (by omega)).2]
        refine congrArg (σ.2.1 213) ?_
        by_cases c9 : n = 8
        · rw [if_pos c9]; omega
        · rw [if_neg c9]; omega
