/-! ===== the law's body ===== -/
/-- the law's own script -/
def Scr (x : Ctx) (Len : Nat) (xs : Nat → Int32) : Prop := match x with
  | (p, l, e, R, s, m, args, below, meth, c, g, QQ, c0, s0, nL) => va_X (gA g 1003) Len xs s s.heap ∧ gA g 1003 < s.heap.size ∧ ¬ AA g (gA g 1003)
def Lw (x : Ctx) (n : Nat) : Prop := 19 ≤ (roomOf x).frames ∧ 10840 ≤ (roomOf x).locals ∧ cOf x + (n + 4) ≤ (roomOf x).cells ∧ sOf x + 6 * (n + 4) ≤ (roomOf x).slots
def LL (i : Int32) : List (Nat × Value) := [(5, .int i), (4, .ref 234), (3, .ref 233), (2, .ref 209), (1, .ref 0), (0, .ref 1003)]
theorem r_sld {x : Ctx} {own : String} {cc : ByteArray} {nL n pc : Nat} {L : List (Nat × Value)} {S : List Value} {σ : Mem} {Len : Nat} {xs : Nat → Int32} {i : Int32} (C : Cx x own cc nL) (Sc : Scr x Len xs) (pc' : Nat) (d : decode cc pc = .ok (.iaload, 1)) (hp : pc + 1 = pc') (hin : vp_in i Len) (k : Ws x n pc' L (.int (xs i.toNatClampNeg) :: S) σ) : Ws x n pc L (.int i :: .ref 1003 :: S) σ := by
  obtain ⟨p, l, e, R, s, m, args, below, meth, c, g, QQ, c0, s0, nL'⟩ := x
  obtain ⟨hx, hb, hml, hown, hts, hKE, hlk, htr, rfl⟩ := C
  subst hp
  intro H locs ls hP hS hl
  exact va_sld hx hb Sc.1 Sc.2.1 Sc.2.2 hS hin d (k H locs ls hP hS hl)
theorem r_slen {x : Ctx} {own : String} {cc : ByteArray} {nL n pc : Nat} {L : List (Nat × Value)} {S : List Value} {σ : Mem} {Len : Nat} {xs : Nat → Int32} (C : Cx x own cc nL) (Sc : Scr x Len xs) (pc' : Nat) (d : decode cc pc = .ok (.arraylength, 1)) (hp : pc + 1 = pc') (k : Ws x n pc' L (.int (Int32.ofNat Len) :: S) σ) : Ws x n pc L (.ref 1003 :: S) σ := by
  obtain ⟨p, l, e, R, s, m, args, below, meth, c, g, QQ, c0, s0, nL'⟩ := x
  obtain ⟨hx, hb, hml, hown, hts, hKE, hlk, htr, rfl⟩ := C
  subst hp
  intro H locs ls hP hS hl
  exact va_slen hx hb Sc.1 Sc.2.1 Sc.2.2 hS d (k H locs ls hP hS hl)
/-- script[i + c] on the stack -/
theorem r_scr {x : Ctx} {own : String} {cc : ByteArray} {nL n pc : Nat} {L : List (Nat × Value)} {S : List Value} {σ : Mem} {Len : Nat} {xs : Nat → Int32} {i : Int32} {j0 j5 : Nat} {c : Int} (C : Cx x own cc nL) (Sc : Scr x Len xs) (pc' : Nat) (cv : Int32) (d1 : decode cc pc = .ok (.aload_n 0, 1)) (d2 : decode cc (pc + 1) = .ok (.iload 5, 2)) (d3 : decode cc (pc + 3) = .ok (.iconst c, 1)) (d4 : decode cc (pc + 4) = .ok (.iadd, 1)) (d5 : decode cc (pc + 5) = .ok (.iaload, 1)) (hp : pc + 6 = pc') (hj0 : L[j0]? = some (0, .ref 1003)) (hj5 : L[j5]? = some (5, .int i)) (hv : Int32.ofInt c = cv) (hin : vp_in (i + cv) Len) (k : Ws x n pc' L (.int (xs (i + cv).toNatClampNeg) :: S) σ) : Ws x n pc L S σ := by
  refine r_aload_n C (pc + 1) d1 rfl hj0 ?_
  refine r_iload C (pc + 3) d2 rfl hj5 ?_
  refine r_iconst C (pc + 4) d3 rfl hv ?_
  refine r_iadd C (pc + 5) d4 rfl ?_
  exact r_sld C Sc pc' d5 hp hin k
theorem FO_wl (τ : Mem) (v : Int64) : FO τ (wl τ 233 0 v) := fun a k q => ⟨rfl, by rw [wl_l, if_neg (by omega)]⟩
theorem FO_wd (τ : Mem) (v : UInt64) : FO τ (wd τ 234 0 v) := fun a k q => ⟨rfl, rfl⟩
theorem wl_233 (τ : Mem) (v : Int64) : (wl τ 233 0 v).2.1 233 0 = v := by rw [wl_l, if_pos ⟨rfl, rfl⟩]
/-- what the wrapper leaves for the reference's call -/
def KwI (mc : Mem → (Int32 → Mem → Prop) → (String → Mem → Prop) → Prop) (k : Int32) (τ2 : Mem) : Prop := ∃ r τ, FO τ τ2 ∧ AnI mc k r τ ∧ (k = 0 → τ2.2.1 233 0 = r.toInt64)
def KwZ (mc : Mem → (Int32 → Mem → Prop) → (String → Mem → Prop) → Prop) (k : Int32) (τ2 : Mem) : Prop := ∃ r τ, FO τ τ2 ∧ AnI mc k r τ ∧ (k = 0 → τ2.2.1 233 0 = if r = 0 then 0 else 1)
def KwL (mc : Mem → (Int64 → Mem → Prop) → (String → Mem → Prop) → Prop) (k : Int32) (τ2 : Mem) : Prop := ∃ r τ, FO τ τ2 ∧ AnL mc k r τ ∧ (k = 0 → τ2.2.1 233 0 = r)
theorem KwI.a {mc : Mem → (Int32 → Mem → Prop) → (String → Mem → Prop) → Prop} {r : Int32} {τ : Mem} (h : AnI mc 0 r τ) : KwI mc 0 (wl τ 233 0 r.toInt64) := ⟨r, τ, FO_wl _ _, h, fun _ => wl_233 _ _⟩
theorem KwI.b {mc : Mem → (Int32 → Mem → Prop) → (String → Mem → Prop) → Prop} {k : Int32} {τ : Mem} (hk : ¬ k = 0) (h : AnI mc k 0 τ) : KwI mc k τ := ⟨0, τ, FO.rfl' _, h, fun z => absurd z hk⟩
theorem KwZ.a {mc : Mem → (Int32 → Mem → Prop) → (String → Mem → Prop) → Prop} {r : Int32} {τ : Mem} (h : AnI mc 0 r τ) : (r = 0 → KwZ mc 0 (wl τ 233 0 0)) ∧ (¬ r = 0 → KwZ mc 0 (wl τ 233 0 1)) := ⟨fun z => ⟨r, τ, FO_wl _ _, h, fun _ => by rw [if_pos z, wl_233]⟩, fun z => ⟨r, τ, FO_wl _ _, h, fun _ => by rw [if_neg z, wl_233]⟩⟩
theorem KwZ.b {mc : Mem → (Int32 → Mem → Prop) → (String → Mem → Prop) → Prop} {k : Int32} {τ : Mem} (hk : ¬ k = 0) (h : AnI mc k 0 τ) : KwZ mc k τ := ⟨0, τ, FO.rfl' _, h, fun z => absurd z hk⟩
theorem KwL.a {mc : Mem → (Int64 → Mem → Prop) → (String → Mem → Prop) → Prop} {r : Int64} {τ : Mem} (h : AnL mc 0 r τ) : KwL mc 0 (wl τ 233 0 r) := ⟨r, τ, FO_wl _ _, h, fun _ => wl_233 _ _⟩
theorem KwL.b {mc : Mem → (Int64 → Mem → Prop) → (String → Mem → Prop) → Prop} {k : Int32} {τ : Mem} (hk : ¬ k = 0) (h : AnL mc k 0 τ) : KwL mc k τ := ⟨0, τ, FO.rfl' _, h, fun z => absurd z hk⟩
