/-! ===== heads ===== -/
/-- the place of a node in the loop, 0 if it is the beginning or none -/
def ixL (c : Lp) (n : Nat) : Nat → Nat
  | 0 => 0
  | k + 1 => if c.2.1 k = n then k else ixL c n k
theorem ixL_T {c : Lp} (hi : ∀ i j, i < c.1 → j < c.1 → c.2.1 i = c.2.1 j → i = j) {i : Nat} (h1 : i < c.1) : ∀ k, i < k → k ≤ c.1 → ixL c (c.2.1 i) k = i
  | 0, h, _ => absurd h (Nat.not_lt_zero i)
  | k + 1, h, hk => by
    show (if c.2.1 k = c.2.1 i then k else ixL c (c.2.1 i) k) = i
    by_cases q : c.2.1 k = c.2.1 i
    · rw [if_pos q]; exact hi k i (by omega) h1 q
    · rw [if_neg q]
      have : i ≠ k := fun e => q (by rw [e])
      exact ixL_T hi h1 k (by omega) (by omega)
theorem ixL_no {c : Lp} {n : Nat} (h : ¬ inT c n) : ∀ k, k ≤ c.1 → ixL c n k = 0
  | 0, _ => rfl
  | k + 1, hk => by
    show (if c.2.1 k = n then k else ixL c n k) = 0
    by_cases q : c.2.1 k = n
    · rw [if_pos q]
      apply Classical.byContradiction
      intro z
      exact h ⟨k, by omega, by omega, q⟩
    · rw [if_neg q]; exact ixL_no h k (by omega)
def hdF (w : Nat → Int32) (L : List Rec) (c : Lp) (B : Nat → Nat) (f : Nat → Int) : Nat → Nat → Int
  | 0, _ => 0
  | d + 1, n => if n = 0 then 0 else if 0 < ixL c n c.1 then hdF w L c B f d (c.2.1 0) + smZ (fun j => drop (rsW w (c.2.2 j)) (f j)) (ixL c n c.1) else hdF w L c B f d (fe L n) + drop (rsW w (fp L n)) (B n)
/-- the head of a node -/
def hdN (w : Nat → Int32) (L : List Rec) (c : Lp) (B : Nat → Nat) (f : Nat → Int) (n : Nat) : Int := hdF w L c B f 11 n
theorem hdF_st {w : Nat → Int32} {g : Gr} {L : List Rec} {c : Lp} {B : Nat → Nat} {f : Nat → Int} (hT : Tre g 0 L) (hL : LP0 g L c) : ∀ (m n d e : Nat), n ∈ nds L → di L n ≤ m → m < d → m < e → hdF w L c B f d n = hdF w L c B f e n := by
  intro m
  induction m with
  | zero =>
    intro n d e hn hm h1 h2
    have n0 := hT.up0 hn (by omega)
    obtain ⟨d', rfl⟩ : ∃ d', d = d' + 1 := ⟨d - 1, by omega⟩
    obtain ⟨e', rfl⟩ : ∃ e', e = e' + 1 := ⟨e - 1, by omega⟩
    unfold hdF
    rw [if_pos n0, if_pos n0]
  | succ m ih =>
    intro n d e hn hm h1 h2
    obtain ⟨d', rfl⟩ : ∃ d', d = d' + 1 := ⟨d - 1, by omega⟩
    obtain ⟨e', rfl⟩ : ∃ e', e = e' + 1 := ⟨e - 1, by omega⟩
    unfold hdF
    by_cases n0 : n = 0
    · rw [if_pos n0, if_pos n0]
    · rw [if_neg n0, if_neg n0]
      by_cases q : inT c n
      · obtain ⟨i, i0, i1, i2⟩ := q
        have hx := ixL_T hL.1 i1 c.1 i1 (Nat.le_refl _)
        rw [i2] at hx
        have hlt := hL.2.2.2.2.1 i i0 i1
        rw [i2] at hlt
        rw [hx, if_pos i0, if_pos i0, ih (c.2.1 0) d' e' (hL.2.2.2.1 0 (by omega)) (by omega) (by omega) (by omega)]
      · have hx := ixL_no q c.1 (Nat.le_refl _)
        obtain ⟨u1, u2, -, -⟩ := hT.up hn n0
        rw [hx, if_neg (by omega), if_neg (by omega), ih (fe L n) d' e' u1 (by omega) (by omega) (by omega)]
theorem hdN_0 {w : Nat → Int32} {L : List Rec} {c : Lp} {B : Nat → Nat} {f : Nat → Int} : hdN w L c B f 0 = 0 := by
  unfold hdN hdF
  rw [if_pos rfl]
theorem hdN_t {w : Nat → Int32} {g : Gr} {L : List Rec} {c : Lp} {B : Nat → Nat} {f : Nat → Int} (hT : Tre g 0 L) (hL : LP0 g L c) {n : Nat} (hn : n ∈ nds L) (n0 : n ≠ 0) (ht : ¬ inT c n) : hdN w L c B f n = hdN w L c B f (fe L n) + drop (rsW w (fp L n)) (B n) := by
  obtain ⟨u1, u2, -, -⟩ := hT.up hn n0
  have d10 := hT.d10 hn
  have hx := ixL_no ht c.1 (Nat.le_refl _)
  have e : hdN w L c B f n = hdF w L c B f 10 (fe L n) + drop (rsW w (fp L n)) (B n) := by
    unfold hdN
    show (if n = 0 then 0 else if 0 < ixL c n c.1 then _ else hdF w L c B f 10 (fe L n) + drop (rsW w (fp L n)) (B n)) = _
    rw [if_neg n0, hx, if_neg (by omega)]
  rw [e, hdF_st hT hL 9 (fe L n) 10 11 u1 (by omega) (by omega) (by omega)]
  rfl
theorem hdN_l {w : Nat → Int32} {g : Gr} {L : List Rec} {c : Lp} {B : Nat → Nat} {f : Nat → Int} (hT : Tre g 0 L) (hL : LP0 g L c) {k : Nat} (hk : k < c.1) : hdN w L c B f (c.2.1 k) = hdN w L c B f (c.2.1 0) + smZ (fun j => drop (rsW w (c.2.2 j)) (f j)) k := by
  by_cases k0 : k = 0
  · rw [k0]; exact (Int.add_zero _).symm
  · have h0 := hL.2.2.2.1 0 (by omega)
    have hlt := hL.2.2.2.2.1 k (by omega) hk
    have d10 := hT.d10 (hL.2.2.2.1 k hk)
    have n0 : c.2.1 k ≠ 0 := fun e => by rw [e, hT.src.2] at hlt; omega
    have hx := ixL_T hL.1 hk c.1 hk (Nat.le_refl _)
    have e : hdN w L c B f (c.2.1 k) = hdF w L c B f 10 (c.2.1 0) + smZ (fun j => drop (rsW w (c.2.2 j)) (f j)) k := by
      unfold hdN
      show (if c.2.1 k = 0 then 0 else if 0 < ixL c (c.2.1 k) c.1 then hdF w L c B f 10 (c.2.1 0) + smZ (fun j => drop (rsW w (c.2.2 j)) (f j)) (ixL c (c.2.1 k) c.1) else _) = _
      rw [if_neg n0, hx, if_pos (by omega)]
    rw [e, hdF_st hT hL 9 (c.2.1 0) 10 11 h0 (by omega) (by omega) (by omega)]
    rfl
theorem hdN_s {w : Nat → Int32} {g : Gr} {L : List Rec} {c : Lp} {B : Nat → Nat} {f : Nat → Int} (hT : Tre g 0 L) (hL : LP0 g L c) {k : Nat} (hk : k + 1 < c.1) : hdN w L c B f (c.2.1 (k + 1)) = hdN w L c B f (c.2.1 k) + drop (rsW w (c.2.2 k)) (f k) := by
  rw [hdN_l hT hL hk, hdN_l hT hL (show k < c.1 by omega)]
  show _ + (smZ (fun j => drop (rsW w (c.2.2 j)) (f j)) k + drop (rsW w (c.2.2 k)) (f k)) = _
  omega
