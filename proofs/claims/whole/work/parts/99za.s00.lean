/-! ===== the pool as the constructors leave it ===== -/
abbrev SL : List Nat := [196, 182, 168, 154, 140, 126, 112, 98, 84, 30, 16, 2]
def s00 : Mem := (wi (wi (wi (wi (wi (wi (wi (wi (SG [196, 182, 168, 154, 140, 126, 112, 98, 84, 30, 16, 2]) 0 12 (-1)) 210 0 900) 210 1 100) 210 3 10) 210 4 50000000) 210 5 100) 210 6 5) 209 14 (-1))
theorem s00_o {a : Nat} (h0 : a ≠ 0) (h1 : a ≠ 210) (h2 : a ≠ 209) : s00.1 a = (SG SL).1 a := by
  unfold s00
  rw [wi_ne h2, wi_ne h1, wi_ne h1, wi_ne h1, wi_ne h1, wi_ne h1, wi_ne h1, wi_ne h0]
theorem s00_z {a : Nat} (h0 : a ≠ 0) (h1 : a ≠ 210) (h2 : a ≠ 209) (h : a ∉ SL) : Zr s00 a := ⟨(s00_o h0 h1 h2).trans (SG_z h).1, rfl, rfl⟩
theorem s00_0 : s00.1 0 = fun j => if j = 12 then -1 else 0 := by
  have h1 : (0 : Nat) ≠ 210 := by decide
  have h2 : (0 : Nat) ≠ 209 := by decide
  have h3 : (SG SL).1 0 = fun _ => 0 := (SG_z (by decide)).1
  unfold s00
  rw [wi_ne h2, wi_ne h1, wi_ne h1, wi_ne h1, wi_ne h1, wi_ne h1, wi_ne h1, wi_on, h3]
theorem s00_209 : s00.1 209 = fun j => if j = 14 then -1 else 0 := by
  have h1 : (209 : Nat) ≠ 210 := by decide
  have h2 : (209 : Nat) ≠ 0 := by decide
  have h3 : (SG SL).1 209 = fun _ => 0 := (SG_z (by decide)).1
  unfold s00
  rw [wi_on, wi_ne h1, wi_ne h1, wi_ne h1, wi_ne h1, wi_ne h1, wi_ne h1, wi_ne h2, h3]
theorem s00_210 : s00.1 210 = fun j => if j = 6 then 5 else if j = 5 then 100 else if j = 4 then 50000000 else if j = 3 then 10 else if j = 1 then 100 else if j = 0 then 900 else 0 := by
  have h1 : (210 : Nat) ≠ 209 := by decide
  have h2 : (210 : Nat) ≠ 0 := by decide
  have h3 : (SG SL).1 210 = fun _ => 0 := (SG_z (by decide)).1
  unfold s00
  rw [wi_ne h1, wi_on, wi_on, wi_on, wi_on, wi_on, wi_on, wi_ne h2, h3]
theorem w00_is (k : Nat) : (if k = 6 then (5 : Int32) else if k = 5 then 100 else if k = 4 then 50000000 else if k = 3 then 10 else if k = 1 then 100 else if k = 0 then 900 else 0) = w00 k := by
  match k with
  | 0 => rfl
  | 1 => rfl
  | 2 => rfl
  | 3 => rfl
  | 4 => rfl
  | 5 => rfl
  | 6 => rfl
  | n + 7 =>
    rw [if_neg (by omega), if_neg (by omega), if_neg (by omega), if_neg (by omega), if_neg (by omega), if_neg (by omega)]
    exact (if_neg (by omega)).symm
theorem rel_s00 : Rel s00 := by
  have z : ∀ (a j : Nat), a ≠ 0 → a ≠ 210 → a ≠ 209 → a ∉ SL → s00.1 a j = 0 := fun a j h0 h1 h2 h => congrFun (s00_z h0 h1 h2 h).1 j
  refine rel_start (fun k hk => ?_) (z 1 1 (by decide) (by decide) (by decide) (by decide)) (fun n => z 7 n (by decide) (by decide) (by decide) (by decide)) (fun k => rfl) (fun k hk => ?_) (fun k => rfl) (fun k hk => ?_) (fun k hk => ?_) ?_ ?_ (z 79 1 (by decide) (by decide) (by decide) (by decide))
  · rw [s00_o (by decide) (by decide) (by decide)]
    show (if 2 ∈ SL then FV else fun _ => 0) k = FV k
    rw [if_pos (by decide)]
  · rw [s00_210]
    exact w00_is k
  · rw [s00_0]
    exact if_neg hk
  · rw [s00_209]
    exact if_neg hk
  · rw [s00_0]
    exact if_pos rfl
  · rw [s00_209]
    exact if_pos rfl
/-- the pool is made -/
theorem wk_ws {x : Ctx} {n pc : Nat} {L : List (Nat × Value)} {S : List Value} {σ : Mem} (h : Ws x n pc L S σ) : Wk x (cOf x + n) (sOf x + 6 * n) pc L S σ 235 (fun _ => none) := by
  obtain ⟨p, l, e, R, s, m, args, below, meth, c, g, QQ, c0, s0, nL'⟩ := x
  intro H locs ls hP hS hl
  refine h H locs ls ?_ hS hl
  have e : wK g σ 235 (fun _ => none) = world g σ := List.map_congr_left (fun i _ => by rw [eK_none rfl])
  have h1 := hP.1
  rw [e] at h1
  exact h1
theorem zr_s6 (j : Nat) : Zr (wi (SG [196, 182, 168, 154, 140, 126, 112, 98, 84, 30, 16, 2]) 0 12 (-1)) (209 + j) := by
  have h0 : 209 + j ≠ 0 := by omega
  have h1 : 209 + j ∉ SL := fun h => by
    have h2 := (by decide : ∀ a ∈ SL, a ≤ 196) _ h
    omega
  exact ⟨(wi_ne h0).trans (SG_z h1).1, rfl, rfl⟩
