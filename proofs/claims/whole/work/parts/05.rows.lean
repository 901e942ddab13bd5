theorem r_iadd {x : Ctx} {own : String} {cc : ByteArray} {nL n pc : Nat} {L : List (Nat × Value)} {S : List Value} {σ : Mem} (C : Cx x own cc nL) (pc' : Nat) {a b : Int32} (d : decode cc pc = .ok (.iadd, 1)) (hp : pc + 1 = pc')  (k : Ws x n pc' L (.int (a + b) :: S) σ) : Ws x n pc L (.int b :: .int a :: S) σ := by
  obtain ⟨p, l, e, R, s, m, args, below, meth, c, g, QQ, c0, s0, nL'⟩ := x
  obtain ⟨hx, hb, hml, hown, hts, hKE, hlk, htr, rfl⟩ := C
  subst hp
  intro H locs ls hP hS hl
  exact lv_iadd hx hb d  (k H locs ls hP hS hl)
theorem r_isub {x : Ctx} {own : String} {cc : ByteArray} {nL n pc : Nat} {L : List (Nat × Value)} {S : List Value} {σ : Mem} (C : Cx x own cc nL) (pc' : Nat) {a b : Int32} (d : decode cc pc = .ok (.isub, 1)) (hp : pc + 1 = pc')  (k : Ws x n pc' L (.int (a - b) :: S) σ) : Ws x n pc L (.int b :: .int a :: S) σ := by
  obtain ⟨p, l, e, R, s, m, args, below, meth, c, g, QQ, c0, s0, nL'⟩ := x
  obtain ⟨hx, hb, hml, hown, hts, hKE, hlk, htr, rfl⟩ := C
  subst hp
  intro H locs ls hP hS hl
  exact lv_isub hx hb d  (k H locs ls hP hS hl)
theorem r_imul {x : Ctx} {own : String} {cc : ByteArray} {nL n pc : Nat} {L : List (Nat × Value)} {S : List Value} {σ : Mem} (C : Cx x own cc nL) (pc' : Nat) {a b : Int32} (d : decode cc pc = .ok (.imul, 1)) (hp : pc + 1 = pc')  (k : Ws x n pc' L (.int (a * b) :: S) σ) : Ws x n pc L (.int b :: .int a :: S) σ := by
  obtain ⟨p, l, e, R, s, m, args, below, meth, c, g, QQ, c0, s0, nL'⟩ := x
  obtain ⟨hx, hb, hml, hown, hts, hKE, hlk, htr, rfl⟩ := C
  subst hp
  intro H locs ls hP hS hl
  exact lv_imul hx hb d  (k H locs ls hP hS hl)
theorem r_iand {x : Ctx} {own : String} {cc : ByteArray} {nL n pc : Nat} {L : List (Nat × Value)} {S : List Value} {σ : Mem} (C : Cx x own cc nL) (pc' : Nat) {a b : Int32} (d : decode cc pc = .ok (.iand, 1)) (hp : pc + 1 = pc')  (k : Ws x n pc' L (.int (a &&& b) :: S) σ) : Ws x n pc L (.int b :: .int a :: S) σ := by
  obtain ⟨p, l, e, R, s, m, args, below, meth, c, g, QQ, c0, s0, nL'⟩ := x
  obtain ⟨hx, hb, hml, hown, hts, hKE, hlk, htr, rfl⟩ := C
  subst hp
  intro H locs ls hP hS hl
  exact lv_iand hx hb d  (k H locs ls hP hS hl)
theorem r_ior {x : Ctx} {own : String} {cc : ByteArray} {nL n pc : Nat} {L : List (Nat × Value)} {S : List Value} {σ : Mem} (C : Cx x own cc nL) (pc' : Nat) {a b : Int32} (d : decode cc pc = .ok (.ior, 1)) (hp : pc + 1 = pc')  (k : Ws x n pc' L (.int (a ||| b) :: S) σ) : Ws x n pc L (.int b :: .int a :: S) σ := by
  obtain ⟨p, l, e, R, s, m, args, below, meth, c, g, QQ, c0, s0, nL'⟩ := x
  obtain ⟨hx, hb, hml, hown, hts, hKE, hlk, htr, rfl⟩ := C
  subst hp
  intro H locs ls hP hS hl
  exact lv_ior hx hb d  (k H locs ls hP hS hl)
theorem r_ixor {x : Ctx} {own : String} {cc : ByteArray} {nL n pc : Nat} {L : List (Nat × Value)} {S : List Value} {σ : Mem} (C : Cx x own cc nL) (pc' : Nat) {a b : Int32} (d : decode cc pc = .ok (.ixor, 1)) (hp : pc + 1 = pc')  (k : Ws x n pc' L (.int (a ^^^ b) :: S) σ) : Ws x n pc L (.int b :: .int a :: S) σ := by
  obtain ⟨p, l, e, R, s, m, args, below, meth, c, g, QQ, c0, s0, nL'⟩ := x
  obtain ⟨hx, hb, hml, hown, hts, hKE, hlk, htr, rfl⟩ := C
  subst hp
  intro H locs ls hP hS hl
  exact lv_ixor hx hb d  (k H locs ls hP hS hl)
theorem r_ishl {x : Ctx} {own : String} {cc : ByteArray} {nL n pc : Nat} {L : List (Nat × Value)} {S : List Value} {σ : Mem} (C : Cx x own cc nL) (pc' : Nat) {a b : Int32} (d : decode cc pc = .ok (.ishl, 1)) (hp : pc + 1 = pc')  (k : Ws x n pc' L (.int (a <<< (b &&& 31)) :: S) σ) : Ws x n pc L (.int b :: .int a :: S) σ := by
  obtain ⟨p, l, e, R, s, m, args, below, meth, c, g, QQ, c0, s0, nL'⟩ := x
  obtain ⟨hx, hb, hml, hown, hts, hKE, hlk, htr, rfl⟩ := C
  subst hp
  intro H locs ls hP hS hl
  exact lv_ishl hx hb d  (k H locs ls hP hS hl)
theorem r_ladd {x : Ctx} {own : String} {cc : ByteArray} {nL n pc : Nat} {L : List (Nat × Value)} {S : List Value} {σ : Mem} (C : Cx x own cc nL) (pc' : Nat) {a b : Int64} (d : decode cc pc = .ok (.ladd, 1)) (hp : pc + 1 = pc')  (k : Ws x n pc' L (.long (a + b) :: S) σ) : Ws x n pc L (.long b :: .long a :: S) σ := by
  obtain ⟨p, l, e, R, s, m, args, below, meth, c, g, QQ, c0, s0, nL'⟩ := x
  obtain ⟨hx, hb, hml, hown, hts, hKE, hlk, htr, rfl⟩ := C
  subst hp
  intro H locs ls hP hS hl
  exact lv_ladd hx hb d  (k H locs ls hP hS hl)
theorem r_lsub {x : Ctx} {own : String} {cc : ByteArray} {nL n pc : Nat} {L : List (Nat × Value)} {S : List Value} {σ : Mem} (C : Cx x own cc nL) (pc' : Nat) {a b : Int64} (d : decode cc pc = .ok (.lsub, 1)) (hp : pc + 1 = pc')  (k : Ws x n pc' L (.long (a - b) :: S) σ) : Ws x n pc L (.long b :: .long a :: S) σ := by
  obtain ⟨p, l, e, R, s, m, args, below, meth, c, g, QQ, c0, s0, nL'⟩ := x
  obtain ⟨hx, hb, hml, hown, hts, hKE, hlk, htr, rfl⟩ := C
  subst hp
  intro H locs ls hP hS hl
  exact lv_lsub hx hb d  (k H locs ls hP hS hl)
theorem r_lmul {x : Ctx} {own : String} {cc : ByteArray} {nL n pc : Nat} {L : List (Nat × Value)} {S : List Value} {σ : Mem} (C : Cx x own cc nL) (pc' : Nat) {a b : Int64} (d : decode cc pc = .ok (.lmul, 1)) (hp : pc + 1 = pc')  (k : Ws x n pc' L (.long (a * b) :: S) σ) : Ws x n pc L (.long b :: .long a :: S) σ := by
  obtain ⟨p, l, e, R, s, m, args, below, meth, c, g, QQ, c0, s0, nL'⟩ := x
  obtain ⟨hx, hb, hml, hown, hts, hKE, hlk, htr, rfl⟩ := C
  subst hp
  intro H locs ls hP hS hl
  exact lv_lmul hx hb d  (k H locs ls hP hS hl)
theorem r_lxor {x : Ctx} {own : String} {cc : ByteArray} {nL n pc : Nat} {L : List (Nat × Value)} {S : List Value} {σ : Mem} (C : Cx x own cc nL) (pc' : Nat) {a b : Int64} (d : decode cc pc = .ok (.lxor, 1)) (hp : pc + 1 = pc')  (k : Ws x n pc' L (.long (a ^^^ b) :: S) σ) : Ws x n pc L (.long b :: .long a :: S) σ := by
  obtain ⟨p, l, e, R, s, m, args, below, meth, c, g, QQ, c0, s0, nL'⟩ := x
  obtain ⟨hx, hb, hml, hown, hts, hKE, hlk, htr, rfl⟩ := C
  subst hp
  intro H locs ls hP hS hl
  exact lv_lxor hx hb d  (k H locs ls hP hS hl)
theorem r_idiv {x : Ctx} {own : String} {cc : ByteArray} {nL n pc : Nat} {L : List (Nat × Value)} {S : List Value} {σ : Mem} (C : Cx x own cc nL) (pc' : Nat) {a b : Int32} (d : decode cc pc = .ok (.idiv, 1)) (hp : pc + 1 = pc') (h0 : ¬ b = 0) (k : Ws x n pc' L (.int (a / b) :: S) σ) : Ws x n pc L (.int b :: .int a :: S) σ := by
  obtain ⟨p, l, e, R, s, m, args, below, meth, c, g, QQ, c0, s0, nL'⟩ := x
  obtain ⟨hx, hb, hml, hown, hts, hKE, hlk, htr, rfl⟩ := C
  subst hp
  intro H locs ls hP hS hl
  exact lv_idiv hx hb d h0 (k H locs ls hP hS hl)
theorem r_ldiv {x : Ctx} {own : String} {cc : ByteArray} {nL n pc : Nat} {L : List (Nat × Value)} {S : List Value} {σ : Mem} (C : Cx x own cc nL) (pc' : Nat) {a b : Int64} (d : decode cc pc = .ok (.ldiv, 1)) (hp : pc + 1 = pc') (h0 : ¬ b = 0) (k : Ws x n pc' L (.long (a / b) :: S) σ) : Ws x n pc L (.long b :: .long a :: S) σ := by
  obtain ⟨p, l, e, R, s, m, args, below, meth, c, g, QQ, c0, s0, nL'⟩ := x
  obtain ⟨hx, hb, hml, hown, hts, hKE, hlk, htr, rfl⟩ := C
  subst hp
  intro H locs ls hP hS hl
  exact lv_ldiv hx hb d h0 (k H locs ls hP hS hl)
theorem r_lrem {x : Ctx} {own : String} {cc : ByteArray} {nL n pc : Nat} {L : List (Nat × Value)} {S : List Value} {σ : Mem} (C : Cx x own cc nL) (pc' : Nat) {a b : Int64} (d : decode cc pc = .ok (.lrem, 1)) (hp : pc + 1 = pc') (h0 : ¬ b = 0) (k : Ws x n pc' L (.long (a - a / b * b) :: S) σ) : Ws x n pc L (.long b :: .long a :: S) σ := by
  obtain ⟨p, l, e, R, s, m, args, below, meth, c, g, QQ, c0, s0, nL'⟩ := x
  obtain ⟨hx, hb, hml, hown, hts, hKE, hlk, htr, rfl⟩ := C
  subst hp
  intro H locs ls hP hS hl
  exact lv_lrem hx hb d h0 (k H locs ls hP hS hl)
theorem r_iushr {x : Ctx} {own : String} {cc : ByteArray} {nL n pc : Nat} {L : List (Nat × Value)} {S : List Value} {σ : Mem} (C : Cx x own cc nL) (pc' : Nat) {a b : Int32} (d : decode cc pc = .ok (.iushr, 1)) (hp : pc + 1 = pc')  (k : Ws x n pc' L (.int (a.toUInt32 >>> (b.toUInt32 &&& Int32.toUInt32 31)).toInt32 :: S) σ) : Ws x n pc L (.int b :: .int a :: S) σ := by
  obtain ⟨p, l, e, R, s, m, args, below, meth, c, g, QQ, c0, s0, nL'⟩ := x
  obtain ⟨hx, hb, hml, hown, hts, hKE, hlk, htr, rfl⟩ := C
  subst hp
  intro H locs ls hP hS hl
  exact lv_iushr hx hb d rfl (k H locs ls hP hS hl)
theorem r_ineg {x : Ctx} {own : String} {cc : ByteArray} {nL n pc : Nat} {L : List (Nat × Value)} {S : List Value} {σ : Mem} (C : Cx x own cc nL) (pc' : Nat) {a : Int32} (d : decode cc pc = .ok (.ineg, 1)) (hp : pc + 1 = pc')  (k : Ws x n pc' L (.int (-a) :: S) σ) : Ws x n pc L (.int a :: S) σ := by
  obtain ⟨p, l, e, R, s, m, args, below, meth, c, g, QQ, c0, s0, nL'⟩ := x
  obtain ⟨hx, hb, hml, hown, hts, hKE, hlk, htr, rfl⟩ := C
  subst hp
  intro H locs ls hP hS hl
  exact lv_ineg hx hb d  (k H locs ls hP hS hl)
theorem r_lneg {x : Ctx} {own : String} {cc : ByteArray} {nL n pc : Nat} {L : List (Nat × Value)} {S : List Value} {σ : Mem} (C : Cx x own cc nL) (pc' : Nat) {a : Int64} (d : decode cc pc = .ok (.lneg, 1)) (hp : pc + 1 = pc')  (k : Ws x n pc' L (.long (-a) :: S) σ) : Ws x n pc L (.long a :: S) σ := by
  obtain ⟨p, l, e, R, s, m, args, below, meth, c, g, QQ, c0, s0, nL'⟩ := x
  obtain ⟨hx, hb, hml, hown, hts, hKE, hlk, htr, rfl⟩ := C
  subst hp
  intro H locs ls hP hS hl
  exact lv_lneg hx hb d  (k H locs ls hP hS hl)
theorem r_i2l {x : Ctx} {own : String} {cc : ByteArray} {nL n pc : Nat} {L : List (Nat × Value)} {S : List Value} {σ : Mem} (C : Cx x own cc nL) (pc' : Nat) {a : Int32} (d : decode cc pc = .ok (.i2l, 1)) (hp : pc + 1 = pc')  (k : Ws x n pc' L (.long a.toInt64 :: S) σ) : Ws x n pc L (.int a :: S) σ := by
  obtain ⟨p, l, e, R, s, m, args, below, meth, c, g, QQ, c0, s0, nL'⟩ := x
  obtain ⟨hx, hb, hml, hown, hts, hKE, hlk, htr, rfl⟩ := C
  subst hp
  intro H locs ls hP hS hl
  exact lv_i2l hx hb d rfl (k H locs ls hP hS hl)
theorem r_l2i {x : Ctx} {own : String} {cc : ByteArray} {nL n pc : Nat} {L : List (Nat × Value)} {S : List Value} {σ : Mem} (C : Cx x own cc nL) (pc' : Nat) {a : Int64} (d : decode cc pc = .ok (.l2i, 1)) (hp : pc + 1 = pc')  (k : Ws x n pc' L (.int a.toInt32 :: S) σ) : Ws x n pc L (.long a :: S) σ := by
  obtain ⟨p, l, e, R, s, m, args, below, meth, c, g, QQ, c0, s0, nL'⟩ := x
  obtain ⟨hx, hb, hml, hown, hts, hKE, hlk, htr, rfl⟩ := C
  subst hp
  intro H locs ls hP hS hl
  exact lv_l2i hx hb d rfl (k H locs ls hP hS hl)
theorem r_i2c {x : Ctx} {own : String} {cc : ByteArray} {nL n pc : Nat} {L : List (Nat × Value)} {S : List Value} {σ : Mem} (C : Cx x own cc nL) (pc' : Nat) {a : Int32} (d : decode cc pc = .ok (.i2c, 1)) (hp : pc + 1 = pc')  (k : Ws x n pc' L (.int (a.toUInt32 % 65536).toInt32 :: S) σ) : Ws x n pc L (.int a :: S) σ := by
  obtain ⟨p, l, e, R, s, m, args, below, meth, c, g, QQ, c0, s0, nL'⟩ := x
  obtain ⟨hx, hb, hml, hown, hts, hKE, hlk, htr, rfl⟩ := C
  subst hp
  intro H locs ls hP hS hl
  exact lv_i2c hx hb d rfl (k H locs ls hP hS hl)
theorem r_i2f {x : Ctx} {own : String} {cc : ByteArray} {nL n pc : Nat} {L : List (Nat × Value)} {S : List Value} {σ : Mem} (C : Cx x own cc nL) (pc' : Nat) {a : Int32} (d : decode cc pc = .ok (.i2f, 1)) (hp : pc + 1 = pc')  (k : Ws x n pc' L (.float (FP.i2f a) :: S) σ) : Ws x n pc L (.int a :: S) σ := by
  obtain ⟨p, l, e, R, s, m, args, below, meth, c, g, QQ, c0, s0, nL'⟩ := x
  obtain ⟨hx, hb, hml, hown, hts, hKE, hlk, htr, rfl⟩ := C
  subst hp
  intro H locs ls hP hS hl
  exact lv_i2f hx hb d  (k H locs ls hP hS hl)
theorem r_l2d {x : Ctx} {own : String} {cc : ByteArray} {nL n pc : Nat} {L : List (Nat × Value)} {S : List Value} {σ : Mem} (C : Cx x own cc nL) (pc' : Nat) {a : Int64} (d : decode cc pc = .ok (.l2d, 1)) (hp : pc + 1 = pc')  (k : Ws x n pc' L (.double (FP.l2d a) :: S) σ) : Ws x n pc L (.long a :: S) σ := by
  obtain ⟨p, l, e, R, s, m, args, below, meth, c, g, QQ, c0, s0, nL'⟩ := x
  obtain ⟨hx, hb, hml, hown, hts, hKE, hlk, htr, rfl⟩ := C
  subst hp
  intro H locs ls hP hS hl
  exact lv_l2d hx hb d  (k H locs ls hP hS hl)
theorem r_fdiv {x : Ctx} {own : String} {cc : ByteArray} {nL n pc : Nat} {L : List (Nat × Value)} {S : List Value} {σ : Mem} (C : Cx x own cc nL) (pc' : Nat) {a b : UInt32} (d : decode cc pc = .ok (.fdiv, 1)) (hp : pc + 1 = pc') (h0 : vf_n32 (FP.fdiv a b)) (k : Ws x n pc' L (.float (FP.fdiv a b) :: S) σ) : Ws x n pc L (.float b :: .float a :: S) σ := by
  obtain ⟨p, l, e, R, s, m, args, below, meth, c, g, QQ, c0, s0, nL'⟩ := x
  obtain ⟨hx, hb, hml, hown, hts, hKE, hlk, htr, rfl⟩ := C
  subst hp
  intro H locs ls hP hS hl
  exact lv_fdiv hx hb d h0 (k H locs ls hP hS hl)
theorem r_ddiv {x : Ctx} {own : String} {cc : ByteArray} {nL n pc : Nat} {L : List (Nat × Value)} {S : List Value} {σ : Mem} (C : Cx x own cc nL) (pc' : Nat) {a b : UInt64} (d : decode cc pc = .ok (.ddiv, 1)) (hp : pc + 1 = pc') (h0 : vf_n64 (FP.ddiv a b)) (k : Ws x n pc' L (.double (FP.ddiv a b) :: S) σ) : Ws x n pc L (.double b :: .double a :: S) σ := by
  obtain ⟨p, l, e, R, s, m, args, below, meth, c, g, QQ, c0, s0, nL'⟩ := x
  obtain ⟨hx, hb, hml, hown, hts, hKE, hlk, htr, rfl⟩ := C
  subst hp
  intro H locs ls hP hS hl
  exact lv_ddiv hx hb d h0 (k H locs ls hP hS hl)
theorem r_lcmp {x : Ctx} {own : String} {cc : ByteArray} {nL n pc : Nat} {L : List (Nat × Value)} {S : List Value} {σ : Mem} (C : Cx x own cc nL) (pc' : Nat) {a b : Int64} (d : decode cc pc = .ok (.lcmp, 1)) (hp : pc + 1 = pc')  (k : Ws x n pc' L (.int (lg_cmp a b) :: S) σ) : Ws x n pc L (.long b :: .long a :: S) σ := by
  obtain ⟨p, l, e, R, s, m, args, below, meth, c, g, QQ, c0, s0, nL'⟩ := x
  obtain ⟨hx, hb, hml, hown, hts, hKE, hlk, htr, rfl⟩ := C
  subst hp
  intro H locs ls hP hS hl
  exact W.lcmp hx hb d  (k H locs ls hP hS hl)
theorem r_iconst {x : Ctx} {own : String} {cc : ByteArray} {nL n pc : Nat} {L : List (Nat × Value)} {S : List Value} {σ : Mem} (C : Cx x own cc nL) (pc' : Nat) {z : Int} {v : Int32} (d : decode cc pc = .ok (.iconst z, 1)) (hp : pc + 1 = pc') (hv : Int32.ofInt z = v) (k : Ws x n pc' L (.int v :: S) σ) : Ws x n pc L (S) σ := by
  obtain ⟨p, l, e, R, s, m, args, below, meth, c, g, QQ, c0, s0, nL'⟩ := x
  obtain ⟨hx, hb, hml, hown, hts, hKE, hlk, htr, rfl⟩ := C
  subst hp
  intro H locs ls hP hS hl
  exact lv_iconst hx hb d hv (k H locs ls hP hS hl)
theorem r_bipush {x : Ctx} {own : String} {cc : ByteArray} {nL n pc : Nat} {L : List (Nat × Value)} {S : List Value} {σ : Mem} (C : Cx x own cc nL) (pc' : Nat) {z : Int} {v : Int32} (d : decode cc pc = .ok (.bipush z, 2)) (hp : pc + 2 = pc') (hv : (Int8.ofInt z).toInt32 = v) (k : Ws x n pc' L (.int v :: S) σ) : Ws x n pc L (S) σ := by
  obtain ⟨p, l, e, R, s, m, args, below, meth, c, g, QQ, c0, s0, nL'⟩ := x
  obtain ⟨hx, hb, hml, hown, hts, hKE, hlk, htr, rfl⟩ := C
  subst hp
  intro H locs ls hP hS hl
  exact lv_bipush hx hb d hv (k H locs ls hP hS hl)
theorem r_sipush {x : Ctx} {own : String} {cc : ByteArray} {nL n pc : Nat} {L : List (Nat × Value)} {S : List Value} {σ : Mem} (C : Cx x own cc nL) (pc' : Nat) {z : Int} {v : Int32} (d : decode cc pc = .ok (.sipush z, 3)) (hp : pc + 3 = pc') (hv : (Int16.ofInt z).toInt32 = v) (k : Ws x n pc' L (.int v :: S) σ) : Ws x n pc L (S) σ := by
  obtain ⟨p, l, e, R, s, m, args, below, meth, c, g, QQ, c0, s0, nL'⟩ := x
  obtain ⟨hx, hb, hml, hown, hts, hKE, hlk, htr, rfl⟩ := C
  subst hp
  intro H locs ls hP hS hl
  exact lv_sipush hx hb d hv (k H locs ls hP hS hl)
theorem r_lconst {x : Ctx} {own : String} {cc : ByteArray} {nL n pc : Nat} {L : List (Nat × Value)} {S : List Value} {σ : Mem} (C : Cx x own cc nL) (pc' : Nat) {z : Fin 2} {v : Int64} (d : decode cc pc = .ok (.lconst z, 1)) (hp : pc + 1 = pc') (hv : Int64.ofNat (z : Nat) = v) (k : Ws x n pc' L (.long v :: S) σ) : Ws x n pc L (S) σ := by
  obtain ⟨p, l, e, R, s, m, args, below, meth, c, g, QQ, c0, s0, nL'⟩ := x
  obtain ⟨hx, hb, hml, hown, hts, hKE, hlk, htr, rfl⟩ := C
  subst hp
  intro H locs ls hP hS hl
  exact lv_lconst hx hb d hv (k H locs ls hP hS hl)
theorem r_ldc {x : Ctx} {own : String} {cc : ByteArray} {nL n pc : Nat} {L : List (Nat × Value)} {S : List Value} {σ : Mem} (C : Cx x own cc nL) (pc' : Nat) {ix : Nat} {v : Int32} (d : decode cc pc = .ok (.ldc ix, 2)) (hp : pc + 2 = pc') (hw : Cond.constant own ix v ∈ TB) (k : Ws x n pc' L (.int v :: S) σ) : Ws x n pc L S σ := by
  obtain ⟨p, l, e, R, s, m, args, below, meth, c, g, QQ, c0, s0, nL'⟩ := x
  obtain ⟨hx, hb, hml, hown, hts, hKE, hlk, htr, rfl⟩ := C
  subst hp
  intro H locs ls hP hS hl
  exact lv_ldc hx hb hown (hts _ hw) d (k H locs ls hP hS hl)
theorem r_ldcw {x : Ctx} {own : String} {cc : ByteArray} {nL n pc : Nat} {L : List (Nat × Value)} {S : List Value} {σ : Mem} (C : Cx x own cc nL) (pc' : Nat) {ix : Nat} {v : Int32} (d : decode cc pc = .ok (.ldc_w ix, 3)) (hp : pc + 3 = pc') (hw : Cond.constant own ix v ∈ TB) (k : Ws x n pc' L (.int v :: S) σ) : Ws x n pc L S σ := by
  obtain ⟨p, l, e, R, s, m, args, below, meth, c, g, QQ, c0, s0, nL'⟩ := x
  obtain ⟨hx, hb, hml, hown, hts, hKE, hlk, htr, rfl⟩ := C
  subst hp
  intro H locs ls hP hS hl
  exact lv_ldcw hx hb hown (hts _ hw) d (k H locs ls hP hS hl)
theorem r_ldc2 {x : Ctx} {own : String} {cc : ByteArray} {nL n pc : Nat} {L : List (Nat × Value)} {S : List Value} {σ : Mem} (C : Cx x own cc nL) (pc' : Nat) {ix : Nat} {v : Int64} (d : decode cc pc = .ok (.ldc2_w ix, 3)) (hp : pc + 3 = pc') (hw : Cond.constantLong own ix v ∈ TB) (k : Ws x n pc' L (.long v :: S) σ) : Ws x n pc L S σ := by
  obtain ⟨p, l, e, R, s, m, args, below, meth, c, g, QQ, c0, s0, nL'⟩ := x
  obtain ⟨hx, hb, hml, hown, hts, hKE, hlk, htr, rfl⟩ := C
  subst hp
  intro H locs ls hP hS hl
  exact lv_ldc2 hx hb hown (hts _ hw) d (k H locs ls hP hS hl)
theorem r_ldcf {x : Ctx} {own : String} {cc : ByteArray} {nL n pc : Nat} {L : List (Nat × Value)} {S : List Value} {σ : Mem} (C : Cx x own cc nL) (pc' : Nat) {ix : Nat} {v : UInt32} (d : decode cc pc = .ok (.ldc ix, 2)) (hp : pc + 2 = pc') (hw : Cond.constantFloat own ix v ∈ TB) (k : Ws x n pc' L (.float v :: S) σ) : Ws x n pc L S σ := by
  obtain ⟨p, l, e, R, s, m, args, below, meth, c, g, QQ, c0, s0, nL'⟩ := x
  obtain ⟨hx, hb, hml, hown, hts, hKE, hlk, htr, rfl⟩ := C
  subst hp
  intro H locs ls hP hS hl
  exact lv_ldcf hx hb hown (hts _ hw) d (k H locs ls hP hS hl)
theorem r_dup {x : Ctx} {own : String} {cc : ByteArray} {nL n pc : Nat} {L : List (Nat × Value)} {S : List Value} {σ : Mem} (C : Cx x own cc nL) (pc' : Nat) {v : Value} (d : decode cc pc = .ok (.dup, 1)) (hp : pc + 1 = pc') (hv : v.category = 1) (k : Ws x n pc' L (v :: v :: S) σ) : Ws x n pc L (v :: S) σ := by
  obtain ⟨p, l, e, R, s, m, args, below, meth, c, g, QQ, c0, s0, nL'⟩ := x
  obtain ⟨hx, hb, hml, hown, hts, hKE, hlk, htr, rfl⟩ := C
  subst hp
  intro H locs ls hP hS hl
  exact lv_dup hx hb d ((rv_cat g v).trans hv) (k H locs ls hP hS hl)
theorem r_dup_x1 {x : Ctx} {own : String} {cc : ByteArray} {nL n pc : Nat} {L : List (Nat × Value)} {S : List Value} {σ : Mem} (C : Cx x own cc nL) (pc' : Nat) {v w : Value} (d : decode cc pc = .ok (.dup_x1, 1)) (hp : pc + 1 = pc') (hv : v.category = 1) (hw : w.category = 1) (k : Ws x n pc' L (v :: w :: v :: S) σ) : Ws x n pc L (v :: w :: S) σ := by
  obtain ⟨p, l, e, R, s, m, args, below, meth, c, g, QQ, c0, s0, nL'⟩ := x
  obtain ⟨hx, hb, hml, hown, hts, hKE, hlk, htr, rfl⟩ := C
  subst hp
  intro H locs ls hP hS hl
  exact lv_dup_x1 hx hb d ((rv_cat g v).trans hv) ((rv_cat g w).trans hw) (k H locs ls hP hS hl)
theorem r_dup_x2 {x : Ctx} {own : String} {cc : ByteArray} {nL n pc : Nat} {L : List (Nat × Value)} {S : List Value} {σ : Mem} (C : Cx x own cc nL) (pc' : Nat) {v w u : Value} (d : decode cc pc = .ok (.dup_x2, 1)) (hp : pc + 1 = pc') (hv : v.category = 1) (hw : w.category = 1) (hu : u.category = 1) (k : Ws x n pc' L (v :: w :: u :: v :: S) σ) : Ws x n pc L (v :: w :: u :: S) σ := by
  obtain ⟨p, l, e, R, s, m, args, below, meth, c, g, QQ, c0, s0, nL'⟩ := x
  obtain ⟨hx, hb, hml, hown, hts, hKE, hlk, htr, rfl⟩ := C
  subst hp
  intro H locs ls hP hS hl
  exact lv_dup_x2 hx hb d ((rv_cat g v).trans hv) ((rv_cat g w).trans hw) ((rv_cat g u).trans hu) (k H locs ls hP hS hl)
theorem r_dup2 {x : Ctx} {own : String} {cc : ByteArray} {nL n pc : Nat} {L : List (Nat × Value)} {S : List Value} {σ : Mem} (C : Cx x own cc nL) (pc' : Nat) {v w : Value} (d : decode cc pc = .ok (.dup2, 1)) (hp : pc + 1 = pc') (hv : v.category = 1) (hw : w.category = 1) (k : Ws x n pc' L (v :: w :: v :: w :: S) σ) : Ws x n pc L (v :: w :: S) σ := by
  obtain ⟨p, l, e, R, s, m, args, below, meth, c, g, QQ, c0, s0, nL'⟩ := x
  obtain ⟨hx, hb, hml, hown, hts, hKE, hlk, htr, rfl⟩ := C
  subst hp
  intro H locs ls hP hS hl
  exact lv_dup2_11 hx hb d ((rv_cat g v).trans hv) ((rv_cat g w).trans hw) (k H locs ls hP hS hl)
theorem r_dup2L {x : Ctx} {own : String} {cc : ByteArray} {nL n pc : Nat} {L : List (Nat × Value)} {S : List Value} {σ : Mem} (C : Cx x own cc nL) (pc' : Nat) {v : Value} (d : decode cc pc = .ok (.dup2, 1)) (hp : pc + 1 = pc') (hv : v.category = 2) (k : Ws x n pc' L (v :: v :: S) σ) : Ws x n pc L (v :: S) σ := by
  obtain ⟨p, l, e, R, s, m, args, below, meth, c, g, QQ, c0, s0, nL'⟩ := x
  obtain ⟨hx, hb, hml, hown, hts, hKE, hlk, htr, rfl⟩ := C
  subst hp
  intro H locs ls hP hS hl
  exact lv_dup2_2 hx hb d ((rv_cat g v).trans hv) (k H locs ls hP hS hl)
theorem r_iload {x : Ctx} {own : String} {cc : ByteArray} {nL n pc : Nat} {L : List (Nat × Value)} {S : List Value} {σ : Mem} (C : Cx x own cc nL) (pc' : Nat) {i j : Nat} {v : Int32} (d : decode cc pc = .ok (.iload i, 2)) (hp : pc + 2 = pc') (hj : L[j]? = some (i, .int v)) (k : Ws x n pc' L (.int v :: S) σ) : Ws x n pc L S σ := by
  obtain ⟨p, l, e, R, s, m, args, below, meth, c, g, QQ, c0, s0, nL'⟩ := x
  obtain ⟨hx, hb, hml, hown, hts, hKE, hlk, htr, rfl⟩ := C
  subst hp
  intro H locs ls hP hS hl
  exact lv_iload hx hb d (lk_has hl (List.mem_of_getElem? hj)) (k H locs ls hP hS hl)
theorem r_iload_n {x : Ctx} {own : String} {cc : ByteArray} {nL n pc : Nat} {L : List (Nat × Value)} {S : List Value} {σ : Mem} (C : Cx x own cc nL) (pc' : Nat) {i : Fin 4} {j : Nat} {v : Int32} (d : decode cc pc = .ok (.iload_n i, 1)) (hp : pc + 1 = pc') (hj : L[j]? = some ((i : Nat), .int v)) (k : Ws x n pc' L (.int v :: S) σ) : Ws x n pc L S σ := by
  obtain ⟨p, l, e, R, s, m, args, below, meth, c, g, QQ, c0, s0, nL'⟩ := x
  obtain ⟨hx, hb, hml, hown, hts, hKE, hlk, htr, rfl⟩ := C
  subst hp
  intro H locs ls hP hS hl
  exact lv_iload_n hx hb d rfl (lk_has hl (List.mem_of_getElem? hj)) (k H locs ls hP hS hl)
theorem r_lload {x : Ctx} {own : String} {cc : ByteArray} {nL n pc : Nat} {L : List (Nat × Value)} {S : List Value} {σ : Mem} (C : Cx x own cc nL) (pc' : Nat) {i j : Nat} {v : Int64} (d : decode cc pc = .ok (.lload i, 2)) (hp : pc + 2 = pc') (hj : L[j]? = some (i, .long v)) (k : Ws x n pc' L (.long v :: S) σ) : Ws x n pc L S σ := by
  obtain ⟨p, l, e, R, s, m, args, below, meth, c, g, QQ, c0, s0, nL'⟩ := x
  obtain ⟨hx, hb, hml, hown, hts, hKE, hlk, htr, rfl⟩ := C
  subst hp
  intro H locs ls hP hS hl
  exact lv_lload hx hb d (lk_has hl (List.mem_of_getElem? hj)) (k H locs ls hP hS hl)
theorem r_lload_n {x : Ctx} {own : String} {cc : ByteArray} {nL n pc : Nat} {L : List (Nat × Value)} {S : List Value} {σ : Mem} (C : Cx x own cc nL) (pc' : Nat) {i : Fin 4} {j : Nat} {v : Int64} (d : decode cc pc = .ok (.lload_n i, 1)) (hp : pc + 1 = pc') (hj : L[j]? = some ((i : Nat), .long v)) (k : Ws x n pc' L (.long v :: S) σ) : Ws x n pc L S σ := by
  obtain ⟨p, l, e, R, s, m, args, below, meth, c, g, QQ, c0, s0, nL'⟩ := x
  obtain ⟨hx, hb, hml, hown, hts, hKE, hlk, htr, rfl⟩ := C
  subst hp
  intro H locs ls hP hS hl
  exact lv_lload_n hx hb d rfl (lk_has hl (List.mem_of_getElem? hj)) (k H locs ls hP hS hl)
theorem r_aload {x : Ctx} {own : String} {cc : ByteArray} {nL n pc : Nat} {L : List (Nat × Value)} {S : List Value} {σ : Mem} (C : Cx x own cc nL) (pc' : Nat) {i j : Nat} {v : Nat} (d : decode cc pc = .ok (.aload i, 2)) (hp : pc + 2 = pc') (hj : L[j]? = some (i, .ref v)) (k : Ws x n pc' L (.ref v :: S) σ) : Ws x n pc L S σ := by
  obtain ⟨p, l, e, R, s, m, args, below, meth, c, g, QQ, c0, s0, nL'⟩ := x
  obtain ⟨hx, hb, hml, hown, hts, hKE, hlk, htr, rfl⟩ := C
  subst hp
  intro H locs ls hP hS hl
  exact lv_aload hx hb d (lk_has hl (List.mem_of_getElem? hj)) (k H locs ls hP hS hl)
theorem r_aload_n {x : Ctx} {own : String} {cc : ByteArray} {nL n pc : Nat} {L : List (Nat × Value)} {S : List Value} {σ : Mem} (C : Cx x own cc nL) (pc' : Nat) {i : Fin 4} {j : Nat} {v : Nat} (d : decode cc pc = .ok (.aload_n i, 1)) (hp : pc + 1 = pc') (hj : L[j]? = some ((i : Nat), .ref v)) (k : Ws x n pc' L (.ref v :: S) σ) : Ws x n pc L S σ := by
  obtain ⟨p, l, e, R, s, m, args, below, meth, c, g, QQ, c0, s0, nL'⟩ := x
  obtain ⟨hx, hb, hml, hown, hts, hKE, hlk, htr, rfl⟩ := C
  subst hp
  intro H locs ls hP hS hl
  exact lv_aload_n hx hb d rfl (lk_has hl (List.mem_of_getElem? hj)) (k H locs ls hP hS hl)
theorem r_dload {x : Ctx} {own : String} {cc : ByteArray} {nL n pc : Nat} {L : List (Nat × Value)} {S : List Value} {σ : Mem} (C : Cx x own cc nL) (pc' : Nat) {i j : Nat} {v : UInt64} (d : decode cc pc = .ok (.dload i, 2)) (hp : pc + 2 = pc') (hj : L[j]? = some (i, .double v)) (k : Ws x n pc' L (.double v :: S) σ) : Ws x n pc L S σ := by
  obtain ⟨p, l, e, R, s, m, args, below, meth, c, g, QQ, c0, s0, nL'⟩ := x
  obtain ⟨hx, hb, hml, hown, hts, hKE, hlk, htr, rfl⟩ := C
  subst hp
  intro H locs ls hP hS hl
  exact lv_dload hx hb d (lk_has hl (List.mem_of_getElem? hj)) (k H locs ls hP hS hl)
theorem r_istore {x : Ctx} {own : String} {cc : ByteArray} {nL n pc : Nat} {L : List (Nat × Value)} {S : List Value} {σ : Mem} (C : Cx x own cc nL) (pc' : Nat) (L' : List (Nat × Value)) {i : Nat} {v : Int32} (d : decode cc pc = .ok (.istore i, 2)) (hp : pc + 2 = pc') (hi : i < nL) (hL : st1 L i (.int v) = L') (k : Ws x n pc' L' S σ) : Ws x n pc L (.int v :: S) σ := by
  obtain ⟨p, l, e, R, s, m, args, below, meth, c, g, QQ, c0, s0, nL'⟩ := x
  obtain ⟨hx, hb, hml, hown, hts, hKE, hlk, htr, rfl⟩ := C
  subst hp
  intro H locs ls hP hS hl
  subst hL
  exact lv_istore hx hb d hl hi (mapL_st1 g L _ (.int v)) (fun ls' hl' => k H locs ls' hP hS hl')
theorem r_istore_n {x : Ctx} {own : String} {cc : ByteArray} {nL n pc : Nat} {L : List (Nat × Value)} {S : List Value} {σ : Mem} (C : Cx x own cc nL) (pc' : Nat) (L' : List (Nat × Value)) {i : Fin 4} {v : Int32} (d : decode cc pc = .ok (.istore_n i, 1)) (hp : pc + 1 = pc') (hi : (i : Nat) < nL) (hL : st1 L (i : Nat) (.int v) = L') (k : Ws x n pc' L' S σ) : Ws x n pc L (.int v :: S) σ := by
  obtain ⟨p, l, e, R, s, m, args, below, meth, c, g, QQ, c0, s0, nL'⟩ := x
  obtain ⟨hx, hb, hml, hown, hts, hKE, hlk, htr, rfl⟩ := C
  subst hp
  intro H locs ls hP hS hl
  subst hL
  exact lv_istore_n hx hb d rfl hl hi (mapL_st1 g L _ (.int v)) (fun ls' hl' => k H locs ls' hP hS hl')
theorem r_lstore {x : Ctx} {own : String} {cc : ByteArray} {nL n pc : Nat} {L : List (Nat × Value)} {S : List Value} {σ : Mem} (C : Cx x own cc nL) (pc' : Nat) (L' : List (Nat × Value)) {i : Nat} {v : Int64} (d : decode cc pc = .ok (.lstore i, 2)) (hp : pc + 2 = pc') (hi : i + 1 < nL) (hL : st2 L i (.long v) = L') (k : Ws x n pc' L' S σ) : Ws x n pc L (.long v :: S) σ := by
  obtain ⟨p, l, e, R, s, m, args, below, meth, c, g, QQ, c0, s0, nL'⟩ := x
  obtain ⟨hx, hb, hml, hown, hts, hKE, hlk, htr, rfl⟩ := C
  subst hp
  intro H locs ls hP hS hl
  subst hL
  exact lv_lstore hx hb d hl hi (mapL_st2 g L _ (.long v)) (fun ls' hl' => k H locs ls' hP hS hl')
theorem r_lstore_n {x : Ctx} {own : String} {cc : ByteArray} {nL n pc : Nat} {L : List (Nat × Value)} {S : List Value} {σ : Mem} (C : Cx x own cc nL) (pc' : Nat) (L' : List (Nat × Value)) {i : Fin 4} {v : Int64} (d : decode cc pc = .ok (.lstore_n i, 1)) (hp : pc + 1 = pc') (hi : (i : Nat) + 1 < nL) (hL : st2 L (i : Nat) (.long v) = L') (k : Ws x n pc' L' S σ) : Ws x n pc L (.long v :: S) σ := by
  obtain ⟨p, l, e, R, s, m, args, below, meth, c, g, QQ, c0, s0, nL'⟩ := x
  obtain ⟨hx, hb, hml, hown, hts, hKE, hlk, htr, rfl⟩ := C
  subst hp
  intro H locs ls hP hS hl
  subst hL
  exact lv_lstore_n hx hb d rfl hl hi (mapL_st2 g L _ (.long v)) (fun ls' hl' => k H locs ls' hP hS hl')
theorem r_astore {x : Ctx} {own : String} {cc : ByteArray} {nL n pc : Nat} {L : List (Nat × Value)} {S : List Value} {σ : Mem} (C : Cx x own cc nL) (pc' : Nat) (L' : List (Nat × Value)) {i : Nat} {v : Nat} (d : decode cc pc = .ok (.astore i, 2)) (hp : pc + 2 = pc') (hi : i < nL) (hL : st1 L i (.ref v) = L') (k : Ws x n pc' L' S σ) : Ws x n pc L (.ref v :: S) σ := by
  obtain ⟨p, l, e, R, s, m, args, below, meth, c, g, QQ, c0, s0, nL'⟩ := x
  obtain ⟨hx, hb, hml, hown, hts, hKE, hlk, htr, rfl⟩ := C
  subst hp
  intro H locs ls hP hS hl
  subst hL
  exact lv_astore hx hb d hl hi (mapL_st1 g L _ (.ref v)) (fun ls' hl' => k H locs ls' hP hS hl')
theorem r_astore_n {x : Ctx} {own : String} {cc : ByteArray} {nL n pc : Nat} {L : List (Nat × Value)} {S : List Value} {σ : Mem} (C : Cx x own cc nL) (pc' : Nat) (L' : List (Nat × Value)) {i : Fin 4} {v : Nat} (d : decode cc pc = .ok (.astore_n i, 1)) (hp : pc + 1 = pc') (hi : (i : Nat) < nL) (hL : st1 L (i : Nat) (.ref v) = L') (k : Ws x n pc' L' S σ) : Ws x n pc L (.ref v :: S) σ := by
  obtain ⟨p, l, e, R, s, m, args, below, meth, c, g, QQ, c0, s0, nL'⟩ := x
  obtain ⟨hx, hb, hml, hown, hts, hKE, hlk, htr, rfl⟩ := C
  subst hp
  intro H locs ls hP hS hl
  subst hL
  exact lv_astore_n hx hb d rfl hl hi (mapL_st1 g L _ (.ref v)) (fun ls' hl' => k H locs ls' hP hS hl')
theorem r_dstore {x : Ctx} {own : String} {cc : ByteArray} {nL n pc : Nat} {L : List (Nat × Value)} {S : List Value} {σ : Mem} (C : Cx x own cc nL) (pc' : Nat) (L' : List (Nat × Value)) {i : Nat} {v : UInt64} (d : decode cc pc = .ok (.dstore i, 2)) (hp : pc + 2 = pc') (hi : i + 1 < nL) (hL : st2 L i (.double v) = L') (k : Ws x n pc' L' S σ) : Ws x n pc L (.double v :: S) σ := by
  obtain ⟨p, l, e, R, s, m, args, below, meth, c, g, QQ, c0, s0, nL'⟩ := x
  obtain ⟨hx, hb, hml, hown, hts, hKE, hlk, htr, rfl⟩ := C
  subst hp
  intro H locs ls hP hS hl
  subst hL
  exact lv_dstore hx hb d hl hi (mapL_st2 g L _ (.double v)) (fun ls' hl' => k H locs ls' hP hS hl')
theorem r_iinc {x : Ctx} {own : String} {cc : ByteArray} {nL n pc : Nat} {L : List (Nat × Value)} {S : List Value} {σ : Mem} (C : Cx x own cc nL) (pc' : Nat) (L' : List (Nat × Value)) {i j : Nat} {z : Int} {v w : Int32} (d : decode cc pc = .ok (.iinc i z, 3)) (hp : pc + 3 = pc') (hj : L[j]? = some (i, .int v)) (hw : v + Int32.ofInt z = w) (hi : i < nL) (hL : st1 L i (.int w) = L') (k : Ws x n pc' L' S σ) : Ws x n pc L S σ := by
  obtain ⟨p, l, e, R, s, m, args, below, meth, c, g, QQ, c0, s0, nL'⟩ := x
  obtain ⟨hx, hb, hml, hown, hts, hKE, hlk, htr, rfl⟩ := C
  subst hp
  intro H locs ls hP hS hl
  subst hL
  exact lv_iinc hx hb d hl (k := j) (by simp only [mapL, List.getElem?_map, hj]; rfl) hw hi (mapL_st1 g L i (.int w)) (fun ls' hl' => k H locs ls' hP hS hl')
theorem r_goto {x : Ctx} {own : String} {cc : ByteArray} {nL n pc : Nat} {L : List (Nat × Value)} {S : List Value} {σ : Mem} (C : Cx x own cc nL) (pc' : Nat) {off : Int} (d : decode cc pc = .ok (.goto off, 3)) (ht : (pc : Int) + off = (pc' : Int)) (k : Ws x n pc' L S σ) : Ws x n pc L S σ := by
  obtain ⟨p, l, e, R, s, m, args, below, meth, c, g, QQ, c0, s0, nL'⟩ := x
  obtain ⟨hx, hb, hml, hown, hts, hKE, hlk, htr, rfl⟩ := C
  intro H locs ls hP hS hl
  exact lv_goto hx hb d ht (k H locs ls hP hS hl)
theorem r_if_eq {x : Ctx} {own : String} {cc : ByteArray} {nL n pc : Nat} {L : List (Nat × Value)} {S : List Value} {σ : Mem} (C : Cx x own cc nL) (tgt pc' : Nat) {a : Int32} {off : Int} (d : decode cc pc = .ok (.ifCond .eq off, 3)) (ht : (pc : Int) + off = (tgt : Int)) (hp : pc + 3 = pc') (kt : a = 0 → Ws x n tgt L S σ) (kf : ¬ a = 0 → Ws x n pc' L S σ) : Ws x n pc L (.int a :: S) σ := by
  obtain ⟨p, l, e, R, s, m, args, below, meth, c, g, QQ, c0, s0, nL'⟩ := x
  obtain ⟨hx, hb, hml, hown, hts, hKE, hlk, htr, rfl⟩ := C
  subst hp
  intro H locs ls hP hS hl
  exact lv_if_eq hx hb d ht (fun h => kt h H locs ls hP hS hl) (fun h => kf h H locs ls hP hS hl)
theorem r_if_ne {x : Ctx} {own : String} {cc : ByteArray} {nL n pc : Nat} {L : List (Nat × Value)} {S : List Value} {σ : Mem} (C : Cx x own cc nL) (tgt pc' : Nat) {a : Int32} {off : Int} (d : decode cc pc = .ok (.ifCond .ne off, 3)) (ht : (pc : Int) + off = (tgt : Int)) (hp : pc + 3 = pc') (kt : ¬ a = 0 → Ws x n tgt L S σ) (kf : a = 0 → Ws x n pc' L S σ) : Ws x n pc L (.int a :: S) σ := by
  obtain ⟨p, l, e, R, s, m, args, below, meth, c, g, QQ, c0, s0, nL'⟩ := x
  obtain ⟨hx, hb, hml, hown, hts, hKE, hlk, htr, rfl⟩ := C
  subst hp
  intro H locs ls hP hS hl
  exact lv_if_ne hx hb d ht (fun h => kt h H locs ls hP hS hl) (fun h => kf h H locs ls hP hS hl)
theorem r_if_lt {x : Ctx} {own : String} {cc : ByteArray} {nL n pc : Nat} {L : List (Nat × Value)} {S : List Value} {σ : Mem} (C : Cx x own cc nL) (tgt pc' : Nat) {a : Int32} {off : Int} (d : decode cc pc = .ok (.ifCond .lt off, 3)) (ht : (pc : Int) + off = (tgt : Int)) (hp : pc + 3 = pc') (kt : a < 0 → Ws x n tgt L S σ) (kf : ¬ a < 0 → Ws x n pc' L S σ) : Ws x n pc L (.int a :: S) σ := by
  obtain ⟨p, l, e, R, s, m, args, below, meth, c, g, QQ, c0, s0, nL'⟩ := x
  obtain ⟨hx, hb, hml, hown, hts, hKE, hlk, htr, rfl⟩ := C
  subst hp
  intro H locs ls hP hS hl
  exact lv_if_lt hx hb d ht (fun h => kt h H locs ls hP hS hl) (fun h => kf h H locs ls hP hS hl)
theorem r_if_ge {x : Ctx} {own : String} {cc : ByteArray} {nL n pc : Nat} {L : List (Nat × Value)} {S : List Value} {σ : Mem} (C : Cx x own cc nL) (tgt pc' : Nat) {a : Int32} {off : Int} (d : decode cc pc = .ok (.ifCond .ge off, 3)) (ht : (pc : Int) + off = (tgt : Int)) (hp : pc + 3 = pc') (kt : 0 ≤ a → Ws x n tgt L S σ) (kf : ¬ 0 ≤ a → Ws x n pc' L S σ) : Ws x n pc L (.int a :: S) σ := by
  obtain ⟨p, l, e, R, s, m, args, below, meth, c, g, QQ, c0, s0, nL'⟩ := x
  obtain ⟨hx, hb, hml, hown, hts, hKE, hlk, htr, rfl⟩ := C
  subst hp
  intro H locs ls hP hS hl
  exact lv_if_ge hx hb d ht (fun h => kt h H locs ls hP hS hl) (fun h => kf h H locs ls hP hS hl)
theorem r_if_gt {x : Ctx} {own : String} {cc : ByteArray} {nL n pc : Nat} {L : List (Nat × Value)} {S : List Value} {σ : Mem} (C : Cx x own cc nL) (tgt pc' : Nat) {a : Int32} {off : Int} (d : decode cc pc = .ok (.ifCond .gt off, 3)) (ht : (pc : Int) + off = (tgt : Int)) (hp : pc + 3 = pc') (kt : 0 < a → Ws x n tgt L S σ) (kf : ¬ 0 < a → Ws x n pc' L S σ) : Ws x n pc L (.int a :: S) σ := by
  obtain ⟨p, l, e, R, s, m, args, below, meth, c, g, QQ, c0, s0, nL'⟩ := x
  obtain ⟨hx, hb, hml, hown, hts, hKE, hlk, htr, rfl⟩ := C
  subst hp
  intro H locs ls hP hS hl
  exact lv_if_gt hx hb d ht (fun h => kt h H locs ls hP hS hl) (fun h => kf h H locs ls hP hS hl)
theorem r_if_le {x : Ctx} {own : String} {cc : ByteArray} {nL n pc : Nat} {L : List (Nat × Value)} {S : List Value} {σ : Mem} (C : Cx x own cc nL) (tgt pc' : Nat) {a : Int32} {off : Int} (d : decode cc pc = .ok (.ifCond .le off, 3)) (ht : (pc : Int) + off = (tgt : Int)) (hp : pc + 3 = pc') (kt : a ≤ 0 → Ws x n tgt L S σ) (kf : ¬ a ≤ 0 → Ws x n pc' L S σ) : Ws x n pc L (.int a :: S) σ := by
  obtain ⟨p, l, e, R, s, m, args, below, meth, c, g, QQ, c0, s0, nL'⟩ := x
  obtain ⟨hx, hb, hml, hown, hts, hKE, hlk, htr, rfl⟩ := C
  subst hp
  intro H locs ls hP hS hl
  exact lv_if_le hx hb d ht (fun h => kt h H locs ls hP hS hl) (fun h => kf h H locs ls hP hS hl)
theorem r_icmp_eq {x : Ctx} {own : String} {cc : ByteArray} {nL n pc : Nat} {L : List (Nat × Value)} {S : List Value} {σ : Mem} (C : Cx x own cc nL) (tgt pc' : Nat) {a b : Int32} {off : Int} (d : decode cc pc = .ok (.if_icmp .eq off, 3)) (ht : (pc : Int) + off = (tgt : Int)) (hp : pc + 3 = pc') (kt : a = b → Ws x n tgt L S σ) (kf : ¬ a = b → Ws x n pc' L S σ) : Ws x n pc L (.int b :: .int a :: S) σ := by
  obtain ⟨p, l, e, R, s, m, args, below, meth, c, g, QQ, c0, s0, nL'⟩ := x
  obtain ⟨hx, hb, hml, hown, hts, hKE, hlk, htr, rfl⟩ := C
  subst hp
  intro H locs ls hP hS hl
  exact lv_icmp_eq hx hb d ht (fun h => kt h H locs ls hP hS hl) (fun h => kf h H locs ls hP hS hl)
theorem r_icmp_ne {x : Ctx} {own : String} {cc : ByteArray} {nL n pc : Nat} {L : List (Nat × Value)} {S : List Value} {σ : Mem} (C : Cx x own cc nL) (tgt pc' : Nat) {a b : Int32} {off : Int} (d : decode cc pc = .ok (.if_icmp .ne off, 3)) (ht : (pc : Int) + off = (tgt : Int)) (hp : pc + 3 = pc') (kt : ¬ a = b → Ws x n tgt L S σ) (kf : a = b → Ws x n pc' L S σ) : Ws x n pc L (.int b :: .int a :: S) σ := by
  obtain ⟨p, l, e, R, s, m, args, below, meth, c, g, QQ, c0, s0, nL'⟩ := x
  obtain ⟨hx, hb, hml, hown, hts, hKE, hlk, htr, rfl⟩ := C
  subst hp
  intro H locs ls hP hS hl
  exact lv_icmp_ne hx hb d ht (fun h => kt h H locs ls hP hS hl) (fun h => kf h H locs ls hP hS hl)
theorem r_icmp_lt {x : Ctx} {own : String} {cc : ByteArray} {nL n pc : Nat} {L : List (Nat × Value)} {S : List Value} {σ : Mem} (C : Cx x own cc nL) (tgt pc' : Nat) {a b : Int32} {off : Int} (d : decode cc pc = .ok (.if_icmp .lt off, 3)) (ht : (pc : Int) + off = (tgt : Int)) (hp : pc + 3 = pc') (kt : a < b → Ws x n tgt L S σ) (kf : ¬ a < b → Ws x n pc' L S σ) : Ws x n pc L (.int b :: .int a :: S) σ := by
  obtain ⟨p, l, e, R, s, m, args, below, meth, c, g, QQ, c0, s0, nL'⟩ := x
  obtain ⟨hx, hb, hml, hown, hts, hKE, hlk, htr, rfl⟩ := C
  subst hp
  intro H locs ls hP hS hl
  exact lv_icmp_lt hx hb d ht (fun h => kt h H locs ls hP hS hl) (fun h => kf h H locs ls hP hS hl)
theorem r_icmp_ge {x : Ctx} {own : String} {cc : ByteArray} {nL n pc : Nat} {L : List (Nat × Value)} {S : List Value} {σ : Mem} (C : Cx x own cc nL) (tgt pc' : Nat) {a b : Int32} {off : Int} (d : decode cc pc = .ok (.if_icmp .ge off, 3)) (ht : (pc : Int) + off = (tgt : Int)) (hp : pc + 3 = pc') (kt : b ≤ a → Ws x n tgt L S σ) (kf : ¬ b ≤ a → Ws x n pc' L S σ) : Ws x n pc L (.int b :: .int a :: S) σ := by
  obtain ⟨p, l, e, R, s, m, args, below, meth, c, g, QQ, c0, s0, nL'⟩ := x
  obtain ⟨hx, hb, hml, hown, hts, hKE, hlk, htr, rfl⟩ := C
  subst hp
  intro H locs ls hP hS hl
  exact lv_icmp_ge hx hb d ht (fun h => kt h H locs ls hP hS hl) (fun h => kf h H locs ls hP hS hl)
theorem r_icmp_gt {x : Ctx} {own : String} {cc : ByteArray} {nL n pc : Nat} {L : List (Nat × Value)} {S : List Value} {σ : Mem} (C : Cx x own cc nL) (tgt pc' : Nat) {a b : Int32} {off : Int} (d : decode cc pc = .ok (.if_icmp .gt off, 3)) (ht : (pc : Int) + off = (tgt : Int)) (hp : pc + 3 = pc') (kt : b < a → Ws x n tgt L S σ) (kf : ¬ b < a → Ws x n pc' L S σ) : Ws x n pc L (.int b :: .int a :: S) σ := by
  obtain ⟨p, l, e, R, s, m, args, below, meth, c, g, QQ, c0, s0, nL'⟩ := x
  obtain ⟨hx, hb, hml, hown, hts, hKE, hlk, htr, rfl⟩ := C
  subst hp
  intro H locs ls hP hS hl
  exact lv_icmp_gt hx hb d ht (fun h => kt h H locs ls hP hS hl) (fun h => kf h H locs ls hP hS hl)
theorem r_icmp_le {x : Ctx} {own : String} {cc : ByteArray} {nL n pc : Nat} {L : List (Nat × Value)} {S : List Value} {σ : Mem} (C : Cx x own cc nL) (tgt pc' : Nat) {a b : Int32} {off : Int} (d : decode cc pc = .ok (.if_icmp .le off, 3)) (ht : (pc : Int) + off = (tgt : Int)) (hp : pc + 3 = pc') (kt : a ≤ b → Ws x n tgt L S σ) (kf : ¬ a ≤ b → Ws x n pc' L S σ) : Ws x n pc L (.int b :: .int a :: S) σ := by
  obtain ⟨p, l, e, R, s, m, args, below, meth, c, g, QQ, c0, s0, nL'⟩ := x
  obtain ⟨hx, hb, hml, hown, hts, hKE, hlk, htr, rfl⟩ := C
  subst hp
  intro H locs ls hP hS hl
  exact lv_icmp_le hx hb d ht (fun h => kt h H locs ls hP hS hl) (fun h => kf h H locs ls hP hS hl)
theorem r_lcmp_eq {x : Ctx} {own : String} {cc : ByteArray} {nL n pc : Nat} {L : List (Nat × Value)} {S : List Value} {σ : Mem} (C : Cx x own cc nL) (pc1 tgt pc' : Nat) {a b : Int64} {off : Int} (d : decode cc pc = .ok (.lcmp, 1)) (hp1 : pc + 1 = pc1) (d1 : decode cc pc1 = .ok (.ifCond .eq off, 3)) (ht : (pc1 : Int) + off = (tgt : Int)) (hp : pc1 + 3 = pc') (kt : a = b → Ws x n tgt L S σ) (kf : ¬ a = b → Ws x n pc' L S σ) : Ws x n pc L (.long b :: .long a :: S) σ :=
  r_lcmp C pc1 d hp1 (r_if_eq C tgt pc' d1 ht hp (fun h => kt ((lg_cmp_eq a b).mp h)) (fun h => kf (fun q => h ((lg_cmp_eq a b).mpr q))))
theorem r_lcmp_ne {x : Ctx} {own : String} {cc : ByteArray} {nL n pc : Nat} {L : List (Nat × Value)} {S : List Value} {σ : Mem} (C : Cx x own cc nL) (pc1 tgt pc' : Nat) {a b : Int64} {off : Int} (d : decode cc pc = .ok (.lcmp, 1)) (hp1 : pc + 1 = pc1) (d1 : decode cc pc1 = .ok (.ifCond .ne off, 3)) (ht : (pc1 : Int) + off = (tgt : Int)) (hp : pc1 + 3 = pc') (kt : ¬ a = b → Ws x n tgt L S σ) (kf : a = b → Ws x n pc' L S σ) : Ws x n pc L (.long b :: .long a :: S) σ :=
  r_lcmp C pc1 d hp1 (r_if_ne C tgt pc' d1 ht hp (fun h => kt (fun q => h ((lg_cmp_eq a b).mpr q))) (fun h => kf ((lg_cmp_eq a b).mp h)))
theorem r_lcmp_lt {x : Ctx} {own : String} {cc : ByteArray} {nL n pc : Nat} {L : List (Nat × Value)} {S : List Value} {σ : Mem} (C : Cx x own cc nL) (pc1 tgt pc' : Nat) {a b : Int64} {off : Int} (d : decode cc pc = .ok (.lcmp, 1)) (hp1 : pc + 1 = pc1) (d1 : decode cc pc1 = .ok (.ifCond .lt off, 3)) (ht : (pc1 : Int) + off = (tgt : Int)) (hp : pc1 + 3 = pc') (kt : a < b → Ws x n tgt L S σ) (kf : ¬ a < b → Ws x n pc' L S σ) : Ws x n pc L (.long b :: .long a :: S) σ :=
  r_lcmp C pc1 d hp1 (r_if_lt C tgt pc' d1 ht hp (fun h => kt ((lg_cmp_lt a b).mp h)) (fun h => kf (fun q => h ((lg_cmp_lt a b).mpr q))))
theorem r_lcmp_ge {x : Ctx} {own : String} {cc : ByteArray} {nL n pc : Nat} {L : List (Nat × Value)} {S : List Value} {σ : Mem} (C : Cx x own cc nL) (pc1 tgt pc' : Nat) {a b : Int64} {off : Int} (d : decode cc pc = .ok (.lcmp, 1)) (hp1 : pc + 1 = pc1) (d1 : decode cc pc1 = .ok (.ifCond .ge off, 3)) (ht : (pc1 : Int) + off = (tgt : Int)) (hp : pc1 + 3 = pc') (kt : b ≤ a → Ws x n tgt L S σ) (kf : ¬ b ≤ a → Ws x n pc' L S σ) : Ws x n pc L (.long b :: .long a :: S) σ :=
  r_lcmp C pc1 d hp1 (r_if_ge C tgt pc' d1 ht hp (fun h => kt ((lg_cmp_ge a b).mp h)) (fun h => kf (fun q => h ((lg_cmp_ge a b).mpr q))))
theorem r_lcmp_gt {x : Ctx} {own : String} {cc : ByteArray} {nL n pc : Nat} {L : List (Nat × Value)} {S : List Value} {σ : Mem} (C : Cx x own cc nL) (pc1 tgt pc' : Nat) {a b : Int64} {off : Int} (d : decode cc pc = .ok (.lcmp, 1)) (hp1 : pc + 1 = pc1) (d1 : decode cc pc1 = .ok (.ifCond .gt off, 3)) (ht : (pc1 : Int) + off = (tgt : Int)) (hp : pc1 + 3 = pc') (kt : b < a → Ws x n tgt L S σ) (kf : ¬ b < a → Ws x n pc' L S σ) : Ws x n pc L (.long b :: .long a :: S) σ :=
  r_lcmp C pc1 d hp1 (r_if_gt C tgt pc' d1 ht hp (fun h => kt ((lg_cmp_gt a b).mp h)) (fun h => kf (fun q => h ((lg_cmp_gt a b).mpr q))))
theorem r_lcmp_le {x : Ctx} {own : String} {cc : ByteArray} {nL n pc : Nat} {L : List (Nat × Value)} {S : List Value} {σ : Mem} (C : Cx x own cc nL) (pc1 tgt pc' : Nat) {a b : Int64} {off : Int} (d : decode cc pc = .ok (.lcmp, 1)) (hp1 : pc + 1 = pc1) (d1 : decode cc pc1 = .ok (.ifCond .le off, 3)) (ht : (pc1 : Int) + off = (tgt : Int)) (hp : pc1 + 3 = pc') (kt : a ≤ b → Ws x n tgt L S σ) (kf : ¬ a ≤ b → Ws x n pc' L S σ) : Ws x n pc L (.long b :: .long a :: S) σ :=
  r_lcmp C pc1 d hp1 (r_if_le C tgt pc' d1 ht hp (fun h => kt ((lg_cmp_le a b).mp h)) (fun h => kf (fun q => h ((lg_cmp_le a b).mpr q))))
theorem r_tblIn {x : Ctx} {own : String} {cc : ByteArray} {nL n pc : Nat} {L : List (Nat × Value)} {S : List Value} {σ : Mem} (C : Cx x own cc nL) (tgt : Nat) {a : Int32} {dflt lo hi : Int} {offs : Array Int} {len : Nat} {off : Int} (d : decode cc pc = .ok (.tableswitch dflt lo hi offs, len)) (h1 : ¬ a.toInt < lo) (h2 : ¬ hi < a.toInt) (ho : offs[(a.toInt - lo).toNat]? = some off) (ht : (pc : Int) + off = (tgt : Int)) (k : Ws x n tgt L S σ) : Ws x n pc L (.int a :: S) σ := by
  obtain ⟨p, l, e, R, s, m, args, below, meth, c, g, QQ, c0, s0, nL'⟩ := x
  obtain ⟨hx, hb, hml, hown, hts, hKE, hlk, htr, rfl⟩ := C
  intro H locs ls hP hS hl
  exact lv_tableIn hx hb d h1 h2 ho ht (k H locs ls hP hS hl)
theorem r_tblOut {x : Ctx} {own : String} {cc : ByteArray} {nL n pc : Nat} {L : List (Nat × Value)} {S : List Value} {σ : Mem} (C : Cx x own cc nL) (tgt : Nat) {a : Int32} {dflt lo hi : Int} {offs : Array Int} {len : Nat} (d : decode cc pc = .ok (.tableswitch dflt lo hi offs, len)) (h : a.toInt < lo ∨ hi < a.toInt) (ht : (pc : Int) + dflt = (tgt : Int)) (k : Ws x n tgt L S σ) : Ws x n pc L (.int a :: S) σ := by
  obtain ⟨p, l, e, R, s, m, args, below, meth, c, g, QQ, c0, s0, nL'⟩ := x
  obtain ⟨hx, hb, hml, hown, hts, hKE, hlk, htr, rfl⟩ := C
  intro H locs ls hP hS hl
  exact lv_tableOut hx hb d h ht (k H locs ls hP hS hl)
theorem r_lksw {x : Ctx} {own : String} {cc : ByteArray} {nL n pc : Nat} {L : List (Nat × Value)} {S : List Value} {σ : Mem} (C : Cx x own cc nL) (tgt : Nat) {a : Int32} {dflt : Int} {ps : Array (Int × Int)} {len : Nat} {off : Int} (d : decode cc pc = .ok (.lookupswitch dflt ps, len)) (hq : (ps.toList.zip (ps.toList.drop 1)).all (fun (a, next) => a.1 < next.1) = true) (ho : Op.lookupswitch.offset ps.toList dflt a.toInt = off) (ht : (pc : Int) + off = (tgt : Int)) (k : Ws x n tgt L S σ) : Ws x n pc L (.int a :: S) σ := by
  obtain ⟨p, l, e, R, s, m, args, below, meth, c, g, QQ, c0, s0, nL'⟩ := x
  obtain ⟨hx, hb, hml, hown, hts, hKE, hlk, htr, rfl⟩ := C
  intro H locs ls hP hS hl
  exact lv_lookup hx hb d hq ho ht (k H locs ls hP hS hl)
theorem r_nmI {x : Ctx} {n pc : Nat} {L : List (Nat × Value)} {S : List Value} {σ : Mem} {v : Int32} (k : ∀ w : Int32, w = v → Ws x n pc L (.int w :: S) σ) : Ws x n pc L (.int v :: S) σ := k v rfl
theorem r_nmL {x : Ctx} {n pc : Nat} {L : List (Nat × Value)} {S : List Value} {σ : Mem} {v : Int64} (k : ∀ w : Int64, w = v → Ws x n pc L (.long w :: S) σ) : Ws x n pc L (.long v :: S) σ := k v rfl
theorem r_nmD {x : Ctx} {n pc : Nat} {L : List (Nat × Value)} {S : List Value} {σ : Mem} {v : UInt64} (k : ∀ w : UInt64, w = v → Ws x n pc L (.double w :: S) σ) : Ws x n pc L (.double v :: S) σ := k v rfl
theorem r_nmS {x : Ctx} {n pc : Nat} {L : List (Nat × Value)} {S : List Value} {σ : Mem} (k : ∀ τ : Mem, τ = σ → Ws x n pc L S τ) : Ws x n pc L S σ := k σ rfl
/-- a class of the pool: its name, fields, how many -/
def Cl (c : Nat) (Cn : String) (T : u_T) (N : Nat) : Prop := vwCl[c]? = some (Cn, T, N) ∧ (∀ w ∈ u_ws Cn T N, w ∈ TB) ∧ N = nfC c ∧ c < 99 ∧ (∀ k, k < N → parseFieldDescriptor (T k).2.2.1 = some (tyC c k)) ∧ (∀ a, a < N → ∀ b, b < N → a ≠ b → (T a).2.1 ≠ (T b).2.1)
theorem tb_sub {ws : List Cond} (h : ∀ w ∈ ws, w ∈ lw_tbl) (hg : ws.all goodWord = true) : ∀ w ∈ ws, w ∈ TB := fun w hw => List.mem_filter.mpr ⟨h w hw, List.all_eq_true.mp hg w hw⟩
theorem cl2 : Cl 2 RX0 TX0 18 := ⟨rfl, tb_sub (by decide +kernel) (by decide +kernel), rfl, by decide, tyX0_ok, nmX0⟩
theorem cl3 : Cl 3 RX1 TX1 10 := ⟨rfl, tb_sub (by decide +kernel) (by decide +kernel), rfl, by decide, tyX1_ok, nmX1⟩
theorem cl4 : Cl 4 RX2 TX2 14 := ⟨rfl, tb_sub (by decide +kernel) (by decide +kernel), rfl, by decide, tyX2_ok, nmX2⟩
theorem cl5 : Cl 5 RX3 TX3 6 := ⟨rfl, tb_sub (by decide +kernel) (by decide +kernel), rfl, by decide, tyX3_ok, nmX3⟩
theorem cl6 : Cl 6 RX4 TX4 14 := ⟨rfl, tb_sub (by decide +kernel) (by decide +kernel), rfl, by decide, tyX4_ok, nmX4⟩
theorem cl7 : Cl 7 RX5 TX5 33 := ⟨rfl, tb_sub (by decide +kernel) (by decide +kernel), rfl, by decide, tyX5_ok, nmX5⟩
theorem r_get {x : Ctx} {own : String} {cc : ByteArray} {nL n pc : Nat} {L : List (Nat × Value)} {S : List Value} {σ : Mem} {ck k N ix a : Nat} {Cn : String} {T : u_T} (C : Cx x own cc nL) (K : Cl ck Cn T N) (pc' : Nat) (d : decode cc pc = .ok (.getfield ix, 3)) (hp : pc + 3 = pc') (hk : kd a = .inr ck) (hkN : k < N) (hw : Cond.fieldLink own ix (T k).1 (T k).2.1 (T k).2.2.1 ∈ TB) (v : Value) (hv : ∀ g, fvl g σ a ck k = rv g v) (kk : Ws x n pc' L (v :: S) σ) : Ws x n pc L (.ref a :: S) σ := by
  obtain ⟨p, l, e, R, s, m, args, below, meth, c, g, QQ, c0, s0, nL'⟩ := x
  obtain ⟨hx, hb, hml, hown, hts, hKE, hlk, htr, rfl⟩ := C
  subst hp
  intro H locs ls hP hS hl
  obtain ⟨K1, K2, rfl, K4, K5, K6⟩ := K
  refine va_get hx hb hts K2 hown hKE.1 hP a (world_obj g σ hk K4) K1 k hkN (hts _ hw) (fun _ h => h) (v := rv g v) ?_ d (kk H locs ls hP hS hl)
  rw [List.getElem?_map, List.getElem?_range hkN, ← hv g]; rfl
theorem r_putI {x : Ctx} {own : String} {cc : ByteArray} {nL n pc : Nat} {L : List (Nat × Value)} {S : List Value} {σ : Mem} {ck k N ix a : Nat} {Cn : String} {T : u_T} {v : Int32} (C : Cx x own cc nL) (K : Cl ck Cn T N) (pc' : Nat) (d : decode cc pc = .ok (.putfield ix, 3)) (hp : pc + 3 = pc') (hk : kd a = .inr ck) (hkN : k < N) (hw : Cond.fieldLink own ix (T k).1 (T k).2.1 (T k).2.2.1 ∈ TB) (hfin : (T k).2.2.2 = false) (ht : tyI (tyC ck k) = true) (hn : narrow (tyC ck k) (.int v) = .int v) (hf : fits (tyC ck k) (.int v) = true) (kk : Ws x n pc' L S (wi σ a k v)) : Ws x n pc L (.int v :: .ref a :: S) σ := by
  obtain ⟨p, l, e, R, s, m, args, below, meth, c, g, QQ, c0, s0, nL'⟩ := x
  obtain ⟨hx, hb, hml, hown, hts, hKE, hlk, htr, rfl⟩ := C
  subst hp
  intro H locs ls hP hS hl
  obtain ⟨K1, K2, rfl, K4, K5, K6⟩ := K
  refine va_put (v := .int v) hx hb hts K2 (tyC ck) K5 K6 hown hKE.1 hP (world_D hKE σ) hS a (world_obj g σ hk K4) K1 k hkN (hts _ hw) (fun _ h => h) hfin (K5 k hkN) hn hf (by simpa using hkN) d (fun H1 locs1 hP1 _ hS1 => ?_)
  rw [world_fi g σ hk K4 hkN ht] at hP1
  exact kk H1 locs1 ls hP1 hS1 hl
theorem r_putL {x : Ctx} {own : String} {cc : ByteArray} {nL n pc : Nat} {L : List (Nat × Value)} {S : List Value} {σ : Mem} {ck k N ix a : Nat} {Cn : String} {T : u_T} {v : Int64} (C : Cx x own cc nL) (K : Cl ck Cn T N) (pc' : Nat) (d : decode cc pc = .ok (.putfield ix, 3)) (hp : pc + 3 = pc') (hk : kd a = .inr ck) (hkN : k < N) (hw : Cond.fieldLink own ix (T k).1 (T k).2.1 (T k).2.2.1 ∈ TB) (hfin : (T k).2.2.2 = false) (ht : tyC ck k = .long) (kk : Ws x n pc' L S (wl σ a k v)) : Ws x n pc L (.long v :: .ref a :: S) σ := by
  obtain ⟨p, l, e, R, s, m, args, below, meth, c, g, QQ, c0, s0, nL'⟩ := x
  obtain ⟨hx, hb, hml, hown, hts, hKE, hlk, htr, rfl⟩ := C
  subst hp
  intro H locs ls hP hS hl
  obtain ⟨K1, K2, rfl, K4, K5, K6⟩ := K
  refine va_put (v := .long v) hx hb hts K2 (tyC ck) K5 K6 hown hKE.1 hP (world_D hKE σ) hS a (world_obj g σ hk K4) K1 k hkN (hts _ hw) (fun _ h => h) hfin (K5 k hkN) (by rw [ht]; rfl) (by rw [ht]; rfl) (by simpa using hkN) d (fun H1 locs1 hP1 _ hS1 => ?_)
  rw [world_fl g σ hk K4 hkN ht] at hP1
  exact kk H1 locs1 ls hP1 hS1 hl
theorem r_iald {x : Ctx} {own : String} {cc : ByteArray} {nL n pc : Nat} {L : List (Nat × Value)} {S : List Value} {σ : Mem} {a N : Nat} {i : Int32} (C : Cx x own cc nL) (pc' : Nat) (d : decode cc pc = .ok (.iaload, 1)) (hp : pc + 1 = pc') (hk : kd a = .inl (.int, N)) (hin : vp_in i N) (kk : Ws x n pc' L (.int (σ.1 a i.toNatClampNeg) :: S) σ) : Ws x n pc L (.int i :: .ref a :: S) σ := by
  obtain ⟨p, l, e, R, s, m, args, below, meth, c, g, QQ, c0, s0, nL'⟩ := x
  obtain ⟨hx, hb, hml, hown, hts, hKE, hlk, htr, rfl⟩ := C
  subst hp
  intro H locs ls hP hS hl
  exact va_iald hx hb hKE.1 hP a 0 (world_arr g σ hk) rfl hin d (kk H locs ls hP hS hl)
theorem r_zald {x : Ctx} {own : String} {cc : ByteArray} {nL n pc : Nat} {L : List (Nat × Value)} {S : List Value} {σ : Mem} {a N : Nat} {i : Int32} (C : Cx x own cc nL) (pc' : Nat) (d : decode cc pc = .ok (.baload, 1)) (hp : pc + 1 = pc') (hk : kd a = .inl (.boolean, N)) (hin : vp_in i N) (kk : Ws x n pc' L (.int (σ.1 a i.toNatClampNeg) :: S) σ) : Ws x n pc L (.int i :: .ref a :: S) σ := by
  obtain ⟨p, l, e, R, s, m, args, below, meth, c, g, QQ, c0, s0, nL'⟩ := x
  obtain ⟨hx, hb, hml, hown, hts, hKE, hlk, htr, rfl⟩ := C
  subst hp
  intro H locs ls hP hS hl
  exact va_zald hx hb hKE.1 hP a 2 (world_arr g σ hk) rfl hin d (kk H locs ls hP hS hl)
theorem r_cald {x : Ctx} {own : String} {cc : ByteArray} {nL n pc : Nat} {L : List (Nat × Value)} {S : List Value} {σ : Mem} {a N : Nat} {i : Int32} (C : Cx x own cc nL) (pc' : Nat) (d : decode cc pc = .ok (.caload, 1)) (hp : pc + 1 = pc') (hk : kd a = .inl (.char, N)) (hin : vp_in i N) (kk : Ws x n pc' L (.int (σ.1 a i.toNatClampNeg) :: S) σ) : Ws x n pc L (.int i :: .ref a :: S) σ := by
  obtain ⟨p, l, e, R, s, m, args, below, meth, c, g, QQ, c0, s0, nL'⟩ := x
  obtain ⟨hx, hb, hml, hown, hts, hKE, hlk, htr, rfl⟩ := C
  subst hp
  intro H locs ls hP hS hl
  exact va_cald hx hb hKE.1 hP a 3 (world_arr g σ hk) rfl hin d (kk H locs ls hP hS hl)
theorem r_lald {x : Ctx} {own : String} {cc : ByteArray} {nL n pc : Nat} {L : List (Nat × Value)} {S : List Value} {σ : Mem} {a N : Nat} {i : Int32} (C : Cx x own cc nL) (pc' : Nat) (d : decode cc pc = .ok (.laload, 1)) (hp : pc + 1 = pc') (hk : kd a = .inl (.long, N)) (hin : vp_in i N) (kk : Ws x n pc' L (.long (σ.2.1 a i.toNatClampNeg) :: S) σ) : Ws x n pc L (.int i :: .ref a :: S) σ := by
  obtain ⟨p, l, e, R, s, m, args, below, meth, c, g, QQ, c0, s0, nL'⟩ := x
  obtain ⟨hx, hb, hml, hown, hts, hKE, hlk, htr, rfl⟩ := C
  subst hp
  intro H locs ls hP hS hl
  exact va_lald hx hb hKE.1 hP a 1 (world_arr g σ hk) rfl hin d (kk H locs ls hP hS hl)
theorem r_dald {x : Ctx} {own : String} {cc : ByteArray} {nL n pc : Nat} {L : List (Nat × Value)} {S : List Value} {σ : Mem} {a N : Nat} {i : Int32} (C : Cx x own cc nL) (pc' : Nat) (d : decode cc pc = .ok (.daload, 1)) (hp : pc + 1 = pc') (hk : kd a = .inl (.double, N)) (hin : vp_in i N) (kk : Ws x n pc' L (.double (σ.2.2 a i.toNatClampNeg) :: S) σ) : Ws x n pc L (.int i :: .ref a :: S) σ := by
  obtain ⟨p, l, e, R, s, m, args, below, meth, c, g, QQ, c0, s0, nL'⟩ := x
  obtain ⟨hx, hb, hml, hown, hts, hKE, hlk, htr, rfl⟩ := C
  subst hp
  intro H locs ls hP hS hl
  exact va_dald hx hb hKE.1 hP a 4 (world_arr g σ hk) rfl hin d (kk H locs ls hP hS hl)
theorem r_iast {x : Ctx} {own : String} {cc : ByteArray} {nL n pc : Nat} {L : List (Nat × Value)} {S : List Value} {σ : Mem} {a N : Nat} {i : Int32} {v : Int32} (C : Cx x own cc nL) (pc' : Nat) (d : decode cc pc = .ok (.iastore, 1)) (hp : pc + 1 = pc') (hk : kd a = .inl (.int, N)) (hin : vp_in i N) (kk : Ws x n pc' L S (wi σ a i.toNatClampNeg v)) : Ws x n pc L (.int v :: .int i :: .ref a :: S) σ := by
  obtain ⟨p, l, e, R, s, m, args, below, meth, c, g, QQ, c0, s0, nL'⟩ := x
  obtain ⟨hx, hb, hml, hown, hts, hKE, hlk, htr, rfl⟩ := C
  subst hp
  intro H locs ls hP hS hl
  refine va_iast hx hb hKE.1 hP (world_D hKE σ) hS a 0 (world_arr g σ hk) rfl hin d (fun H1 locs1 hP1 _ hS1 => ?_)
  rw [world_wi g σ hk rfl] at hP1
  exact kk H1 locs1 ls hP1 hS1 hl
theorem r_zast {x : Ctx} {own : String} {cc : ByteArray} {nL n pc : Nat} {L : List (Nat × Value)} {S : List Value} {σ : Mem} {a N : Nat} {i : Int32} {v : Int32} (C : Cx x own cc nL) (pc' : Nat) (d : decode cc pc = .ok (.bastore, 1)) (hp : pc + 1 = pc') (hk : kd a = .inl (.boolean, N)) (hin : vp_in i N) (hv : vp_nar .boolean v = v) (kk : Ws x n pc' L S (wi σ a i.toNatClampNeg v)) : Ws x n pc L (.int v :: .int i :: .ref a :: S) σ := by
  obtain ⟨p, l, e, R, s, m, args, below, meth, c, g, QQ, c0, s0, nL'⟩ := x
  obtain ⟨hx, hb, hml, hown, hts, hKE, hlk, htr, rfl⟩ := C
  subst hp
  intro H locs ls hP hS hl
  refine va_zast hx hb hKE.1 hP (world_D hKE σ) hS a 2 (world_arr g σ hk) rfl hin d (fun H1 locs1 hP1 _ hS1 => ?_)
  rw [hv, world_wi g σ hk rfl] at hP1
  exact kk H1 locs1 ls hP1 hS1 hl
theorem r_cast {x : Ctx} {own : String} {cc : ByteArray} {nL n pc : Nat} {L : List (Nat × Value)} {S : List Value} {σ : Mem} {a N : Nat} {i : Int32} {v : Int32} (C : Cx x own cc nL) (pc' : Nat) (d : decode cc pc = .ok (.castore, 1)) (hp : pc + 1 = pc') (hk : kd a = .inl (.char, N)) (hin : vp_in i N) (hv : vp_nar .char v = v) (kk : Ws x n pc' L S (wi σ a i.toNatClampNeg v)) : Ws x n pc L (.int v :: .int i :: .ref a :: S) σ := by
  obtain ⟨p, l, e, R, s, m, args, below, meth, c, g, QQ, c0, s0, nL'⟩ := x
  obtain ⟨hx, hb, hml, hown, hts, hKE, hlk, htr, rfl⟩ := C
  subst hp
  intro H locs ls hP hS hl
  refine va_cast hx hb hKE.1 hP (world_D hKE σ) hS a 3 (world_arr g σ hk) rfl hin d (fun H1 locs1 hP1 _ hS1 => ?_)
  rw [hv, world_wi g σ hk rfl] at hP1
  exact kk H1 locs1 ls hP1 hS1 hl
theorem r_last {x : Ctx} {own : String} {cc : ByteArray} {nL n pc : Nat} {L : List (Nat × Value)} {S : List Value} {σ : Mem} {a N : Nat} {i : Int32} {v : Int64} (C : Cx x own cc nL) (pc' : Nat) (d : decode cc pc = .ok (.lastore, 1)) (hp : pc + 1 = pc') (hk : kd a = .inl (.long, N)) (hin : vp_in i N) (kk : Ws x n pc' L S (wl σ a i.toNatClampNeg v)) : Ws x n pc L (.long v :: .int i :: .ref a :: S) σ := by
  obtain ⟨p, l, e, R, s, m, args, below, meth, c, g, QQ, c0, s0, nL'⟩ := x
  obtain ⟨hx, hb, hml, hown, hts, hKE, hlk, htr, rfl⟩ := C
  subst hp
  intro H locs ls hP hS hl
  refine va_last hx hb hKE.1 hP (world_D hKE σ) hS a 1 (world_arr g σ hk) rfl hin d (fun H1 locs1 hP1 _ hS1 => ?_)
  rw [world_wl g σ hk] at hP1
  exact kk H1 locs1 ls hP1 hS1 hl
theorem r_dast {x : Ctx} {own : String} {cc : ByteArray} {nL n pc : Nat} {L : List (Nat × Value)} {S : List Value} {σ : Mem} {a N : Nat} {i : Int32} {v : UInt64} (C : Cx x own cc nL) (pc' : Nat) (d : decode cc pc = .ok (.dastore, 1)) (hp : pc + 1 = pc') (hk : kd a = .inl (.double, N)) (hin : vp_in i N) (kk : Ws x n pc' L S (wd σ a i.toNatClampNeg v)) : Ws x n pc L (.double v :: .int i :: .ref a :: S) σ := by
  obtain ⟨p, l, e, R, s, m, args, below, meth, c, g, QQ, c0, s0, nL'⟩ := x
  obtain ⟨hx, hb, hml, hown, hts, hKE, hlk, htr, rfl⟩ := C
  subst hp
  intro H locs ls hP hS hl
  refine va_dast hx hb hKE.1 hP (world_D hKE σ) hS a 4 (world_arr g σ hk) rfl hin d (fun H1 locs1 hP1 _ hS1 => ?_)
  rw [world_wd g σ hk] at hP1
  exact kk H1 locs1 ls hP1 hS1 hl
theorem r_aald {x : Ctx} {own : String} {cc : ByteArray} {nL n pc : Nat} {L : List (Nat × Value)} {S : List Value} {σ : Mem} {a N : Nat} {i : Int32} (C : Cx x own cc nL) (pc' : Nat) (d : decode cc pc = .ok (.aaload, 1)) (hp : pc + 1 = pc') (hk : kd a = .inl (tNet, N)) (hin : vp_in i N) (kk : Ws x n pc' L (.ref (83 + 14 * i.toNatClampNeg) :: S) σ) : Ws x n pc L (.int i :: .ref a :: S) σ := by
  obtain ⟨p, l, e, R, s, m, args, below, meth, c, g, QQ, c0, s0, nL'⟩ := x
  obtain ⟨hx, hb, hml, hown, hts, hKE, hlk, htr, rfl⟩ := C
  subst hp
  intro H locs ls hP hS hl
  exact va_aldq hx hb hKE.1 hP a 5 (world_arr g σ hk) rfl hin d (kk H locs ls hP hS hl)
theorem r_alen {x : Ctx} {own : String} {cc : ByteArray} {nL n pc : Nat} {L : List (Nat × Value)} {S : List Value} {σ : Mem} {a N t0 : Nat} {ty : FieldType} {v : Int32} (C : Cx x own cc nL) (pc' : Nat) (d : decode cc pc = .ok (.arraylength, 1)) (hp : pc + 1 = pc') (hk : kd a = .inl (ty, N)) (ht : ∀ g, (tysG g)[t0]? = some (gC g ty, ty)) (hv : Int32.ofNat N = v) (kk : Ws x n pc' L (.int v :: S) σ) : Ws x n pc L (.ref a :: S) σ := by
  obtain ⟨p, l, e, R, s, m, args, below, meth, c, g, QQ, c0, s0, nL'⟩ := x
  obtain ⟨hx, hb, hml, hown, hts, hKE, hlk, htr, rfl⟩ := C
  subst hp
  intro H locs ls hP hS hl
  exact va_alen hx hb hKE.1 hP a t0 (world_arr g σ hk) (ht g) hv d (kk H locs ls hP hS hl)
theorem r_stLV {x : Ctx} {own : String} {cc : ByteArray} {nL n pc : Nat} {L : List (Nat × Value)} {S : List Value} {σ : Mem} {ix : Nat} (C : Cx x own cc nL) (pc' : Nat) (d : decode cc pc = .ok (.getstatic ix, 3)) (hp : pc + 3 = pc') (hw : Cond.fieldLink own ix "HeatNetwork" "LEAST_VALUES" "[I" ∈ TB) (kk : Ws x n pc' L (.ref 1001 :: S) σ) : Ws x n pc L S σ := by
  obtain ⟨p, l, e, R, s, m, args, below, meth, c, g, QQ, c0, s0, nL'⟩ := x
  obtain ⟨hx, hb, hml, hown, hts, hKE, hlk, htr, rfl⟩ := C
  subst hp
  intro H locs ls hP hS hl
  exact va_gets hx hb hKE.2.2.2.2.1.1 hS hown (hts _ hw) (fun _ h => h) d (kk H locs ls hP hS hl)
theorem r_stGV {x : Ctx} {own : String} {cc : ByteArray} {nL n pc : Nat} {L : List (Nat × Value)} {S : List Value} {σ : Mem} {ix : Nat} (C : Cx x own cc nL) (pc' : Nat) (d : decode cc pc = .ok (.getstatic ix, 3)) (hp : pc + 3 = pc') (hw : Cond.fieldLink own ix "HeatNetwork" "GREATEST_VALUES" "[I" ∈ TB) (kk : Ws x n pc' L (.ref 1002 :: S) σ) : Ws x n pc L S σ := by
  obtain ⟨p, l, e, R, s, m, args, below, meth, c, g, QQ, c0, s0, nL'⟩ := x
  obtain ⟨hx, hb, hml, hown, hts, hKE, hlk, htr, rfl⟩ := C
  subst hp
  intro H locs ls hP hS hl
  exact va_gets hx hb hKE.2.2.2.2.2.1.1 hS hown (hts _ hw) (fun _ h => h) d (kk H locs ls hP hS hl)
theorem r_aldLV {x : Ctx} {own : String} {cc : ByteArray} {nL n pc : Nat} {L : List (Nat × Value)} {S : List Value} {σ : Mem} {i : Int32} (C : Cx x own cc nL) (pc' : Nat) (d : decode cc pc = .ok (.iaload, 1)) (hp : pc + 1 = pc') (hin : vp_in i 7) (kk : Ws x n pc' L (.int (LV.getD i.toNatClampNeg 0) :: S) σ) : Ws x n pc L (.int i :: .ref 1001 :: S) σ := by
  obtain ⟨p, l, e, R, s, m, args, below, meth, c, g, QQ, c0, s0, nL'⟩ := x
  obtain ⟨hx, hb, hml, hown, hts, hKE, hlk, htr, rfl⟩ := C
  subst hp
  intro H locs ls hP hS hl
  exact va_ti hx hb hKE.2.2.2.2.1.2 hS hin rfl d (kk H locs ls hP hS hl)
theorem r_aldGV {x : Ctx} {own : String} {cc : ByteArray} {nL n pc : Nat} {L : List (Nat × Value)} {S : List Value} {σ : Mem} {i : Int32} (C : Cx x own cc nL) (pc' : Nat) (d : decode cc pc = .ok (.iaload, 1)) (hp : pc + 1 = pc') (hin : vp_in i 7) (kk : Ws x n pc' L (.int (GV.getD i.toNatClampNeg 0) :: S) σ) : Ws x n pc L (.int i :: .ref 1002 :: S) σ := by
  obtain ⟨p, l, e, R, s, m, args, below, meth, c, g, QQ, c0, s0, nL'⟩ := x
  obtain ⟨hx, hb, hml, hown, hts, hKE, hlk, htr, rfl⟩ := C
  subst hp
  intro H locs ls hP hS hl
  exact va_ti hx hb hKE.2.2.2.2.2.1.2 hS hin rfl d (kk H locs ls hP hS hl)
