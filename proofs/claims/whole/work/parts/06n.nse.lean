/-! ===== NoSuchElementException: thrown by a written text; its first link has another number than the kit's chain asks for ===== -/
def nsN : String := "java/util/NoSuchElementException"
def nsR : String := "java/lang/RuntimeException"
abbrev nsC : ByteArray := prog_24_method_4_code
theorem ns_d0 : decode nsC 0 = .ok (.aload_n 0, 1) := by decide +kernel
theorem ns_d1 : decode nsC 1 = .ok (.aload_n 1, 1) := by decide +kernel
theorem ns_d2 : decode nsC 2 = .ok (.invokespecial 13, 3) := by decide +kernel
theorem ns_d5 : decode nsC 5 = .ok (.return_, 1) := by decide +kernel
/-- the words of such a throw -/
def nsW : List Cond := Bundle.throwableAtoms ++ Bundle.throwableSAtoms ++ (Bundle.passSAtoms nsN nsR 13 nsC ++ Bundle.chainSAtoms nsR ["java/lang/Exception"]) ++
  [.methodLink "HeatNetwork" 201 (Bundle.initS nsN), .instantiable nsN 6, .castable nsN nsN, .selects nsN Bundle.tFill0 Bundle.tFill0, .selects nsN Bundle.tFill Bundle.tFill,
   .lays nsN Bundle.tN "cause" "Ljava/lang/Throwable;", .lays nsN Bundle.tN "stackTrace" Bundle.steD, .lays nsN Bundle.tN "suppressedExceptions" Bundle.listD, .lays nsN Bundle.tN "detailMessage" "Ljava/lang/String;",
   .isRef (.static Bundle.tN "UNASSIGNED_STACK" Bundle.steD), .isRef (.static Bundle.tN "SUPPRESSED_SENTINEL" Bundle.listD),
   .fieldLink Bundle.tN 198 Bundle.tN "backtrace" "Ljava/lang/Object;", .lays Bundle.tN Bundle.tN "backtrace" "Ljava/lang/Object;", .lays nsN Bundle.tN "backtrace" "Ljava/lang/Object;"]
section NSE
variable {p : Program} {l : Launch} {e : Env} {R : Room} {s : State} {m₀ : MethodId} {args : Array Value} {below : List Frame} {meth : Method} {c : Code} {W : State} {locs : List Loc} {cells slots : Nat}
set_option maxHeartbeats 2000000 in
/-- follows the library's ctorThrowS, the first link apart -/
theorem ns_ctorThrow (X : Stand p l e R s m₀ args below meth c W locs cells slots) (hexec : p.tables.exec = Jvm.exec) (htr : e.platform.stackTraces = false)
    (hown : s.vm.findClass "HeatNetwork" = some m₀.cls) (h : ∀ a ∈ nsW, a.before args s = true)
    (hlocs : ∀ x ∈ locs, ∀ cell, s.heap[x.base]? = some cell → cell.vm.isStatics = false)
    {a : Addr} {cX : ClassId} {kX : Class} (hfoundX : s.vm.findClass nsN = some cX) (hkX : s.vm.classes[cX]? = some kX) (hcell : W.heap[a]? = some (freshCell cX kX)) (hnew : s.heap.size ≤ a)
    {msg : Value} (hmsg : msg.isRef = true)
    {g : JFrame} (hg : g.method = m₀) (hsize : g.locals.size = c.maxLocals) (hlocked : g.locked = none) (hentered : g.entered = []) {rest : List Value} (hstack : g.stack = msg :: .ref a :: .ref a :: rest)
    (hd6 : decode c.code g.pc = .ok (.invokespecial 201, 3)) (hd9 : decode c.code (g.pc + 3) = .ok (.athrow, 1)) (hout : ∀ x ∈ c.exceptionTable.toList, covers x (g.pc + 3) = false)
    (hRframes : 5 < R.frames) (hRlocals : 2 * g.monitorRoom + ((Value.ref a :: rest).map fun v => v.category).sum + 81 ≤ R.locals) (hlocks : meth.locks = false) :
    ∃ U : State, Steps p.tables e below (W.setTop g) U ∧ U.status = .running ∧ Ended U below (.threw a) ∧ s.WarmedH U.vm ∧ s.sameButNew ({ U with vm := s.vm } : State) locs cells slots ∧
      ∃ ce, U.heap[a]? = some ce ∧ ce.vm = .none ∧ s.vm.findClass nsN = some ce.cls := by
  have howns : e.platform.frameOwnsMonitors = true := by rw [X.admits.platform]
  have hfin : e.platform.finalization = false := by rw [X.admits.platform]
  have hpl : e.platform.magicAccessors = ({} : Platform).magicAccessors := by rw [X.admits.platform]
  have a' : ∀ x, x ∈ nsW → x.holds args s none s [] = true := fun x hx => h x hx
  obtain ⟨T, Z0, L, -, Y⟩ := ThrowableC.of_atoms (args := args) howns hfin hpl (fun x hx => h x (by simp [nsW, hx]))
  obtain ⟨Z, M, LZ, LM, hnZ⟩ := Init0T.ofS_atoms (args := args) hpl L Y (fun x hx => h x (by simp [nsW, hx]))
  obtain ⟨P1, L1, hP1m, hs1⟩ := PassC.ofS_atoms (args := args) (s := s) hpl (X := nsN) (Y := nsR) (index := 13) (bytes := nsC) (by decide +kernel) (by decide +kernel) ns_d0 ns_d1 ns_d2 ns_d5 (fun x hx => h x (by simp only [nsW, List.mem_append]; exact Or.inl (Or.inr (Or.inl hx))))
  obtain ⟨P2, Ps2, hlen, L2, hL2, hP2m, hsup2, hpass2⟩ := Bundle.chainS (args := args) hpl hnZ ["java/lang/Exception"] nsR (by decide +kernel) (by decide +kernel) (fun x hx => h x (by simp only [nsW, List.mem_append]; exact Or.inl (Or.inr (Or.inr hx))))
  have hlink1 : P1.sup = P2.m := Option.some.inj (hs1.symm.trans hP2m)
  have hfound : s.vm.findClass nsN = some P1.m.cls := findClass_of_methodNamed hP1m
  cases Option.some.inj (hfoundX.symm.trans hfound)
  obtain ⟨c1, kX', hc1, hk, hord, -, -, hn6⟩ := Cond.instantiable_spec (a' (.instantiable nsN 6) (by simp [nsW]))
  cases Option.some.inj (hc1.symm.trans hfound)
  cases Option.some.inj (hkX.symm.trans hk)
  have hsel0 : selectMethod e.platform s.vm P1.m.cls T.fill0 = .method T.fill0 := by
    obtain ⟨c2, r2, m2, q1, q2, q3, q4, -⟩ := Cond.selects_spec (a' (.selects nsN Bundle.tFill0 Bundle.tFill0) (by simp [nsW]))
    cases Option.some.inj (q1.symm.trans hfound)
    cases Option.some.inj (q2.symm.trans (State.methodFound?_of_named Y.fill0 (by decide)))
    cases Option.some.inj (q3.symm.trans Y.fill0)
    rw [Launch.admits_selectMethod X.admits]; exact q4
  have hselF : selectMethod e.platform s.vm P1.m.cls T.fill = .method T.fill := by
    obtain ⟨c2, r2, m2, q1, q2, q3, q4, -⟩ := Cond.selects_spec (a' (.selects nsN Bundle.tFill Bundle.tFill) (by simp [nsW]))
    cases Option.some.inj (q1.symm.trans hfound)
    cases Option.some.inj (q2.symm.trans (State.methodFound?_of_named Y.fill (by decide)))
    cases Option.some.inj (q3.symm.trans Y.fill)
    rw [Launch.admits_selectMethod X.admits]; exact q4
  obtain ⟨cellS0, hcS0, hiss⟩ := Y.statics
  obtain ⟨u0, hu0⟩ := Cond.staticRefV Y.unassigned L.unassignedStatic L.statics hcS0 hiss (a' (.isRef (.static Bundle.tN "UNASSIGNED_STACK" Bundle.steD)) (by simp [nsW]))
  obtain ⟨sen, hsen⟩ := Cond.staticRefV Y.sentinel L.sentinelStatic L.statics hcS0 hiss (a' (.isRef (.static Bundle.tN "SUPPRESSED_SENTINEL" Bundle.listD)) (by simp [nsW]))
  obtain ⟨ci198, i198, fB, hk198, hg198, ha198, hsB, -, hnB, htB, hffB⟩ := Cond.ownField (t := .object "java/lang/Object") Y.found L.cls (by decide +kernel) (a' (.fieldLink Bundle.tN 198 Bundle.tN "backtrace" "Ljava/lang/Object;") (by simp [nsW])) (a' (.lays Bundle.tN Bundle.tN "backtrace" "Ljava/lang/Object;") (by simp [nsW])) e.platform hpl
  obtain ⟨cellS, hcS', heS, -, hkeep⟩ := X.same.2.2.2.2.2 T.aS cellS0 hcS0
  have hcellS : W.heap[T.aS]? = some cellS := hcS'
  have hout' : ∀ i, (⟨T.aS, i⟩ : Loc) ∉ locs := fun i hmem => by
    have := hlocs _ hmem cellS0 hcS0
    rw [hiss] at this; cases this
  have hknownS : cellS.vm ≠ .unknown := by
    rw [heS]; intro hu
    rw [show cellS0.vm = .unknown from hu] at hiss
    cases hiss
  have hneS : T.aS ≠ a := Nat.ne_of_lt (Nat.lt_of_lt_of_le (Array.getElem?_eq_some_iff.mp hcS0).1 hnew)
  obtain ⟨iM, hffM⟩ := Y.msg
  obtain ⟨tyC, dC, hdC, hdnC⟩ := Cond.laysAt hfound hk Y.cause (a' (.lays nsN Bundle.tN "cause" "Ljava/lang/Throwable;") (by simp [nsW]))
  obtain ⟨tyS, dS, hdS, hdnS⟩ := Cond.laysAt hfound hk Y.stack (a' (.lays nsN Bundle.tN "stackTrace" Bundle.steD) (by simp [nsW]))
  obtain ⟨tyP, dP, hdP, hdnP⟩ := Cond.laysAt hfound hk Y.supp (a' (.lays nsN Bundle.tN "suppressedExceptions" Bundle.listD) (by simp [nsW]))
  obtain ⟨tyM, dM, hdM, hdnM⟩ := Cond.laysAt hfound hk hffM (a' (.lays nsN Bundle.tN "detailMessage" "Ljava/lang/String;") (by simp [nsW]))
  obtain ⟨tyB, dB, hdB, hdnB⟩ := Cond.laysAt hfound hk hffB (a' (.lays nsN Bundle.tN "backtrace" "Ljava/lang/Object;") (by simp [nsW]))
  have bC := Cond.laysApart hdB hdC hdnB hdnC (by rw [hnB, Y.causeName]; decide)
  have bS := Cond.laysApart hdB hdS hdnB hdnS (by rw [hnB, Y.stackName]; decide)
  have bP := Cond.laysApart hdB hdP hdnB hdnP (by rw [hnB, Y.suppName]; decide)
  have hskip : SkipFacts T e.platform s (fun u => u) u0 ((preparedCellV T.toThrowableT (freshCell P1.m.cls kX) a u0 sen).withEntry W.cur) :=
    ⟨{ ci198 := ci198, i198 := i198, fBack := fB }, ⟨hk198, hg198, ha198, hsB⟩, by
      have := fresh_default (c := P1.m.cls) tyB
      rw [htB] at this
      simpa [preparedCellV, Cell.setSlot, Cell.withEntry, Array.getElem?_setIfInBounds, bC, bS, bP, bC.symm, bS.symm, bP.symm, defaultValue] using this, fun _ _ => rfl⟩
  obtain ⟨tm, methC, cdC, kC, vm₁, hnC, -, -, -, -, -, -, -, hW₁, st1⟩ := Steps.initColdS (tb := p.tables) (e := e) (below := below) (s := s) (U := W) X.here hexec X.warmed hpl hown (t := Bundle.initS nsN) rfl rfl (by decide +kernel)
    (a' (.methodLink "HeatNetwork" 201 (Bundle.initS nsN)) (by simp [nsW])) (h (.instanceMethod (Bundle.initS nsN)) (by simp [nsW, Bundle.passSAtoms])) (bytes := nsC) (maxL := 2) (h (.code (Bundle.initS nsN) nsC 2 none) (by simp [nsW, Bundle.passSAtoms]))
    (f := g) hg (a := a) (msg := msg) (rest := .ref a :: rest) hstack hd6
  cases Option.some.inj (hnC.symm.trans hP1m)
  have X₁ := X.noted hW₁
  obtain ⟨vm₂, X₂, st2⟩ := X₁.ctorMessageOffV hexec (g := { g with stack := .ref a :: rest }) hg hsize T L Z LZ M LM (P1 :: P2 :: Ps2)
    (fun P hP => by rcases List.mem_cons.mp hP with rfl | hP; exact L1; rcases List.mem_cons.mp hP with rfl | hP; exact L2; exact hL2 P hP) ⟨hlink1, hsup2, hpass2⟩ (u0 := u0) (sen := sen) (self := a) hmsg (cell := freshCell P1.m.cls kX) (cellS := cellS)
    hcell (fun _ => by simp) (by simp) rfl rfl hsel0 hselF hcellS hneS hknownS (by rw [hkeep _ (hout' _)]; exact hu0) (by rw [hkeep _ (hout' _)]; exact hsen)
    (Takes.of_laid hk hord tyC (by rw [Y.causeType]; rfl)) (Takes.of_laid hk hord tyS (by rw [Y.stackType]; exact fits_refV_array _ u0)) (Takes.of_laid hk hord tyP (by rw [Y.suppType]; exact fits_refV_object _ sen))
    (Takes.of_laid hk hord tyM (by rw [Y.msgType]; exact fits_refV_object _ ⟨msg, hmsg⟩)) Y.objLocals hskip htr [] hd6
    (by have : Ps2.length = 1 := hlen; simp only [List.length_cons, this]; omega) (by have : Ps2.length = 1 := hlen; simp only [List.length_cons, this]; exact hRlocals)
  obtain ⟨hwalk, hrun, hended, hWU, hsame⟩ := X₂.athrowLeaves hexec (g := { g with stack := .ref a :: rest, pc := g.pc + 3 }) hg hlocked hentered hout (a := a) (rest := rest) rfl hd9
  have hlt : a < ((W.setVm vm₁).setVm vm₂).heap.size := (Array.getElem?_eq_some_iff.mp hcell).1
  have hU := heapAt_setCell_self (s := (W.setVm vm₁).setVm vm₂) (plainBareV T.toThrowableT (freshCell P1.m.cls kX) a u0 sen msg) hlt
  refine ⟨_, st1 _ (fun acts => ?_), hrun, hended, hWU, hsame.weaken (fun y hy hlt' => ?_) (Nat.le_refl _) (Nat.le_refl _), _, hU, rfl, hfound⟩
  · rw [doInvoke_state]
    exact st2 _ hwalk
  · rcases List.mem_append.mp hy with h1 | h1
    · exact h1
    · exfalso
      have hb : y.base = a := by
        simp only [List.mem_cons, List.not_mem_nil, or_false] at h1
        rcases h1 with rfl | rfl | rfl | rfl | rfl <;> rfl
      rw [hb] at hlt'
      exact Nat.not_lt.mpr hnew hlt'
end NSE
theorem ns_good : ∀ w ∈ nsW.filter vx_no, vx_ot w = true := by decide +kernel
theorem ns_g1 : ∀ w ∈ (nsW.filter vx_no).filter goodWord, w ∈ TB := fun w hw => List.mem_filter.mpr ⟨(by decide +kernel : ∀ w ∈ (nsW.filter vx_no).filter goodWord, w ∈ lw_tbl) w hw, (List.mem_filter.mp hw).2⟩
theorem ns_g2 : ∀ w ∈ (nsW.filter vx_no).filter (fun w => !goodWord w), w ∈ NB := fun w hw => List.mem_filter.mpr ⟨(by decide +kernel : ∀ w ∈ (nsW.filter vx_no).filter (fun w => !goodWord w), w ∈ lw_tbl) w hw, List.all_eq_true.mp (by decide +kernel : ((nsW.filter vx_no).filter (fun w => !goodWord w)).all nbWord = true) w hw⟩
theorem ns_k : Cond.classLink "HeatNetwork" 197 nsN ∈ TB := tb_mem 852 (by decide +kernel) rfl
theorem ns_i : Cond.initialized nsN ∈ TB := tb_mem 107 (by decide +kernel) rfl
set_option maxHeartbeats 2000000 in
theorem r_throwN {x : Ctx} {own : String} {cc : ByteArray} {nL n pc : Nat} {L : List (Nat × Value)} {S : List Value} {σ : Mem} {dx κx is : Nat} {text : String} {X : String → Mem → Prop} (C : Cx x "HeatNetwork" cc nL) (r : Px x dx κx X)
    (d0 : decode cc pc = .ok (.new 197, 3)) (d3 : decode cc (pc + 3) = .ok (.dup, 1)) (d4 : decode cc (pc + 4) = .ok (.ldc is, 2)) (d6 : decode cc (pc + 6) = .ok (.invokespecial 201, 3)) (d9 : decode cc (pc + 9) = .ok (.athrow, 1))
    (hstr : (is, text) ∈ strs) (hfr : 5 < dx) (hlo : (S.map fun v => v.category).sum + 82 ≤ 50 * dx + 60) (hn : n + 1 ≤ κx) (h : X nsN σ) : Ws x n pc L S σ := by
  obtain ⟨p, l, e, R, s, m, args, below, meth, c, g, QQ, c0, s0, nL'⟩ := x
  obtain ⟨hx, hb, hml, hown, hts, hKE, hlk, htr0, rfl⟩ := C
  obtain ⟨rfl, ⟨Qc, rfl⟩, rfl, rfl, htb⟩ := r
  intro H locs ls hP hS hl T hT X0
  have hst' : ((S.map (rv g)).map fun v => v.category).sum = (S.map fun v => v.category).sum := by
    rw [List.map_map, show ((fun v : Value => v.category) ∘ rv g) = (fun v => v.category) from funext (rv_cat g)]
  obtain ⟨sa, hsa⟩ := hKE.2.2.2.2.2.2.2.2.1 _ hstr
  have htr : e.platform.stackTraces = false := (show e.platform.stackTraces = l.stackTraces by rw [X0.admits.platform]).trans htr0
  have Y := vx_rebase X0 (R' := { frames := (rmd dx κx).frames, locals := (rmd dx κx).locals, cells := 1, slots := 6 }) (Nat.le_refl _) (Nat.le_refl _) (by show 0 + n + 1 ≤ κx; omega) (by show 0 + 6 * n + 6 ≤ 6 * κx; omega)
  obtain ⟨s', hA⟩ : ∃ z, z = (T.setVm s.vm).setFrames (.invoking m args :: below) := ⟨_, rfl⟩
  rw [← hA] at Y
  have hvm : s'.vm = s.vm := by rw [hA]; rfl
  have hhp : s'.heap = H := by rw [hA]; exact hT
  have hW0 : s.WarmedH s'.vm := by rw [hvm]; exact State.WarmedH.refl s
  have hat : ∀ w ∈ nsW.filter vx_no, w.before args s = true := vx_hat (fun w hw => hts w (ns_g1 w hw)) ns_g2 (fun w hw => nb_use (List.mem_filter.mp hw).2 (hKE.2.2.2.2.2.2.2.2.2.1 w hw))
  have hat' : ∀ w ∈ nsW.filter vx_no, w.before args s' = true := fun w hw => vx_ot_at hW0 hvm.symm (ns_good w hw) (hat w hw)
  have hk' : (Cond.classLink "HeatNetwork" 197 nsN).before args s' = true := vx_ot_at hW0 hvm.symm rfl (hts _ ns_k)
  have hini' : (Cond.initialized nsN).before args s' = true := vx_ot_at hW0 hvm.symm rfl (hts _ ns_i)
  have hU' : vx_Zq Bundle.tN "UNASSIGNED_STACK" Bundle.steD (AA g) s' s'.heap := by rw [hhp]; exact vx_Zq.moved hW0.alike (hKE.2.2.2.2.2.2.1.kept hS.2.1)
  have hN' : vx_Zq Bundle.tN "SUPPRESSED_SENTINEL" Bundle.listD (AA g) s' s'.heap := by rw [hhp]; exact vx_Zq.moved hW0.alike (hKE.2.2.2.2.2.2.2.1.kept hS.2.1)
  have hw : ∀ w ∈ nsW, w.before args s' = true := vx_own hat' (vx_isRefq hU'.1) (vx_isRefq hN'.1) hU'.2.word hN'.2.word
  have hown' : s'.vm.findClass "HeatNetwork" = some m.cls := by rw [hvm]; exact hown
  have hins : (Cond.instantiable nsN 6).before args s' = true := hw _ (by simp [nsW])
  obtain ⟨vm₁, cX, kX, hfX, hkX, -, -, X₁, st1⟩ := Y.newCold hx (own := "HeatNetwork") (C := nsN) (index := 197) (n := 6) hown' hk' hins hini'
    (g := F0 m pc ls (S.map (rv g))) rfl (by rw [hb]; exact d0) (Nat.le_refl _) (Nat.le_refl _)
  generalize hT1 : (T.setVm vm₁).pushCell { cls := cX, slots := kX.instanceTypes.map defaultValue, vm := .none } = T1 at X₁ st1
  have hcat : (Value.ref T.heap.size).category = 1 := rfl
  have hcellA : T1.heap[T.heap.size]? = some (freshCell cX kX) := by rw [← hT1]; exact State.heap_pushCell_size _ _
  have d3' : decode c.code (pc + 3) = .ok (.dup, 1) := by rw [hb]; exact d3
  have d4' : decode c.code (pc + 4) = .ok (.ldc is, 2) := by rw [hb]; exact d4
  have hstr' : vk_R "HeatNetwork" is text sa s' := vk_R.warm hW0 hsa
  obtain ⟨U, hsteps, hrun, hend, hW, hsame, ce, hce, hv9, hc9⟩ := ns_ctorThrow X₁ hx htr hown' hw (fun x hx => nomatch hx) hfX hkX hcellA (by rw [hhp, hT]; exact Nat.le_refl _) (msg := .ref sa) rfl
    (g := { method := m, pc := pc + 6, locals := ls, stack := .ref sa :: .ref T.heap.size :: .ref T.heap.size :: S.map (rv g), locked := none }) rfl (hl.1.trans hml.symm) rfl rfl (rest := S.map (rv g)) rfl
    (by rw [hb]; exact d6) (by rw [hb]; exact d9) (fun z hz => (htb z hz).elim) hfr (by show 2 * 0 + _ + 81 ≤ 50 * dx + 60; simp only [List.map_cons, List.sum_cons, hcat]; rw [hst']; omega) hlk
  obtain ⟨f1, f2⟩ := vx_frame hsame
  rw [hhp] at f1 f2
  have hWs : s.WarmedH U.vm := State.WarmedH.trans hW0 hW
  have hcl : s.vm.findClass nsN = some ce.cls := by rw [← hvm]; exact hc9
  have hall : s.sameButNew ({ U with vm := s.vm } : State) locs κx (6 * κx) := by
    subst hA
    obtain ⟨e1, e2⟩ := hsame
    rw [State.setFrames_setFrames] at e1
    have h2 : (T.setVm s.vm).sameButNew ({ U with vm := s.vm } : State) [] (0 + 1) (0 + 6) := ⟨e1, e2⟩
    have h3 := X0.same.trans h2
    rw [List.append_nil] at h3
    exact h3.mono (by omega) (by omega)
  have hq : ∀ q : Nat, q < H.size → U.heap[q]? = H[q]? := fun q hq => f2 q hq (fun z hz => nomatch hz)
  refine ⟨U, ?_, .threw T.heap.size, hrun, hend, Or.inr ⟨T.heap.size, rfl, nsN, ce, locs, ⟨σ, trivial, ⟨h, va_P.kept hP (fun k q hk => hq q.1 ((hP k q hk).lt))⟩, ⟨Nat.le_trans hS.1 f1, fun q h1 h2 => (hq q (Nat.lt_of_lt_of_le h1 hS.1)).trans (hS.2.1 q h1 h2)⟩⟩, hce, hv9, hcl, hWs, hall, fun z hz => hS.2.2 z hz⟩⟩
  refine st1 _ ?_
  show Steps p.tables e below (T1.setTop { method := m, pc := pc + 3, locals := ls, stack := .ref T.heap.size :: S.map (rv g), locked := none }) _
  jvm_step X₁.here [X₁.here.top, hx, d3', Value.category]
  exact X₁.ldcString hx (own := "HeatNetwork") (text := text) (index := is) (a := sa) hown' hstr'.1 hstr'.2
    (g := { method := m, pc := pc + 4, locals := ls, stack := .ref T.heap.size :: .ref T.heap.size :: S.map (rv g), locked := none }) rfl d4' _ hsteps
set_option maxHeartbeats 2000000 in
theorem r_throwNW {x : Ctx} {own : String} {cc : ByteArray} {nL n pc : Nat} {L : List (Nat × Value)} {S : List Value} {σ : Mem} {dx κx is : Nat} {text : String} {X : String → Mem → Prop} (C : Cx x "HeatNetwork" cc nL) (r : Px x dx κx X)
    (d0 : decode cc pc = .ok (.new 197, 3)) (d3 : decode cc (pc + 3) = .ok (.dup, 1)) (d4 : decode cc (pc + 4) = .ok (.ldc_w is, 3)) (d6 : decode cc (pc + 7) = .ok (.invokespecial 201, 3)) (d9 : decode cc (pc + 10) = .ok (.athrow, 1))
    (hstr : (is, text) ∈ strs) (hfr : 5 < dx) (hlo : (S.map fun v => v.category).sum + 82 ≤ 50 * dx + 60) (hn : n + 1 ≤ κx) (h : X nsN σ) : Ws x n pc L S σ := by
  obtain ⟨p, l, e, R, s, m, args, below, meth, c, g, QQ, c0, s0, nL'⟩ := x
  obtain ⟨hx, hb, hml, hown, hts, hKE, hlk, htr0, rfl⟩ := C
  obtain ⟨rfl, ⟨Qc, rfl⟩, rfl, rfl, htb⟩ := r
  intro H locs ls hP hS hl T hT X0
  have hst' : ((S.map (rv g)).map fun v => v.category).sum = (S.map fun v => v.category).sum := by
    rw [List.map_map, show ((fun v : Value => v.category) ∘ rv g) = (fun v => v.category) from funext (rv_cat g)]
  obtain ⟨sa, hsa⟩ := hKE.2.2.2.2.2.2.2.2.1 _ hstr
  have htr : e.platform.stackTraces = false := (show e.platform.stackTraces = l.stackTraces by rw [X0.admits.platform]).trans htr0
  have Y := vx_rebase X0 (R' := { frames := (rmd dx κx).frames, locals := (rmd dx κx).locals, cells := 1, slots := 6 }) (Nat.le_refl _) (Nat.le_refl _) (by show 0 + n + 1 ≤ κx; omega) (by show 0 + 6 * n + 6 ≤ 6 * κx; omega)
  obtain ⟨s', hA⟩ : ∃ z, z = (T.setVm s.vm).setFrames (.invoking m args :: below) := ⟨_, rfl⟩
  rw [← hA] at Y
  have hvm : s'.vm = s.vm := by rw [hA]; rfl
  have hhp : s'.heap = H := by rw [hA]; exact hT
  have hW0 : s.WarmedH s'.vm := by rw [hvm]; exact State.WarmedH.refl s
  have hat : ∀ w ∈ nsW.filter vx_no, w.before args s = true := vx_hat (fun w hw => hts w (ns_g1 w hw)) ns_g2 (fun w hw => nb_use (List.mem_filter.mp hw).2 (hKE.2.2.2.2.2.2.2.2.2.1 w hw))
  have hat' : ∀ w ∈ nsW.filter vx_no, w.before args s' = true := fun w hw => vx_ot_at hW0 hvm.symm (ns_good w hw) (hat w hw)
  have hk' : (Cond.classLink "HeatNetwork" 197 nsN).before args s' = true := vx_ot_at hW0 hvm.symm rfl (hts _ ns_k)
  have hini' : (Cond.initialized nsN).before args s' = true := vx_ot_at hW0 hvm.symm rfl (hts _ ns_i)
  have hU' : vx_Zq Bundle.tN "UNASSIGNED_STACK" Bundle.steD (AA g) s' s'.heap := by rw [hhp]; exact vx_Zq.moved hW0.alike (hKE.2.2.2.2.2.2.1.kept hS.2.1)
  have hN' : vx_Zq Bundle.tN "SUPPRESSED_SENTINEL" Bundle.listD (AA g) s' s'.heap := by rw [hhp]; exact vx_Zq.moved hW0.alike (hKE.2.2.2.2.2.2.2.1.kept hS.2.1)
  have hw : ∀ w ∈ nsW, w.before args s' = true := vx_own hat' (vx_isRefq hU'.1) (vx_isRefq hN'.1) hU'.2.word hN'.2.word
  have hown' : s'.vm.findClass "HeatNetwork" = some m.cls := by rw [hvm]; exact hown
  have hins : (Cond.instantiable nsN 6).before args s' = true := hw _ (by simp [nsW])
  obtain ⟨vm₁, cX, kX, hfX, hkX, -, -, X₁, st1⟩ := Y.newCold hx (own := "HeatNetwork") (C := nsN) (index := 197) (n := 6) hown' hk' hins hini'
    (g := F0 m pc ls (S.map (rv g))) rfl (by rw [hb]; exact d0) (Nat.le_refl _) (Nat.le_refl _)
  generalize hT1 : (T.setVm vm₁).pushCell { cls := cX, slots := kX.instanceTypes.map defaultValue, vm := .none } = T1 at X₁ st1
  have hcat : (Value.ref T.heap.size).category = 1 := rfl
  have hcellA : T1.heap[T.heap.size]? = some (freshCell cX kX) := by rw [← hT1]; exact State.heap_pushCell_size _ _
  have d3' : decode c.code (pc + 3) = .ok (.dup, 1) := by rw [hb]; exact d3
  have d4' : decode c.code (pc + 4) = .ok (.ldc_w is, 3) := by rw [hb]; exact d4
  have hstr' : vk_R "HeatNetwork" is text sa s' := vk_R.warm hW0 hsa
  obtain ⟨U, hsteps, hrun, hend, hW, hsame, ce, hce, hv9, hc9⟩ := ns_ctorThrow X₁ hx htr hown' hw (fun x hx => nomatch hx) hfX hkX hcellA (by rw [hhp, hT]; exact Nat.le_refl _) (msg := .ref sa) rfl
    (g := { method := m, pc := pc + 7, locals := ls, stack := .ref sa :: .ref T.heap.size :: .ref T.heap.size :: S.map (rv g), locked := none }) rfl (hl.1.trans hml.symm) rfl rfl (rest := S.map (rv g)) rfl
    (by rw [hb]; exact d6) (by rw [hb]; exact d9) (fun z hz => (htb z hz).elim) hfr (by show 2 * 0 + _ + 81 ≤ 50 * dx + 60; simp only [List.map_cons, List.sum_cons, hcat]; rw [hst']; omega) hlk
  obtain ⟨f1, f2⟩ := vx_frame hsame
  rw [hhp] at f1 f2
  have hWs : s.WarmedH U.vm := State.WarmedH.trans hW0 hW
  have hcl : s.vm.findClass nsN = some ce.cls := by rw [← hvm]; exact hc9
  have hall : s.sameButNew ({ U with vm := s.vm } : State) locs κx (6 * κx) := by
    subst hA
    obtain ⟨e1, e2⟩ := hsame
    rw [State.setFrames_setFrames] at e1
    have h2 : (T.setVm s.vm).sameButNew ({ U with vm := s.vm } : State) [] (0 + 1) (0 + 6) := ⟨e1, e2⟩
    have h3 := X0.same.trans h2
    rw [List.append_nil] at h3
    exact h3.mono (by omega) (by omega)
  have hq : ∀ q : Nat, q < H.size → U.heap[q]? = H[q]? := fun q hq => f2 q hq (fun z hz => nomatch hz)
  refine ⟨U, ?_, .threw T.heap.size, hrun, hend, Or.inr ⟨T.heap.size, rfl, nsN, ce, locs, ⟨σ, trivial, ⟨h, va_P.kept hP (fun k q hk => hq q.1 ((hP k q hk).lt))⟩, ⟨Nat.le_trans hS.1 f1, fun q h1 h2 => (hq q (Nat.lt_of_lt_of_le h1 hS.1)).trans (hS.2.1 q h1 h2)⟩⟩, hce, hv9, hcl, hWs, hall, fun z hz => hS.2.2 z hz⟩⟩
  refine st1 _ ?_
  show Steps p.tables e below (T1.setTop { method := m, pc := pc + 3, locals := ls, stack := .ref T.heap.size :: S.map (rv g), locked := none }) _
  jvm_step X₁.here [X₁.here.top, hx, d3', Value.category]
  exact X₁.ldcStringW hx (own := "HeatNetwork") (text := text) (index := is) (a := sa) hown' hstr'.1 hstr'.2
    (g := { method := m, pc := pc + 4, locals := ls, stack := .ref T.heap.size :: .ref T.heap.size :: S.map (rv g), locked := none }) rfl d4' _ hsteps
