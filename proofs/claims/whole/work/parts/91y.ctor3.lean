theorem wq_91 : (Jvm.Cond.initialized "HeatNetwork$Network") ∈ TB := tb_mem 91 (by decide +kernel) (by decide +kernel)
theorem wq_92 : (Jvm.Cond.initialized "HeatNetwork$Shape") ∈ TB := tb_mem 92 (by decide +kernel) (by decide +kernel)
theorem wq_93 : (Jvm.Cond.initialized "HeatNetwork$State") ∈ TB := tb_mem 93 (by decide +kernel) (by decide +kernel)
theorem wq_94 : (Jvm.Cond.initialized "HeatNetwork$Text") ∈ TB := tb_mem 94 (by decide +kernel) (by decide +kernel)
theorem wq_116 : (Jvm.Cond.methodLink "HeatNetwork" (1 : Nat) ({ cls := "java/lang/Object", name := "<init>", desc := "()V" } : Jvm.MethodName)) ∈ TB := tb_mem 116 (by decide +kernel) (by decide +kernel)
theorem wq_119 : (Jvm.Cond.classLink "HeatNetwork" (7 : Nat) "HeatNetwork$Network") ∈ TB := tb_mem 119 (by decide +kernel) (by decide +kernel)
theorem wq_120 : (Jvm.Cond.instantiable "HeatNetwork$Network" (18 : Nat)) ∈ TB := tb_mem 120 (by decide +kernel) (by decide +kernel)
theorem wq_122 : (Jvm.Cond.instanceMethod ({ cls := "HeatNetwork$Network", name := "<init>", desc := "()V" } : Jvm.MethodName)) ∈ TB := tb_mem 122 (by decide +kernel) (by decide +kernel)
theorem wq_123 : (Jvm.Cond.code ({ cls := "HeatNetwork$Network", name := "<init>", desc := "()V" } : Jvm.MethodName) prog_2_method_1_code (1 : Nat) (Option.none : Option Jvm.ClassFile.FieldType)) ∈ TB := tb_mem 123 (by decide +kernel) (by decide +kernel)
theorem wq_218 : (Jvm.Cond.classLink "HeatNetwork" (26 : Nat) "HeatNetwork$Shape") ∈ TB := tb_mem 218 (by decide +kernel) (by decide +kernel)
theorem wq_219 : (Jvm.Cond.instantiable "HeatNetwork$Shape" (10 : Nat)) ∈ TB := tb_mem 219 (by decide +kernel) (by decide +kernel)
theorem wq_221 : (Jvm.Cond.instanceMethod ({ cls := "HeatNetwork$Shape", name := "<init>", desc := "()V" } : Jvm.MethodName)) ∈ TB := tb_mem 221 (by decide +kernel) (by decide +kernel)
theorem wq_222 : (Jvm.Cond.code ({ cls := "HeatNetwork$Shape", name := "<init>", desc := "()V" } : Jvm.MethodName) prog_3_method_1_code (1 : Nat) (Option.none : Option Jvm.ClassFile.FieldType)) ∈ TB := tb_mem 222 (by decide +kernel) (by decide +kernel)
theorem wq_270 : (Jvm.Cond.classLink "HeatNetwork" (33 : Nat) "HeatNetwork$State") ∈ TB := tb_mem 270 (by decide +kernel) (by decide +kernel)
theorem wq_271 : (Jvm.Cond.instantiable "HeatNetwork$State" (14 : Nat)) ∈ TB := tb_mem 271 (by decide +kernel) (by decide +kernel)
theorem wq_273 : (Jvm.Cond.instanceMethod ({ cls := "HeatNetwork$State", name := "<init>", desc := "()V" } : Jvm.MethodName)) ∈ TB := tb_mem 273 (by decide +kernel) (by decide +kernel)
theorem wq_274 : (Jvm.Cond.code ({ cls := "HeatNetwork$State", name := "<init>", desc := "()V" } : Jvm.MethodName) prog_4_method_1_code (1 : Nat) (Option.none : Option Jvm.ClassFile.FieldType)) ∈ TB := tb_mem 274 (by decide +kernel) (by decide +kernel)
theorem wq_328 : (Jvm.Cond.classLink "HeatNetwork" (43 : Nat) "HeatNetwork$Text") ∈ TB := tb_mem 328 (by decide +kernel) (by decide +kernel)
theorem wq_329 : (Jvm.Cond.instantiable "HeatNetwork$Text" (6 : Nat)) ∈ TB := tb_mem 329 (by decide +kernel) (by decide +kernel)
theorem wq_331 : (Jvm.Cond.instanceMethod ({ cls := "HeatNetwork$Text", name := "<init>", desc := "()V" } : Jvm.MethodName)) ∈ TB := tb_mem 331 (by decide +kernel) (by decide +kernel)
theorem wq_332 : (Jvm.Cond.code ({ cls := "HeatNetwork$Text", name := "<init>", desc := "()V" } : Jvm.MethodName) prog_5_method_1_code (1 : Nat) (Option.none : Option Jvm.ClassFile.FieldType)) ∈ TB := tb_mem 332 (by decide +kernel) (by decide +kernel)
theorem wq_358 : (Jvm.Cond.fieldLink "HeatNetwork" (10 : Nat) "HeatNetwork" "network" "LHeatNetwork$Network;") ∈ TB := tb_mem 358 (by decide +kernel) (by decide +kernel)
theorem wq_359 : (Jvm.Cond.fieldLink "HeatNetwork" (16 : Nat) "HeatNetwork" "snapshot" "LHeatNetwork$Network;") ∈ TB := tb_mem 359 (by decide +kernel) (by decide +kernel)
theorem wq_360 : (Jvm.Cond.fieldLink "HeatNetwork" (19 : Nat) "HeatNetwork" "tried" "LHeatNetwork$Network;") ∈ TB := tb_mem 360 (by decide +kernel) (by decide +kernel)
theorem wq_361 : (Jvm.Cond.fieldLink "HeatNetwork" (22 : Nat) "HeatNetwork" "earlier" "[LHeatNetwork$Network;") ∈ TB := tb_mem 361 (by decide +kernel) (by decide +kernel)
theorem wq_362 : (Jvm.Cond.fieldLink "HeatNetwork" (29 : Nat) "HeatNetwork" "shape" "LHeatNetwork$Shape;") ∈ TB := tb_mem 362 (by decide +kernel) (by decide +kernel)
theorem wq_363 : (Jvm.Cond.fieldLink "HeatNetwork" (36 : Nat) "HeatNetwork" "state" "LHeatNetwork$State;") ∈ TB := tb_mem 363 (by decide +kernel) (by decide +kernel)
theorem wq_364 : (Jvm.Cond.fieldLink "HeatNetwork" (40 : Nat) "HeatNetwork" "triedState" "LHeatNetwork$State;") ∈ TB := tb_mem 364 (by decide +kernel) (by decide +kernel)
theorem wq_365 : (Jvm.Cond.fieldLink "HeatNetwork" (46 : Nat) "HeatNetwork" "text" "LHeatNetwork$Text;") ∈ TB := tb_mem 365 (by decide +kernel) (by decide +kernel)
theorem wq_366 : (Jvm.Cond.fieldLink "HeatNetwork" (50 : Nat) "HeatNetwork" "nextEarlier" "I") ∈ TB := tb_mem 366 (by decide +kernel) (by decide +kernel)
theorem wq_367 : (Jvm.Cond.fieldLink "HeatNetwork" (54 : Nat) "HeatNetwork" "changes" "I") ∈ TB := tb_mem 367 (by decide +kernel) (by decide +kernel)
theorem wq_368 : (Jvm.Cond.fieldLink "HeatNetwork" (57 : Nat) "HeatNetwork" "hasSnapshot" "Z") ∈ TB := tb_mem 368 (by decide +kernel) (by decide +kernel)
theorem wq_369 : (Jvm.Cond.fieldLink "HeatNetwork" (61 : Nat) "HeatNetwork" "isSettled" "Z") ∈ TB := tb_mem 369 (by decide +kernel) (by decide +kernel)
theorem wq_370 : (Jvm.Cond.fieldLink "HeatNetwork" (64 : Nat) "HeatNetwork" "faultAt" "I") ∈ TB := tb_mem 370 (by decide +kernel) (by decide +kernel)
theorem wq_371 : (Jvm.Cond.fieldLink "HeatNetwork" (67 : Nat) "HeatNetwork" "reason" "I") ∈ TB := tb_mem 371 (by decide +kernel) (by decide +kernel)
theorem wi_ne {σ : Mem} {a k j : Nat} {v : Int32} (h : j ≠ a) : (wi σ a k v).1 j = σ.1 j := by
  funext i
  simp [wi, h]
theorem wi_on {σ : Mem} {a k : Nat} {v : Int32} : (wi σ a k v).1 a = fun j => if j = k then v else σ.1 a j := by
  funext i
  simp [wi]
theorem bl2 : ∀ j, j < 18 → defaultValue (tyC 2 j) = vp_V [.null, .int 0, .null, .null, .null, .null, .null, .null, .null, .null, .null, .null, .null, .null, .long 0, .long 0, .long 0, .long 0] j := by decide +kernel
theorem bl3 : ∀ j, j < 10 → defaultValue (tyC 3 j) = vp_V [.null, .null, .int 0, .null, .null, .null, .null, .null, .int 0, .null] j := by decide +kernel
theorem bl4 : ∀ j, j < 14 → defaultValue (tyC 4 j) = vp_V [.null, .null, .null, .null, .null, .null, .null, .null, .null, .null, .null, .null, .long 0, .int 0] j := by decide +kernel
theorem bl5 : ∀ j, j < 6 → defaultValue (tyC 5 j) = vp_V [.null, .int 0, .int 0, .int 0, .null, .null] j := by decide +kernel
theorem bl6 : ∀ j, j < 14 → defaultValue (tyC 6 j) = vp_V [.null, .null, .null, .null, .null, .null, .null, .null, .int 0, .int 0, .int 0, .int 0, .int 0, .int 0] j := by decide +kernel
theorem bl7 : ∀ j, j < 33 → defaultValue (tyC 7 j) = vp_V [.int 0, .null, .null, .null, .null, .int 0, .null, .null, .int 0, .null, .null, .null, .int 0, .int 0, .int 0, .int 0, .null, .null, .null, .null, .null, .null, .int 0, .null, .null, .null, .null, .null, .null, .null, .null, .long 0, .int 0] j := by decide +kernel
set_option maxHeartbeats 40000000 in
theorem ct_X4 : CtK yX4_init cX4_init 2 2 208 2273 0 (SG []) 1 (opn (fun _ => none) 0 (some (.inl [.null, .null, .null, .null, .null, .null, .null, .null, .int 0, .int 0, .int 0, .int 0, .int 0, .int 0]))) (wi (SG [196, 182, 168, 154, 140, 126, 112, 98, 84, 30, 16, 2]) 0 12 (-1)) 209 (fun _ => none) := by
  refine ctK_of (by decide) rfl (by decide) (fun x C hin hR hQ => ?_)
  have C : Ck x RX4 cX4_init 2 := C
  have hflds : ∀ (σ : Mem), σ.1 0 = (fun j => if j = 12 then -1 else 0) → ∀ g : Gh, ([.ref 1, .ref 15, .ref 29, .ref 43, .ref 44, .ref 53, .ref 66, .ref 79, .int 0, .int 0, .int 0, .int 0, .int (-1), .int 0] : List Value).map (rv g) = (List.range (nfC 6)).map (fun k => fvl g σ 0 6 k) := by
    intro σ e1 g
    have h1 : (List.range (nfC 6)).map (fun k => fvl g σ 0 6 k) = [.ref (gA g 1), .ref (gA g 15), .ref (gA g 29), .ref (gA g 43), .ref (gA g 44), .ref (gA g 53), .ref (gA g 66), .ref (gA g 79), .int (σ.1 0 8), .int (σ.1 0 9), .int (σ.1 0 10), .int (σ.1 0 11), .int (σ.1 0 12), .int (σ.1 0 13)] := rfl
    rw [h1, e1]
    rfl
  refine k_aload_n C 1 (j := 0) dX4_init_0 rfl rfl ?_
  refine k_obj C 4 dX4_init_1 rfl wq_116 wq_117 wq_118 (by rw [hR]; exact Nat.le_of_ble_eq_true rfl) (by rw [hR]; exact Nat.le_of_ble_eq_true rfl) (Nat.le_of_ble_eq_true rfl) ?_
  refine k_aload_n C 5 (j := 0) dX4_init_4 rfl rfl ?_
  refine k_new C cl2 8 dX4_init_5 rfl kd_1 wq_119 wq_120 wq_91 (by rw [hR]; exact Nat.le_of_ble_eq_true rfl) (by rw [hR]; exact Nat.le_of_ble_eq_true rfl) [.null, .int 0, .null, .null, .null, .null, .null, .null, .null, .null, .null, .null, .null, .null, .long 0, .long 0, .long 0, .long 0] bl2 (fun _ => rfl) ?_
  show Wk x 1 18 8 [(0, .ref 0)] [.ref 1, .ref 0] (SG []) 2 (opn (opn (fun _ => none) 0 (some (.inl [.null, .null, .null, .null, .null, .null, .null, .null, .int 0, .int 0, .int 0, .int 0, .int 0, .int 0]))) (1) (some (.inl [.null, .int 0, .null, .null, .null, .null, .null, .null, .null, .null, .null, .null, .null, .null, .long 0, .long 0, .long 0, .long 0])))
  refine k_dup C 9 dX4_init_8 rfl rfl ?_
  refine k_callN C 12 (ct_X0 (a := 1) (F := (opn (fun _ => none) 0 (some (.inl [.null, .null, .null, .null, .null, .null, .null, .null, .int 0, .int 0, .int 0, .int 0, .int 0, .int 0])))) (l := []) (by decide +kernel) rfl (fun j _ _ => (opn_ne (by omega))) (by decide)) dX4_init_9 rfl rfl nbd_121 wq_123 wq_122 wq_91 ⟨by decide, by decide, by decide +kernel⟩ (by rw [hR]; exact ⟨Nat.le_of_ble_eq_true rfl, Nat.le_of_ble_eq_true rfl⟩) (Nat.le_of_ble_eq_true rfl) (by rw [hR]; exact Nat.le_of_ble_eq_true rfl) (by rw [hR]; exact Nat.le_of_ble_eq_true rfl) ?_
  show Wk x 14 145 12 [(0, .ref 0)] [.ref 1, .ref 0] (SG [2]) 15 (opn (fun _ => none) 0 (some (.inl [.null, .null, .null, .null, .null, .null, .null, .null, .int 0, .int 0, .int 0, .int 0, .int 0, .int 0])))
  refine k_putO (k := 0) (fs' := [.ref 1, .null, .null, .null, .null, .null, .null, .null, .int 0, .int 0, .int 0, .int 0, .int 0, .int 0]) C hin cl6 15 dX4_init_12 rfl kd_0 (by decide) (by decide) rfl (by decide) wq_358 rfl (fun _ => rfl) (fun _ => rfl) rfl ?_
  show Wk x 14 145 15 [(0, .ref 0)] [] (SG [2]) 15 (opn (fun _ => none) 0 (some (.inl [.ref 1, .null, .null, .null, .null, .null, .null, .null, .int 0, .int 0, .int 0, .int 0, .int 0, .int 0])))
  refine k_aload_n C 16 (j := 0) dX4_init_15 rfl rfl ?_
  refine k_new C cl2 19 dX4_init_16 rfl kd_15 wq_119 wq_120 wq_91 (by rw [hR]; exact Nat.le_of_ble_eq_true rfl) (by rw [hR]; exact Nat.le_of_ble_eq_true rfl) [.null, .int 0, .null, .null, .null, .null, .null, .null, .null, .null, .null, .null, .null, .null, .long 0, .long 0, .long 0, .long 0] bl2 (fun _ => rfl) ?_
  show Wk x 15 163 19 [(0, .ref 0)] [.ref 15, .ref 0] (SG [2]) 16 (opn (opn (fun _ => none) 0 (some (.inl [.ref 1, .null, .null, .null, .null, .null, .null, .null, .int 0, .int 0, .int 0, .int 0, .int 0, .int 0]))) (15) (some (.inl [.null, .int 0, .null, .null, .null, .null, .null, .null, .null, .null, .null, .null, .null, .null, .long 0, .long 0, .long 0, .long 0])))
  refine k_dup C 20 dX4_init_19 rfl rfl ?_
  refine k_callN C 23 (ct_X0 (a := 15) (F := (opn (fun _ => none) 0 (some (.inl [.ref 1, .null, .null, .null, .null, .null, .null, .null, .int 0, .int 0, .int 0, .int 0, .int 0, .int 0])))) (l := [2]) (by decide +kernel) rfl (fun j _ _ => (opn_ne (by omega))) (by decide)) dX4_init_20 rfl rfl nbd_121 wq_123 wq_122 wq_91 ⟨by decide, by decide, by decide +kernel⟩ (by rw [hR]; exact ⟨Nat.le_of_ble_eq_true rfl, Nat.le_of_ble_eq_true rfl⟩) (Nat.le_of_ble_eq_true rfl) (by rw [hR]; exact Nat.le_of_ble_eq_true rfl) (by rw [hR]; exact Nat.le_of_ble_eq_true rfl) ?_
  show Wk x 28 290 23 [(0, .ref 0)] [.ref 15, .ref 0] (SG [16, 2]) 29 (opn (fun _ => none) 0 (some (.inl [.ref 1, .null, .null, .null, .null, .null, .null, .null, .int 0, .int 0, .int 0, .int 0, .int 0, .int 0])))
  refine k_putO (k := 1) (fs' := [.ref 1, .ref 15, .null, .null, .null, .null, .null, .null, .int 0, .int 0, .int 0, .int 0, .int 0, .int 0]) C hin cl6 26 dX4_init_23 rfl kd_0 (by decide) (by decide) rfl (by decide) wq_359 rfl (fun _ => rfl) (fun _ => rfl) rfl ?_
  show Wk x 28 290 26 [(0, .ref 0)] [] (SG [16, 2]) 29 (opn (fun _ => none) 0 (some (.inl [.ref 1, .ref 15, .null, .null, .null, .null, .null, .null, .int 0, .int 0, .int 0, .int 0, .int 0, .int 0])))
  refine k_aload_n C 27 (j := 0) dX4_init_26 rfl rfl ?_
  refine k_new C cl2 30 dX4_init_27 rfl kd_29 wq_119 wq_120 wq_91 (by rw [hR]; exact Nat.le_of_ble_eq_true rfl) (by rw [hR]; exact Nat.le_of_ble_eq_true rfl) [.null, .int 0, .null, .null, .null, .null, .null, .null, .null, .null, .null, .null, .null, .null, .long 0, .long 0, .long 0, .long 0] bl2 (fun _ => rfl) ?_
  show Wk x 29 308 30 [(0, .ref 0)] [.ref 29, .ref 0] (SG [16, 2]) 30 (opn (opn (fun _ => none) 0 (some (.inl [.ref 1, .ref 15, .null, .null, .null, .null, .null, .null, .int 0, .int 0, .int 0, .int 0, .int 0, .int 0]))) (29) (some (.inl [.null, .int 0, .null, .null, .null, .null, .null, .null, .null, .null, .null, .null, .null, .null, .long 0, .long 0, .long 0, .long 0])))
  refine k_dup C 31 dX4_init_30 rfl rfl ?_
  refine k_callN C 34 (ct_X0 (a := 29) (F := (opn (fun _ => none) 0 (some (.inl [.ref 1, .ref 15, .null, .null, .null, .null, .null, .null, .int 0, .int 0, .int 0, .int 0, .int 0, .int 0])))) (l := [16, 2]) (by decide +kernel) rfl (fun j _ _ => (opn_ne (by omega))) (by decide)) dX4_init_31 rfl rfl nbd_121 wq_123 wq_122 wq_91 ⟨by decide, by decide, by decide +kernel⟩ (by rw [hR]; exact ⟨Nat.le_of_ble_eq_true rfl, Nat.le_of_ble_eq_true rfl⟩) (Nat.le_of_ble_eq_true rfl) (by rw [hR]; exact Nat.le_of_ble_eq_true rfl) (by rw [hR]; exact Nat.le_of_ble_eq_true rfl) ?_
  show Wk x 42 435 34 [(0, .ref 0)] [.ref 29, .ref 0] (SG [30, 16, 2]) 43 (opn (fun _ => none) 0 (some (.inl [.ref 1, .ref 15, .null, .null, .null, .null, .null, .null, .int 0, .int 0, .int 0, .int 0, .int 0, .int 0])))
  refine k_putO (k := 2) (fs' := [.ref 1, .ref 15, .ref 29, .null, .null, .null, .null, .null, .int 0, .int 0, .int 0, .int 0, .int 0, .int 0]) C hin cl6 37 dX4_init_34 rfl kd_0 (by decide) (by decide) rfl (by decide) wq_360 rfl (fun _ => rfl) (fun _ => rfl) rfl ?_
  show Wk x 42 435 37 [(0, .ref 0)] [] (SG [30, 16, 2]) 43 (opn (fun _ => none) 0 (some (.inl [.ref 1, .ref 15, .ref 29, .null, .null, .null, .null, .null, .int 0, .int 0, .int 0, .int 0, .int 0, .int 0])))
  refine k_aload_n C 38 (j := 0) dX4_init_37 rfl rfl ?_
  refine k_bipush C 40 (v := 9) dX4_init_38 rfl (by decide) ?_
  refine k_newq C 43 dX4_init_40 rfl kd_43 wq_119 (by rw [hR]; exact Nat.le_of_ble_eq_true rfl) (by rw [hR]; exact Nat.le_of_ble_eq_true rfl) (by decide) (by decide) ?_
  rw [show (fun _ : Nat => (none : Option Nat)) = fE 0 from by funext j; exact (if_neg (Nat.not_lt_zero j)).symm]
  show Wk x 43 444 43 [(0, .ref 0)] [.ref 43, .ref 0] (SG [30, 16, 2]) 44 (opn (opn (fun _ => none) 0 (some (.inl [.ref 1, .ref 15, .ref 29, .null, .null, .null, .null, .null, .int 0, .int 0, .int 0, .int 0, .int 0, .int 0]))) 43 (some (.inr (fE 0))))
  refine k_putT (k := 3) (fs' := [.ref 1, .ref 15, .ref 29, .ref 43, .null, .null, .null, .null, .int 0, .int 0, .int 0, .int 0, .int 0, .int 0]) C hin cl6 46 dX4_init_43 rfl kd_0 (by decide) (by decide) (by decide) rfl (by decide) wq_361 rfl (fun _ => rfl) (fun _ => rfl) rfl ?_
  show Wk x 43 444 46 [(0, .ref 0)] [] (SG [30, 16, 2]) 44 (opn (opn (fun _ => none) 0 (some (.inl [.ref 1, .ref 15, .ref 29, .ref 43, .null, .null, .null, .null, .int 0, .int 0, .int 0, .int 0, .int 0, .int 0]))) 43 (some (.inr (fE 0))))
  refine k_aload_n C 47 (j := 0) dX4_init_46 rfl rfl ?_
  refine k_new C cl3 50 dX4_init_47 rfl kd_44 wq_218 wq_219 wq_92 (by rw [hR]; exact Nat.le_of_ble_eq_true rfl) (by rw [hR]; exact Nat.le_of_ble_eq_true rfl) [.null, .null, .int 0, .null, .null, .null, .null, .null, .int 0, .null] bl3 (fun _ => rfl) ?_
  show Wk x 44 454 50 [(0, .ref 0)] [.ref 44, .ref 0] (SG [30, 16, 2]) 45 (opn (opn (opn (fun _ => none) 0 (some (.inl [.ref 1, .ref 15, .ref 29, .ref 43, .null, .null, .null, .null, .int 0, .int 0, .int 0, .int 0, .int 0, .int 0]))) 43 (some (.inr (fE 0)))) (44) (some (.inl [.null, .null, .int 0, .null, .null, .null, .null, .null, .int 0, .null])))
  refine k_dup C 51 dX4_init_50 rfl rfl ?_
  refine k_callN C 54 (ct_X1 (F := (opn (opn (fun _ => none) 0 (some (.inl [.ref 1, .ref 15, .ref 29, .ref 43, .null, .null, .null, .null, .int 0, .int 0, .int 0, .int 0, .int 0, .int 0]))) 43 (some (.inr (fE 0))))) (l := [30, 16, 2]) (by decide +kernel) rfl (fun j _ _ => ((opn_ne (by omega)).trans (opn_ne (by omega)))) (by decide)) dX4_init_51 rfl rfl nbd_220 wq_222 wq_221 wq_92 ⟨by decide, by decide, by decide +kernel⟩ (by rw [hR]; exact ⟨Nat.le_of_ble_eq_true rfl, Nat.le_of_ble_eq_true rfl⟩) (Nat.le_of_ble_eq_true rfl) (by rw [hR]; exact Nat.le_of_ble_eq_true rfl) (by rw [hR]; exact Nat.le_of_ble_eq_true rfl) ?_
  show Wk x 52 534 54 [(0, .ref 0)] [.ref 44, .ref 0] (SG [30, 16, 2]) 53 (opn (opn (fun _ => none) 0 (some (.inl [.ref 1, .ref 15, .ref 29, .ref 43, .null, .null, .null, .null, .int 0, .int 0, .int 0, .int 0, .int 0, .int 0]))) 43 (some (.inr (fE 0))))
  refine k_putT (k := 4) (fs' := [.ref 1, .ref 15, .ref 29, .ref 43, .ref 44, .null, .null, .null, .int 0, .int 0, .int 0, .int 0, .int 0, .int 0]) C hin cl6 57 dX4_init_54 rfl kd_0 (by decide) (by decide) (by decide) rfl (by decide) wq_362 rfl (fun _ => rfl) (fun _ => rfl) rfl ?_
  show Wk x 52 534 57 [(0, .ref 0)] [] (SG [30, 16, 2]) 53 (opn (opn (fun _ => none) 0 (some (.inl [.ref 1, .ref 15, .ref 29, .ref 43, .ref 44, .null, .null, .null, .int 0, .int 0, .int 0, .int 0, .int 0, .int 0]))) 43 (some (.inr (fE 0))))
  refine k_aload_n C 58 (j := 0) dX4_init_57 rfl rfl ?_
  refine k_new C cl4 61 dX4_init_58 rfl kd_53 wq_270 wq_271 wq_93 (by rw [hR]; exact Nat.le_of_ble_eq_true rfl) (by rw [hR]; exact Nat.le_of_ble_eq_true rfl) [.null, .null, .null, .null, .null, .null, .null, .null, .null, .null, .null, .null, .long 0, .int 0] bl4 (fun _ => rfl) ?_
  show Wk x 53 548 61 [(0, .ref 0)] [.ref 53, .ref 0] (SG [30, 16, 2]) 54 (opn (opn (opn (fun _ => none) 0 (some (.inl [.ref 1, .ref 15, .ref 29, .ref 43, .ref 44, .null, .null, .null, .int 0, .int 0, .int 0, .int 0, .int 0, .int 0]))) 43 (some (.inr (fE 0)))) (53) (some (.inl [.null, .null, .null, .null, .null, .null, .null, .null, .null, .null, .null, .null, .long 0, .int 0])))
  refine k_dup C 62 dX4_init_61 rfl rfl ?_
  refine k_callN C 65 (ct_X2 (a := 53) (F := (opn (opn (fun _ => none) 0 (some (.inl [.ref 1, .ref 15, .ref 29, .ref 43, .ref 44, .null, .null, .null, .int 0, .int 0, .int 0, .int 0, .int 0, .int 0]))) 43 (some (.inr (fE 0))))) (l := [30, 16, 2]) (by decide +kernel) rfl (fun j _ _ => ((opn_ne (by omega)).trans (opn_ne (by omega)))) (by decide)) dX4_init_62 rfl rfl nbd_272 wq_274 wq_273 wq_93 ⟨by decide, by decide, by decide +kernel⟩ (by rw [hR]; exact ⟨Nat.le_of_ble_eq_true rfl, Nat.le_of_ble_eq_true rfl⟩) (Nat.le_of_ble_eq_true rfl) (by rw [hR]; exact Nat.le_of_ble_eq_true rfl) (by rw [hR]; exact Nat.le_of_ble_eq_true rfl) ?_
  show Wk x 65 668 65 [(0, .ref 0)] [.ref 53, .ref 0] (SG [30, 16, 2]) 66 (opn (opn (fun _ => none) 0 (some (.inl [.ref 1, .ref 15, .ref 29, .ref 43, .ref 44, .null, .null, .null, .int 0, .int 0, .int 0, .int 0, .int 0, .int 0]))) 43 (some (.inr (fE 0))))
  refine k_putT (k := 5) (fs' := [.ref 1, .ref 15, .ref 29, .ref 43, .ref 44, .ref 53, .null, .null, .int 0, .int 0, .int 0, .int 0, .int 0, .int 0]) C hin cl6 68 dX4_init_65 rfl kd_0 (by decide) (by decide) (by decide) rfl (by decide) wq_363 rfl (fun _ => rfl) (fun _ => rfl) rfl ?_
  show Wk x 65 668 68 [(0, .ref 0)] [] (SG [30, 16, 2]) 66 (opn (opn (fun _ => none) 0 (some (.inl [.ref 1, .ref 15, .ref 29, .ref 43, .ref 44, .ref 53, .null, .null, .int 0, .int 0, .int 0, .int 0, .int 0, .int 0]))) 43 (some (.inr (fE 0))))
  refine k_aload_n C 69 (j := 0) dX4_init_68 rfl rfl ?_
  refine k_new C cl4 72 dX4_init_69 rfl kd_66 wq_270 wq_271 wq_93 (by rw [hR]; exact Nat.le_of_ble_eq_true rfl) (by rw [hR]; exact Nat.le_of_ble_eq_true rfl) [.null, .null, .null, .null, .null, .null, .null, .null, .null, .null, .null, .null, .long 0, .int 0] bl4 (fun _ => rfl) ?_
  show Wk x 66 682 72 [(0, .ref 0)] [.ref 66, .ref 0] (SG [30, 16, 2]) 67 (opn (opn (opn (fun _ => none) 0 (some (.inl [.ref 1, .ref 15, .ref 29, .ref 43, .ref 44, .ref 53, .null, .null, .int 0, .int 0, .int 0, .int 0, .int 0, .int 0]))) 43 (some (.inr (fE 0)))) (66) (some (.inl [.null, .null, .null, .null, .null, .null, .null, .null, .null, .null, .null, .null, .long 0, .int 0])))
  refine k_dup C 73 dX4_init_72 rfl rfl ?_
  refine k_callN C 76 (ct_X2 (a := 66) (F := (opn (opn (fun _ => none) 0 (some (.inl [.ref 1, .ref 15, .ref 29, .ref 43, .ref 44, .ref 53, .null, .null, .int 0, .int 0, .int 0, .int 0, .int 0, .int 0]))) 43 (some (.inr (fE 0))))) (l := [30, 16, 2]) (by decide +kernel) rfl (fun j _ _ => ((opn_ne (by omega)).trans (opn_ne (by omega)))) (by decide)) dX4_init_73 rfl rfl nbd_272 wq_274 wq_273 wq_93 ⟨by decide, by decide, by decide +kernel⟩ (by rw [hR]; exact ⟨Nat.le_of_ble_eq_true rfl, Nat.le_of_ble_eq_true rfl⟩) (Nat.le_of_ble_eq_true rfl) (by rw [hR]; exact Nat.le_of_ble_eq_true rfl) (by rw [hR]; exact Nat.le_of_ble_eq_true rfl) ?_
  show Wk x 78 802 76 [(0, .ref 0)] [.ref 66, .ref 0] (SG [30, 16, 2]) 79 (opn (opn (fun _ => none) 0 (some (.inl [.ref 1, .ref 15, .ref 29, .ref 43, .ref 44, .ref 53, .null, .null, .int 0, .int 0, .int 0, .int 0, .int 0, .int 0]))) 43 (some (.inr (fE 0))))
  refine k_putT (k := 6) (fs' := [.ref 1, .ref 15, .ref 29, .ref 43, .ref 44, .ref 53, .ref 66, .null, .int 0, .int 0, .int 0, .int 0, .int 0, .int 0]) C hin cl6 79 dX4_init_76 rfl kd_0 (by decide) (by decide) (by decide) rfl (by decide) wq_364 rfl (fun _ => rfl) (fun _ => rfl) rfl ?_
  show Wk x 78 802 79 [(0, .ref 0)] [] (SG [30, 16, 2]) 79 (opn (opn (fun _ => none) 0 (some (.inl [.ref 1, .ref 15, .ref 29, .ref 43, .ref 44, .ref 53, .ref 66, .null, .int 0, .int 0, .int 0, .int 0, .int 0, .int 0]))) 43 (some (.inr (fE 0))))
  refine k_aload_n C 80 (j := 0) dX4_init_79 rfl rfl ?_
  refine k_new C cl5 83 dX4_init_80 rfl kd_79 wq_328 wq_329 wq_94 (by rw [hR]; exact Nat.le_of_ble_eq_true rfl) (by rw [hR]; exact Nat.le_of_ble_eq_true rfl) [.null, .int 0, .int 0, .int 0, .null, .null] bl5 (fun _ => rfl) ?_
  show Wk x 79 808 83 [(0, .ref 0)] [.ref 79, .ref 0] (SG [30, 16, 2]) 80 (opn (opn (opn (fun _ => none) 0 (some (.inl [.ref 1, .ref 15, .ref 29, .ref 43, .ref 44, .ref 53, .ref 66, .null, .int 0, .int 0, .int 0, .int 0, .int 0, .int 0]))) 43 (some (.inr (fE 0)))) (79) (some (.inl [.null, .int 0, .int 0, .int 0, .null, .null])))
  refine k_dup C 84 dX4_init_83 rfl rfl ?_
  refine k_callN C 87 (ct_X3 (F := (opn (opn (fun _ => none) 0 (some (.inl [.ref 1, .ref 15, .ref 29, .ref 43, .ref 44, .ref 53, .ref 66, .null, .int 0, .int 0, .int 0, .int 0, .int 0, .int 0]))) 43 (some (.inr (fE 0))))) (l := [30, 16, 2]) (by decide +kernel) rfl (fun j _ _ => ((opn_ne (by omega)).trans (opn_ne (by omega)))) (by decide)) dX4_init_84 rfl rfl nbd_330 wq_332 wq_331 wq_94 ⟨by decide, by decide, by decide +kernel⟩ (by rw [hR]; exact ⟨Nat.le_of_ble_eq_true rfl, Nat.le_of_ble_eq_true rfl⟩) (Nat.le_of_ble_eq_true rfl) (by rw [hR]; exact Nat.le_of_ble_eq_true rfl) (by rw [hR]; exact Nat.le_of_ble_eq_true rfl) ?_
  show Wk x 82 968 87 [(0, .ref 0)] [.ref 79, .ref 0] (SG [30, 16, 2]) 83 (opn (opn (fun _ => none) 0 (some (.inl [.ref 1, .ref 15, .ref 29, .ref 43, .ref 44, .ref 53, .ref 66, .null, .int 0, .int 0, .int 0, .int 0, .int 0, .int 0]))) 43 (some (.inr (fE 0))))
  refine k_putT (k := 7) (fs' := [.ref 1, .ref 15, .ref 29, .ref 43, .ref 44, .ref 53, .ref 66, .ref 79, .int 0, .int 0, .int 0, .int 0, .int 0, .int 0]) C hin cl6 90 dX4_init_87 rfl kd_0 (by decide) (by decide) (by decide) rfl (by decide) wq_365 rfl (fun _ => rfl) (fun _ => rfl) rfl ?_
  show Wk x 82 968 90 [(0, .ref 0)] [] (SG [30, 16, 2]) 83 (opn (opn (fun _ => none) 0 (some (.inl [.ref 1, .ref 15, .ref 29, .ref 43, .ref 44, .ref 53, .ref 66, .ref 79, .int 0, .int 0, .int 0, .int 0, .int 0, .int 0]))) 43 (some (.inr (fE 0))))
  refine k_aload_n C 91 (j := 0) dX4_init_90 rfl rfl ?_
  refine k_iconst C 92 (v := 0) dX4_init_91 rfl (by decide) ?_
  refine k_putT (k := 8) (fs' := [.ref 1, .ref 15, .ref 29, .ref 43, .ref 44, .ref 53, .ref 66, .ref 79, .int 0, .int 0, .int 0, .int 0, .int 0, .int 0]) C hin cl6 95 dX4_init_92 rfl kd_0 (by decide) (by decide) (by decide) rfl (by decide) wq_366 rfl (fun _ => rfl) (fun _ => rfl) rfl ?_
  show Wk x 82 968 95 [(0, .ref 0)] [] (SG [30, 16, 2]) 83 (opn (opn (fun _ => none) 0 (some (.inl [.ref 1, .ref 15, .ref 29, .ref 43, .ref 44, .ref 53, .ref 66, .ref 79, .int 0, .int 0, .int 0, .int 0, .int 0, .int 0]))) 43 (some (.inr (fE 0))))
  refine k_aload_n C 96 (j := 0) dX4_init_95 rfl rfl ?_
  refine k_iconst C 97 (v := 0) dX4_init_96 rfl (by decide) ?_
  refine k_putT (k := 9) (fs' := [.ref 1, .ref 15, .ref 29, .ref 43, .ref 44, .ref 53, .ref 66, .ref 79, .int 0, .int 0, .int 0, .int 0, .int 0, .int 0]) C hin cl6 100 dX4_init_97 rfl kd_0 (by decide) (by decide) (by decide) rfl (by decide) wq_367 rfl (fun _ => rfl) (fun _ => rfl) rfl ?_
  show Wk x 82 968 100 [(0, .ref 0)] [] (SG [30, 16, 2]) 83 (opn (opn (fun _ => none) 0 (some (.inl [.ref 1, .ref 15, .ref 29, .ref 43, .ref 44, .ref 53, .ref 66, .ref 79, .int 0, .int 0, .int 0, .int 0, .int 0, .int 0]))) 43 (some (.inr (fE 0))))
  refine k_aload_n C 101 (j := 0) dX4_init_100 rfl rfl ?_
  refine k_iconst C 102 (v := 0) dX4_init_101 rfl (by decide) ?_
  refine k_putT (k := 10) (fs' := [.ref 1, .ref 15, .ref 29, .ref 43, .ref 44, .ref 53, .ref 66, .ref 79, .int 0, .int 0, .int 0, .int 0, .int 0, .int 0]) C hin cl6 105 dX4_init_102 rfl kd_0 (by decide) (by decide) (by decide) rfl (by decide) wq_368 rfl (fun _ => rfl) (fun _ => rfl) rfl ?_
  show Wk x 82 968 105 [(0, .ref 0)] [] (SG [30, 16, 2]) 83 (opn (opn (fun _ => none) 0 (some (.inl [.ref 1, .ref 15, .ref 29, .ref 43, .ref 44, .ref 53, .ref 66, .ref 79, .int 0, .int 0, .int 0, .int 0, .int 0, .int 0]))) 43 (some (.inr (fE 0))))
  refine k_aload_n C 106 (j := 0) dX4_init_105 rfl rfl ?_
  refine k_iconst C 107 (v := 0) dX4_init_106 rfl (by decide) ?_
  refine k_putT (k := 11) (fs' := [.ref 1, .ref 15, .ref 29, .ref 43, .ref 44, .ref 53, .ref 66, .ref 79, .int 0, .int 0, .int 0, .int 0, .int 0, .int 0]) C hin cl6 110 dX4_init_107 rfl kd_0 (by decide) (by decide) (by decide) rfl (by decide) wq_369 rfl (fun _ => rfl) (fun _ => rfl) rfl ?_
  show Wk x 82 968 110 [(0, .ref 0)] [] (SG [30, 16, 2]) 83 (opn (opn (fun _ => none) 0 (some (.inl [.ref 1, .ref 15, .ref 29, .ref 43, .ref 44, .ref 53, .ref 66, .ref 79, .int 0, .int 0, .int 0, .int 0, .int 0, .int 0]))) 43 (some (.inr (fE 0))))
  refine k_aload_n C 111 (j := 0) dX4_init_110 rfl rfl ?_
  refine k_iconst C 112 (v := -1) dX4_init_111 rfl (by decide) ?_
  refine k_putT (k := 12) (fs' := [.ref 1, .ref 15, .ref 29, .ref 43, .ref 44, .ref 53, .ref 66, .ref 79, .int 0, .int 0, .int 0, .int 0, .int (-1), .int 0]) C hin cl6 115 dX4_init_112 rfl kd_0 (by decide) (by decide) (by decide) rfl (by decide) wq_370 rfl (fun _ => rfl) (fun _ => rfl) rfl ?_
  show Wk x 82 968 115 [(0, .ref 0)] [] (SG [30, 16, 2]) 83 (opn (opn (fun _ => none) 0 (some (.inl [.ref 1, .ref 15, .ref 29, .ref 43, .ref 44, .ref 53, .ref 66, .ref 79, .int 0, .int 0, .int 0, .int 0, .int (-1), .int 0]))) 43 (some (.inr (fE 0))))
  refine k_aload_n C 116 (j := 0) dX4_init_115 rfl rfl ?_
  refine k_iconst C 117 (v := 0) dX4_init_116 rfl (by decide) ?_
  refine k_putT (k := 13) (fs' := [.ref 1, .ref 15, .ref 29, .ref 43, .ref 44, .ref 53, .ref 66, .ref 79, .int 0, .int 0, .int 0, .int 0, .int (-1), .int 0]) C hin cl6 120 dX4_init_117 rfl kd_0 (by decide) (by decide) (by decide) rfl (by decide) wq_371 rfl (fun _ => rfl) (fun _ => rfl) rfl ?_
  show Wk x 82 968 120 [(0, .ref 0)] [] (SG [30, 16, 2]) 83 (opn (opn (fun _ => none) 0 (some (.inl [.ref 1, .ref 15, .ref 29, .ref 43, .ref 44, .ref 53, .ref 66, .ref 79, .int 0, .int 0, .int 0, .int 0, .int (-1), .int 0]))) 43 (some (.inr (fE 0))))
  refine k_iconst C 121 (v := 0) dX4_init_120 rfl (by decide) ?_
  refine k_istore_n C 122 [(1, .int 0), (0, .ref 0)] dX4_init_121 rfl (by decide) rfl ?_
  refine k_iload_n C 123 (j := 0) dX4_init_122 rfl rfl ?_
  refine k_aload_n C 124 (j := 1) dX4_init_123 rfl rfl ?_
  refine k_get (k := 3) (v := .ref 43) C cl6 127 dX4_init_124 rfl kd_0 (by decide) ((opn_ne (by decide)).trans opn_at) (by decide) wq_361 rfl ?_
  refine k_alen C 128 dX4_init_127 rfl (by decide) opn_at ?_
  refine k_icmp_ge C 150 131 dX4_init_128 (by decide) rfl (fun h => absurd h (by decide)) (fun _ => ?_)
  show Wk x 82 968 131 [(1, .int 0), (0, .ref 0)] [] (SG [30, 16, 2]) 83 (opn (opn (fun _ => none) 0 (some (.inl [.ref 1, .ref 15, .ref 29, .ref 43, .ref 44, .ref 53, .ref 66, .ref 79, .int 0, .int 0, .int 0, .int 0, .int (-1), .int 0]))) 43 (some (.inr (fE 0))))
  refine k_aload_n C 132 (j := 1) dX4_init_131 rfl rfl ?_
  refine k_get (k := 3) (v := .ref 43) C cl6 135 dX4_init_132 rfl kd_0 (by decide) ((opn_ne (by decide)).trans opn_at) (by decide) wq_361 rfl ?_
  refine k_iload_n C 136 (j := 0) dX4_init_135 rfl rfl ?_
  refine k_new C cl2 139 dX4_init_136 rfl kd_83 wq_119 wq_120 wq_91 (by rw [hR]; exact Nat.le_of_ble_eq_true rfl) (by rw [hR]; exact Nat.le_of_ble_eq_true rfl) [.null, .int 0, .null, .null, .null, .null, .null, .null, .null, .null, .null, .null, .null, .null, .long 0, .long 0, .long 0, .long 0] bl2 (fun _ => rfl) ?_
  show Wk x 83 986 139 [(1, .int 0), (0, .ref 0)] [.ref 83, .int 0, .ref 43] (SG [30, 16, 2]) 84 (opn (opn (opn (fun _ => none) 0 (some (.inl [.ref 1, .ref 15, .ref 29, .ref 43, .ref 44, .ref 53, .ref 66, .ref 79, .int 0, .int 0, .int 0, .int 0, .int (-1), .int 0]))) 43 (some (.inr (fE 0)))) (83) (some (.inl [.null, .int 0, .null, .null, .null, .null, .null, .null, .null, .null, .null, .null, .null, .null, .long 0, .long 0, .long 0, .long 0])))
  refine k_dup C 140 dX4_init_139 rfl rfl ?_
  refine k_callN C 143 (ct_X0 (a := 83) (F := (opn (opn (fun _ => none) 0 (some (.inl [.ref 1, .ref 15, .ref 29, .ref 43, .ref 44, .ref 53, .ref 66, .ref 79, .int 0, .int 0, .int 0, .int 0, .int (-1), .int 0]))) 43 (some (.inr (fE 0))))) (l := [30, 16, 2]) (by decide +kernel) rfl (fun j _ _ => ((opn_ne (by omega)).trans (opn_ne (by omega)))) (by decide)) dX4_init_140 rfl rfl nbd_121 wq_123 wq_122 wq_91 ⟨by decide, by decide, by decide +kernel⟩ (by rw [hR]; exact ⟨Nat.le_of_ble_eq_true rfl, Nat.le_of_ble_eq_true rfl⟩) (Nat.le_of_ble_eq_true rfl) (by rw [hR]; exact Nat.le_of_ble_eq_true rfl) (by rw [hR]; exact Nat.le_of_ble_eq_true rfl) ?_
  show Wk x 96 1113 143 [(1, .int 0), (0, .ref 0)] [.ref 83, .int 0, .ref 43] (SG [84, 30, 16, 2]) 97 (opn (opn (fun _ => none) 0 (some (.inl [.ref 1, .ref 15, .ref 29, .ref 43, .ref 44, .ref 53, .ref 66, .ref 79, .int 0, .int 0, .int 0, .int 0, .int (-1), .int 0]))) 43 (some (.inr (fE 0))))
  refine k_aastE (n := 0) (n1 := 1) C 144 dX4_init_143 rfl (by decide) (by decide) (by decide) (by decide) rfl kd_83 (by decide) rfl (by decide) (by unfold vp_in; decide) ?_
  show Wk x 96 1113 144 [(1, .int 0), (0, .ref 0)] [] (SG [84, 30, 16, 2]) 97 (opn (opn (fun _ => none) 0 (some (.inl [.ref 1, .ref 15, .ref 29, .ref 43, .ref 44, .ref 53, .ref 66, .ref 79, .int 0, .int 0, .int 0, .int 0, .int (-1), .int 0]))) 43 (some (.inr (fE 1))))
  refine k_iinc C 147 [(1, .int 1), (0, .ref 0)] (j := 0) (w := 1) dX4_init_144 rfl rfl (by decide) (by decide) rfl ?_
  refine k_goto C 122 dX4_init_147 (by decide) ?_
  refine k_iload_n C 123 (j := 0) dX4_init_122 rfl rfl ?_
  refine k_aload_n C 124 (j := 1) dX4_init_123 rfl rfl ?_
  refine k_get (k := 3) (v := .ref 43) C cl6 127 dX4_init_124 rfl kd_0 (by decide) ((opn_ne (by decide)).trans opn_at) (by decide) wq_361 rfl ?_
  refine k_alen C 128 dX4_init_127 rfl (by decide) opn_at ?_
  refine k_icmp_ge C 150 131 dX4_init_128 (by decide) rfl (fun h => absurd h (by decide)) (fun _ => ?_)
  show Wk x 96 1113 131 [(1, .int 1), (0, .ref 0)] [] (SG [84, 30, 16, 2]) 97 (opn (opn (fun _ => none) 0 (some (.inl [.ref 1, .ref 15, .ref 29, .ref 43, .ref 44, .ref 53, .ref 66, .ref 79, .int 0, .int 0, .int 0, .int 0, .int (-1), .int 0]))) 43 (some (.inr (fE 1))))
  refine k_aload_n C 132 (j := 1) dX4_init_131 rfl rfl ?_
  refine k_get (k := 3) (v := .ref 43) C cl6 135 dX4_init_132 rfl kd_0 (by decide) ((opn_ne (by decide)).trans opn_at) (by decide) wq_361 rfl ?_
  refine k_iload_n C 136 (j := 0) dX4_init_135 rfl rfl ?_
  refine k_new C cl2 139 dX4_init_136 rfl kd_97 wq_119 wq_120 wq_91 (by rw [hR]; exact Nat.le_of_ble_eq_true rfl) (by rw [hR]; exact Nat.le_of_ble_eq_true rfl) [.null, .int 0, .null, .null, .null, .null, .null, .null, .null, .null, .null, .null, .null, .null, .long 0, .long 0, .long 0, .long 0] bl2 (fun _ => rfl) ?_
  show Wk x 97 1131 139 [(1, .int 1), (0, .ref 0)] [.ref 97, .int 1, .ref 43] (SG [84, 30, 16, 2]) 98 (opn (opn (opn (fun _ => none) 0 (some (.inl [.ref 1, .ref 15, .ref 29, .ref 43, .ref 44, .ref 53, .ref 66, .ref 79, .int 0, .int 0, .int 0, .int 0, .int (-1), .int 0]))) 43 (some (.inr (fE 1)))) (97) (some (.inl [.null, .int 0, .null, .null, .null, .null, .null, .null, .null, .null, .null, .null, .null, .null, .long 0, .long 0, .long 0, .long 0])))
  refine k_dup C 140 dX4_init_139 rfl rfl ?_
  refine k_callN C 143 (ct_X0 (a := 97) (F := (opn (opn (fun _ => none) 0 (some (.inl [.ref 1, .ref 15, .ref 29, .ref 43, .ref 44, .ref 53, .ref 66, .ref 79, .int 0, .int 0, .int 0, .int 0, .int (-1), .int 0]))) 43 (some (.inr (fE 1))))) (l := [84, 30, 16, 2]) (by decide +kernel) rfl (fun j _ _ => ((opn_ne (by omega)).trans (opn_ne (by omega)))) (by decide)) dX4_init_140 rfl rfl nbd_121 wq_123 wq_122 wq_91 ⟨by decide, by decide, by decide +kernel⟩ (by rw [hR]; exact ⟨Nat.le_of_ble_eq_true rfl, Nat.le_of_ble_eq_true rfl⟩) (Nat.le_of_ble_eq_true rfl) (by rw [hR]; exact Nat.le_of_ble_eq_true rfl) (by rw [hR]; exact Nat.le_of_ble_eq_true rfl) ?_
  show Wk x 110 1258 143 [(1, .int 1), (0, .ref 0)] [.ref 97, .int 1, .ref 43] (SG [98, 84, 30, 16, 2]) 111 (opn (opn (fun _ => none) 0 (some (.inl [.ref 1, .ref 15, .ref 29, .ref 43, .ref 44, .ref 53, .ref 66, .ref 79, .int 0, .int 0, .int 0, .int 0, .int (-1), .int 0]))) 43 (some (.inr (fE 1))))
  refine k_aastE (n := 1) (n1 := 2) C 144 dX4_init_143 rfl (by decide) (by decide) (by decide) (by decide) rfl kd_97 (by decide) rfl (by decide) (by unfold vp_in; decide) ?_
  show Wk x 110 1258 144 [(1, .int 1), (0, .ref 0)] [] (SG [98, 84, 30, 16, 2]) 111 (opn (opn (fun _ => none) 0 (some (.inl [.ref 1, .ref 15, .ref 29, .ref 43, .ref 44, .ref 53, .ref 66, .ref 79, .int 0, .int 0, .int 0, .int 0, .int (-1), .int 0]))) 43 (some (.inr (fE 2))))
  refine k_iinc C 147 [(1, .int 2), (0, .ref 0)] (j := 0) (w := 2) dX4_init_144 rfl rfl (by decide) (by decide) rfl ?_
  refine k_goto C 122 dX4_init_147 (by decide) ?_
  refine k_iload_n C 123 (j := 0) dX4_init_122 rfl rfl ?_
  refine k_aload_n C 124 (j := 1) dX4_init_123 rfl rfl ?_
  refine k_get (k := 3) (v := .ref 43) C cl6 127 dX4_init_124 rfl kd_0 (by decide) ((opn_ne (by decide)).trans opn_at) (by decide) wq_361 rfl ?_
  refine k_alen C 128 dX4_init_127 rfl (by decide) opn_at ?_
  refine k_icmp_ge C 150 131 dX4_init_128 (by decide) rfl (fun h => absurd h (by decide)) (fun _ => ?_)
  show Wk x 110 1258 131 [(1, .int 2), (0, .ref 0)] [] (SG [98, 84, 30, 16, 2]) 111 (opn (opn (fun _ => none) 0 (some (.inl [.ref 1, .ref 15, .ref 29, .ref 43, .ref 44, .ref 53, .ref 66, .ref 79, .int 0, .int 0, .int 0, .int 0, .int (-1), .int 0]))) 43 (some (.inr (fE 2))))
  refine k_aload_n C 132 (j := 1) dX4_init_131 rfl rfl ?_
  refine k_get (k := 3) (v := .ref 43) C cl6 135 dX4_init_132 rfl kd_0 (by decide) ((opn_ne (by decide)).trans opn_at) (by decide) wq_361 rfl ?_
  refine k_iload_n C 136 (j := 0) dX4_init_135 rfl rfl ?_
  refine k_new C cl2 139 dX4_init_136 rfl kd_111 wq_119 wq_120 wq_91 (by rw [hR]; exact Nat.le_of_ble_eq_true rfl) (by rw [hR]; exact Nat.le_of_ble_eq_true rfl) [.null, .int 0, .null, .null, .null, .null, .null, .null, .null, .null, .null, .null, .null, .null, .long 0, .long 0, .long 0, .long 0] bl2 (fun _ => rfl) ?_
  show Wk x 111 1276 139 [(1, .int 2), (0, .ref 0)] [.ref 111, .int 2, .ref 43] (SG [98, 84, 30, 16, 2]) 112 (opn (opn (opn (fun _ => none) 0 (some (.inl [.ref 1, .ref 15, .ref 29, .ref 43, .ref 44, .ref 53, .ref 66, .ref 79, .int 0, .int 0, .int 0, .int 0, .int (-1), .int 0]))) 43 (some (.inr (fE 2)))) (111) (some (.inl [.null, .int 0, .null, .null, .null, .null, .null, .null, .null, .null, .null, .null, .null, .null, .long 0, .long 0, .long 0, .long 0])))
  refine k_dup C 140 dX4_init_139 rfl rfl ?_
  refine k_callN C 143 (ct_X0 (a := 111) (F := (opn (opn (fun _ => none) 0 (some (.inl [.ref 1, .ref 15, .ref 29, .ref 43, .ref 44, .ref 53, .ref 66, .ref 79, .int 0, .int 0, .int 0, .int 0, .int (-1), .int 0]))) 43 (some (.inr (fE 2))))) (l := [98, 84, 30, 16, 2]) (by decide +kernel) rfl (fun j _ _ => ((opn_ne (by omega)).trans (opn_ne (by omega)))) (by decide)) dX4_init_140 rfl rfl nbd_121 wq_123 wq_122 wq_91 ⟨by decide, by decide, by decide +kernel⟩ (by rw [hR]; exact ⟨Nat.le_of_ble_eq_true rfl, Nat.le_of_ble_eq_true rfl⟩) (Nat.le_of_ble_eq_true rfl) (by rw [hR]; exact Nat.le_of_ble_eq_true rfl) (by rw [hR]; exact Nat.le_of_ble_eq_true rfl) ?_
  show Wk x 124 1403 143 [(1, .int 2), (0, .ref 0)] [.ref 111, .int 2, .ref 43] (SG [112, 98, 84, 30, 16, 2]) 125 (opn (opn (fun _ => none) 0 (some (.inl [.ref 1, .ref 15, .ref 29, .ref 43, .ref 44, .ref 53, .ref 66, .ref 79, .int 0, .int 0, .int 0, .int 0, .int (-1), .int 0]))) 43 (some (.inr (fE 2))))
  refine k_aastE (n := 2) (n1 := 3) C 144 dX4_init_143 rfl (by decide) (by decide) (by decide) (by decide) rfl kd_111 (by decide) rfl (by decide) (by unfold vp_in; decide) ?_
  show Wk x 124 1403 144 [(1, .int 2), (0, .ref 0)] [] (SG [112, 98, 84, 30, 16, 2]) 125 (opn (opn (fun _ => none) 0 (some (.inl [.ref 1, .ref 15, .ref 29, .ref 43, .ref 44, .ref 53, .ref 66, .ref 79, .int 0, .int 0, .int 0, .int 0, .int (-1), .int 0]))) 43 (some (.inr (fE 3))))
  refine k_iinc C 147 [(1, .int 3), (0, .ref 0)] (j := 0) (w := 3) dX4_init_144 rfl rfl (by decide) (by decide) rfl ?_
  refine k_goto C 122 dX4_init_147 (by decide) ?_
  refine k_iload_n C 123 (j := 0) dX4_init_122 rfl rfl ?_
  refine k_aload_n C 124 (j := 1) dX4_init_123 rfl rfl ?_
  refine k_get (k := 3) (v := .ref 43) C cl6 127 dX4_init_124 rfl kd_0 (by decide) ((opn_ne (by decide)).trans opn_at) (by decide) wq_361 rfl ?_
  refine k_alen C 128 dX4_init_127 rfl (by decide) opn_at ?_
  refine k_icmp_ge C 150 131 dX4_init_128 (by decide) rfl (fun h => absurd h (by decide)) (fun _ => ?_)
  show Wk x 124 1403 131 [(1, .int 3), (0, .ref 0)] [] (SG [112, 98, 84, 30, 16, 2]) 125 (opn (opn (fun _ => none) 0 (some (.inl [.ref 1, .ref 15, .ref 29, .ref 43, .ref 44, .ref 53, .ref 66, .ref 79, .int 0, .int 0, .int 0, .int 0, .int (-1), .int 0]))) 43 (some (.inr (fE 3))))
  refine k_aload_n C 132 (j := 1) dX4_init_131 rfl rfl ?_
  refine k_get (k := 3) (v := .ref 43) C cl6 135 dX4_init_132 rfl kd_0 (by decide) ((opn_ne (by decide)).trans opn_at) (by decide) wq_361 rfl ?_
  refine k_iload_n C 136 (j := 0) dX4_init_135 rfl rfl ?_
  refine k_new C cl2 139 dX4_init_136 rfl kd_125 wq_119 wq_120 wq_91 (by rw [hR]; exact Nat.le_of_ble_eq_true rfl) (by rw [hR]; exact Nat.le_of_ble_eq_true rfl) [.null, .int 0, .null, .null, .null, .null, .null, .null, .null, .null, .null, .null, .null, .null, .long 0, .long 0, .long 0, .long 0] bl2 (fun _ => rfl) ?_
  show Wk x 125 1421 139 [(1, .int 3), (0, .ref 0)] [.ref 125, .int 3, .ref 43] (SG [112, 98, 84, 30, 16, 2]) 126 (opn (opn (opn (fun _ => none) 0 (some (.inl [.ref 1, .ref 15, .ref 29, .ref 43, .ref 44, .ref 53, .ref 66, .ref 79, .int 0, .int 0, .int 0, .int 0, .int (-1), .int 0]))) 43 (some (.inr (fE 3)))) (125) (some (.inl [.null, .int 0, .null, .null, .null, .null, .null, .null, .null, .null, .null, .null, .null, .null, .long 0, .long 0, .long 0, .long 0])))
  refine k_dup C 140 dX4_init_139 rfl rfl ?_
  refine k_callN C 143 (ct_X0 (a := 125) (F := (opn (opn (fun _ => none) 0 (some (.inl [.ref 1, .ref 15, .ref 29, .ref 43, .ref 44, .ref 53, .ref 66, .ref 79, .int 0, .int 0, .int 0, .int 0, .int (-1), .int 0]))) 43 (some (.inr (fE 3))))) (l := [112, 98, 84, 30, 16, 2]) (by decide +kernel) rfl (fun j _ _ => ((opn_ne (by omega)).trans (opn_ne (by omega)))) (by decide)) dX4_init_140 rfl rfl nbd_121 wq_123 wq_122 wq_91 ⟨by decide, by decide, by decide +kernel⟩ (by rw [hR]; exact ⟨Nat.le_of_ble_eq_true rfl, Nat.le_of_ble_eq_true rfl⟩) (Nat.le_of_ble_eq_true rfl) (by rw [hR]; exact Nat.le_of_ble_eq_true rfl) (by rw [hR]; exact Nat.le_of_ble_eq_true rfl) ?_
  show Wk x 138 1548 143 [(1, .int 3), (0, .ref 0)] [.ref 125, .int 3, .ref 43] (SG [126, 112, 98, 84, 30, 16, 2]) 139 (opn (opn (fun _ => none) 0 (some (.inl [.ref 1, .ref 15, .ref 29, .ref 43, .ref 44, .ref 53, .ref 66, .ref 79, .int 0, .int 0, .int 0, .int 0, .int (-1), .int 0]))) 43 (some (.inr (fE 3))))
  refine k_aastE (n := 3) (n1 := 4) C 144 dX4_init_143 rfl (by decide) (by decide) (by decide) (by decide) rfl kd_125 (by decide) rfl (by decide) (by unfold vp_in; decide) ?_
  show Wk x 138 1548 144 [(1, .int 3), (0, .ref 0)] [] (SG [126, 112, 98, 84, 30, 16, 2]) 139 (opn (opn (fun _ => none) 0 (some (.inl [.ref 1, .ref 15, .ref 29, .ref 43, .ref 44, .ref 53, .ref 66, .ref 79, .int 0, .int 0, .int 0, .int 0, .int (-1), .int 0]))) 43 (some (.inr (fE 4))))
  refine k_iinc C 147 [(1, .int 4), (0, .ref 0)] (j := 0) (w := 4) dX4_init_144 rfl rfl (by decide) (by decide) rfl ?_
  refine k_goto C 122 dX4_init_147 (by decide) ?_
  refine k_iload_n C 123 (j := 0) dX4_init_122 rfl rfl ?_
  refine k_aload_n C 124 (j := 1) dX4_init_123 rfl rfl ?_
  refine k_get (k := 3) (v := .ref 43) C cl6 127 dX4_init_124 rfl kd_0 (by decide) ((opn_ne (by decide)).trans opn_at) (by decide) wq_361 rfl ?_
  refine k_alen C 128 dX4_init_127 rfl (by decide) opn_at ?_
  refine k_icmp_ge C 150 131 dX4_init_128 (by decide) rfl (fun h => absurd h (by decide)) (fun _ => ?_)
  show Wk x 138 1548 131 [(1, .int 4), (0, .ref 0)] [] (SG [126, 112, 98, 84, 30, 16, 2]) 139 (opn (opn (fun _ => none) 0 (some (.inl [.ref 1, .ref 15, .ref 29, .ref 43, .ref 44, .ref 53, .ref 66, .ref 79, .int 0, .int 0, .int 0, .int 0, .int (-1), .int 0]))) 43 (some (.inr (fE 4))))
  refine k_aload_n C 132 (j := 1) dX4_init_131 rfl rfl ?_
  refine k_get (k := 3) (v := .ref 43) C cl6 135 dX4_init_132 rfl kd_0 (by decide) ((opn_ne (by decide)).trans opn_at) (by decide) wq_361 rfl ?_
  refine k_iload_n C 136 (j := 0) dX4_init_135 rfl rfl ?_
  refine k_new C cl2 139 dX4_init_136 rfl kd_139 wq_119 wq_120 wq_91 (by rw [hR]; exact Nat.le_of_ble_eq_true rfl) (by rw [hR]; exact Nat.le_of_ble_eq_true rfl) [.null, .int 0, .null, .null, .null, .null, .null, .null, .null, .null, .null, .null, .null, .null, .long 0, .long 0, .long 0, .long 0] bl2 (fun _ => rfl) ?_
  show Wk x 139 1566 139 [(1, .int 4), (0, .ref 0)] [.ref 139, .int 4, .ref 43] (SG [126, 112, 98, 84, 30, 16, 2]) 140 (opn (opn (opn (fun _ => none) 0 (some (.inl [.ref 1, .ref 15, .ref 29, .ref 43, .ref 44, .ref 53, .ref 66, .ref 79, .int 0, .int 0, .int 0, .int 0, .int (-1), .int 0]))) 43 (some (.inr (fE 4)))) (139) (some (.inl [.null, .int 0, .null, .null, .null, .null, .null, .null, .null, .null, .null, .null, .null, .null, .long 0, .long 0, .long 0, .long 0])))
  refine k_dup C 140 dX4_init_139 rfl rfl ?_
  refine k_callN C 143 (ct_X0 (a := 139) (F := (opn (opn (fun _ => none) 0 (some (.inl [.ref 1, .ref 15, .ref 29, .ref 43, .ref 44, .ref 53, .ref 66, .ref 79, .int 0, .int 0, .int 0, .int 0, .int (-1), .int 0]))) 43 (some (.inr (fE 4))))) (l := [126, 112, 98, 84, 30, 16, 2]) (by decide +kernel) rfl (fun j _ _ => ((opn_ne (by omega)).trans (opn_ne (by omega)))) (by decide)) dX4_init_140 rfl rfl nbd_121 wq_123 wq_122 wq_91 ⟨by decide, by decide, by decide +kernel⟩ (by rw [hR]; exact ⟨Nat.le_of_ble_eq_true rfl, Nat.le_of_ble_eq_true rfl⟩) (Nat.le_of_ble_eq_true rfl) (by rw [hR]; exact Nat.le_of_ble_eq_true rfl) (by rw [hR]; exact Nat.le_of_ble_eq_true rfl) ?_
  show Wk x 152 1693 143 [(1, .int 4), (0, .ref 0)] [.ref 139, .int 4, .ref 43] (SG [140, 126, 112, 98, 84, 30, 16, 2]) 153 (opn (opn (fun _ => none) 0 (some (.inl [.ref 1, .ref 15, .ref 29, .ref 43, .ref 44, .ref 53, .ref 66, .ref 79, .int 0, .int 0, .int 0, .int 0, .int (-1), .int 0]))) 43 (some (.inr (fE 4))))
  refine k_aastE (n := 4) (n1 := 5) C 144 dX4_init_143 rfl (by decide) (by decide) (by decide) (by decide) rfl kd_139 (by decide) rfl (by decide) (by unfold vp_in; decide) ?_
  show Wk x 152 1693 144 [(1, .int 4), (0, .ref 0)] [] (SG [140, 126, 112, 98, 84, 30, 16, 2]) 153 (opn (opn (fun _ => none) 0 (some (.inl [.ref 1, .ref 15, .ref 29, .ref 43, .ref 44, .ref 53, .ref 66, .ref 79, .int 0, .int 0, .int 0, .int 0, .int (-1), .int 0]))) 43 (some (.inr (fE 5))))
  refine k_iinc C 147 [(1, .int 5), (0, .ref 0)] (j := 0) (w := 5) dX4_init_144 rfl rfl (by decide) (by decide) rfl ?_
  refine k_goto C 122 dX4_init_147 (by decide) ?_
  refine k_iload_n C 123 (j := 0) dX4_init_122 rfl rfl ?_
  refine k_aload_n C 124 (j := 1) dX4_init_123 rfl rfl ?_
  refine k_get (k := 3) (v := .ref 43) C cl6 127 dX4_init_124 rfl kd_0 (by decide) ((opn_ne (by decide)).trans opn_at) (by decide) wq_361 rfl ?_
  refine k_alen C 128 dX4_init_127 rfl (by decide) opn_at ?_
  refine k_icmp_ge C 150 131 dX4_init_128 (by decide) rfl (fun h => absurd h (by decide)) (fun _ => ?_)
  show Wk x 152 1693 131 [(1, .int 5), (0, .ref 0)] [] (SG [140, 126, 112, 98, 84, 30, 16, 2]) 153 (opn (opn (fun _ => none) 0 (some (.inl [.ref 1, .ref 15, .ref 29, .ref 43, .ref 44, .ref 53, .ref 66, .ref 79, .int 0, .int 0, .int 0, .int 0, .int (-1), .int 0]))) 43 (some (.inr (fE 5))))
  refine k_aload_n C 132 (j := 1) dX4_init_131 rfl rfl ?_
  refine k_get (k := 3) (v := .ref 43) C cl6 135 dX4_init_132 rfl kd_0 (by decide) ((opn_ne (by decide)).trans opn_at) (by decide) wq_361 rfl ?_
  refine k_iload_n C 136 (j := 0) dX4_init_135 rfl rfl ?_
  refine k_new C cl2 139 dX4_init_136 rfl kd_153 wq_119 wq_120 wq_91 (by rw [hR]; exact Nat.le_of_ble_eq_true rfl) (by rw [hR]; exact Nat.le_of_ble_eq_true rfl) [.null, .int 0, .null, .null, .null, .null, .null, .null, .null, .null, .null, .null, .null, .null, .long 0, .long 0, .long 0, .long 0] bl2 (fun _ => rfl) ?_
  show Wk x 153 1711 139 [(1, .int 5), (0, .ref 0)] [.ref 153, .int 5, .ref 43] (SG [140, 126, 112, 98, 84, 30, 16, 2]) 154 (opn (opn (opn (fun _ => none) 0 (some (.inl [.ref 1, .ref 15, .ref 29, .ref 43, .ref 44, .ref 53, .ref 66, .ref 79, .int 0, .int 0, .int 0, .int 0, .int (-1), .int 0]))) 43 (some (.inr (fE 5)))) (153) (some (.inl [.null, .int 0, .null, .null, .null, .null, .null, .null, .null, .null, .null, .null, .null, .null, .long 0, .long 0, .long 0, .long 0])))
  refine k_dup C 140 dX4_init_139 rfl rfl ?_
  refine k_callN C 143 (ct_X0 (a := 153) (F := (opn (opn (fun _ => none) 0 (some (.inl [.ref 1, .ref 15, .ref 29, .ref 43, .ref 44, .ref 53, .ref 66, .ref 79, .int 0, .int 0, .int 0, .int 0, .int (-1), .int 0]))) 43 (some (.inr (fE 5))))) (l := [140, 126, 112, 98, 84, 30, 16, 2]) (by decide +kernel) rfl (fun j _ _ => ((opn_ne (by omega)).trans (opn_ne (by omega)))) (by decide)) dX4_init_140 rfl rfl nbd_121 wq_123 wq_122 wq_91 ⟨by decide, by decide, by decide +kernel⟩ (by rw [hR]; exact ⟨Nat.le_of_ble_eq_true rfl, Nat.le_of_ble_eq_true rfl⟩) (Nat.le_of_ble_eq_true rfl) (by rw [hR]; exact Nat.le_of_ble_eq_true rfl) (by rw [hR]; exact Nat.le_of_ble_eq_true rfl) ?_
  show Wk x 166 1838 143 [(1, .int 5), (0, .ref 0)] [.ref 153, .int 5, .ref 43] (SG [154, 140, 126, 112, 98, 84, 30, 16, 2]) 167 (opn (opn (fun _ => none) 0 (some (.inl [.ref 1, .ref 15, .ref 29, .ref 43, .ref 44, .ref 53, .ref 66, .ref 79, .int 0, .int 0, .int 0, .int 0, .int (-1), .int 0]))) 43 (some (.inr (fE 5))))
  refine k_aastE (n := 5) (n1 := 6) C 144 dX4_init_143 rfl (by decide) (by decide) (by decide) (by decide) rfl kd_153 (by decide) rfl (by decide) (by unfold vp_in; decide) ?_
  show Wk x 166 1838 144 [(1, .int 5), (0, .ref 0)] [] (SG [154, 140, 126, 112, 98, 84, 30, 16, 2]) 167 (opn (opn (fun _ => none) 0 (some (.inl [.ref 1, .ref 15, .ref 29, .ref 43, .ref 44, .ref 53, .ref 66, .ref 79, .int 0, .int 0, .int 0, .int 0, .int (-1), .int 0]))) 43 (some (.inr (fE 6))))
  refine k_iinc C 147 [(1, .int 6), (0, .ref 0)] (j := 0) (w := 6) dX4_init_144 rfl rfl (by decide) (by decide) rfl ?_
  refine k_goto C 122 dX4_init_147 (by decide) ?_
  refine k_iload_n C 123 (j := 0) dX4_init_122 rfl rfl ?_
  refine k_aload_n C 124 (j := 1) dX4_init_123 rfl rfl ?_
  refine k_get (k := 3) (v := .ref 43) C cl6 127 dX4_init_124 rfl kd_0 (by decide) ((opn_ne (by decide)).trans opn_at) (by decide) wq_361 rfl ?_
  refine k_alen C 128 dX4_init_127 rfl (by decide) opn_at ?_
  refine k_icmp_ge C 150 131 dX4_init_128 (by decide) rfl (fun h => absurd h (by decide)) (fun _ => ?_)
  show Wk x 166 1838 131 [(1, .int 6), (0, .ref 0)] [] (SG [154, 140, 126, 112, 98, 84, 30, 16, 2]) 167 (opn (opn (fun _ => none) 0 (some (.inl [.ref 1, .ref 15, .ref 29, .ref 43, .ref 44, .ref 53, .ref 66, .ref 79, .int 0, .int 0, .int 0, .int 0, .int (-1), .int 0]))) 43 (some (.inr (fE 6))))
  refine k_aload_n C 132 (j := 1) dX4_init_131 rfl rfl ?_
  refine k_get (k := 3) (v := .ref 43) C cl6 135 dX4_init_132 rfl kd_0 (by decide) ((opn_ne (by decide)).trans opn_at) (by decide) wq_361 rfl ?_
  refine k_iload_n C 136 (j := 0) dX4_init_135 rfl rfl ?_
  refine k_new C cl2 139 dX4_init_136 rfl kd_167 wq_119 wq_120 wq_91 (by rw [hR]; exact Nat.le_of_ble_eq_true rfl) (by rw [hR]; exact Nat.le_of_ble_eq_true rfl) [.null, .int 0, .null, .null, .null, .null, .null, .null, .null, .null, .null, .null, .null, .null, .long 0, .long 0, .long 0, .long 0] bl2 (fun _ => rfl) ?_
  show Wk x 167 1856 139 [(1, .int 6), (0, .ref 0)] [.ref 167, .int 6, .ref 43] (SG [154, 140, 126, 112, 98, 84, 30, 16, 2]) 168 (opn (opn (opn (fun _ => none) 0 (some (.inl [.ref 1, .ref 15, .ref 29, .ref 43, .ref 44, .ref 53, .ref 66, .ref 79, .int 0, .int 0, .int 0, .int 0, .int (-1), .int 0]))) 43 (some (.inr (fE 6)))) (167) (some (.inl [.null, .int 0, .null, .null, .null, .null, .null, .null, .null, .null, .null, .null, .null, .null, .long 0, .long 0, .long 0, .long 0])))
  refine k_dup C 140 dX4_init_139 rfl rfl ?_
  refine k_callN C 143 (ct_X0 (a := 167) (F := (opn (opn (fun _ => none) 0 (some (.inl [.ref 1, .ref 15, .ref 29, .ref 43, .ref 44, .ref 53, .ref 66, .ref 79, .int 0, .int 0, .int 0, .int 0, .int (-1), .int 0]))) 43 (some (.inr (fE 6))))) (l := [154, 140, 126, 112, 98, 84, 30, 16, 2]) (by decide +kernel) rfl (fun j _ _ => ((opn_ne (by omega)).trans (opn_ne (by omega)))) (by decide)) dX4_init_140 rfl rfl nbd_121 wq_123 wq_122 wq_91 ⟨by decide, by decide, by decide +kernel⟩ (by rw [hR]; exact ⟨Nat.le_of_ble_eq_true rfl, Nat.le_of_ble_eq_true rfl⟩) (Nat.le_of_ble_eq_true rfl) (by rw [hR]; exact Nat.le_of_ble_eq_true rfl) (by rw [hR]; exact Nat.le_of_ble_eq_true rfl) ?_
  show Wk x 180 1983 143 [(1, .int 6), (0, .ref 0)] [.ref 167, .int 6, .ref 43] (SG [168, 154, 140, 126, 112, 98, 84, 30, 16, 2]) 181 (opn (opn (fun _ => none) 0 (some (.inl [.ref 1, .ref 15, .ref 29, .ref 43, .ref 44, .ref 53, .ref 66, .ref 79, .int 0, .int 0, .int 0, .int 0, .int (-1), .int 0]))) 43 (some (.inr (fE 6))))
  refine k_aastE (n := 6) (n1 := 7) C 144 dX4_init_143 rfl (by decide) (by decide) (by decide) (by decide) rfl kd_167 (by decide) rfl (by decide) (by unfold vp_in; decide) ?_
  show Wk x 180 1983 144 [(1, .int 6), (0, .ref 0)] [] (SG [168, 154, 140, 126, 112, 98, 84, 30, 16, 2]) 181 (opn (opn (fun _ => none) 0 (some (.inl [.ref 1, .ref 15, .ref 29, .ref 43, .ref 44, .ref 53, .ref 66, .ref 79, .int 0, .int 0, .int 0, .int 0, .int (-1), .int 0]))) 43 (some (.inr (fE 7))))
  refine k_iinc C 147 [(1, .int 7), (0, .ref 0)] (j := 0) (w := 7) dX4_init_144 rfl rfl (by decide) (by decide) rfl ?_
  refine k_goto C 122 dX4_init_147 (by decide) ?_
  refine k_iload_n C 123 (j := 0) dX4_init_122 rfl rfl ?_
  refine k_aload_n C 124 (j := 1) dX4_init_123 rfl rfl ?_
  refine k_get (k := 3) (v := .ref 43) C cl6 127 dX4_init_124 rfl kd_0 (by decide) ((opn_ne (by decide)).trans opn_at) (by decide) wq_361 rfl ?_
  refine k_alen C 128 dX4_init_127 rfl (by decide) opn_at ?_
  refine k_icmp_ge C 150 131 dX4_init_128 (by decide) rfl (fun h => absurd h (by decide)) (fun _ => ?_)
  show Wk x 180 1983 131 [(1, .int 7), (0, .ref 0)] [] (SG [168, 154, 140, 126, 112, 98, 84, 30, 16, 2]) 181 (opn (opn (fun _ => none) 0 (some (.inl [.ref 1, .ref 15, .ref 29, .ref 43, .ref 44, .ref 53, .ref 66, .ref 79, .int 0, .int 0, .int 0, .int 0, .int (-1), .int 0]))) 43 (some (.inr (fE 7))))
  refine k_aload_n C 132 (j := 1) dX4_init_131 rfl rfl ?_
  refine k_get (k := 3) (v := .ref 43) C cl6 135 dX4_init_132 rfl kd_0 (by decide) ((opn_ne (by decide)).trans opn_at) (by decide) wq_361 rfl ?_
  refine k_iload_n C 136 (j := 0) dX4_init_135 rfl rfl ?_
  refine k_new C cl2 139 dX4_init_136 rfl kd_181 wq_119 wq_120 wq_91 (by rw [hR]; exact Nat.le_of_ble_eq_true rfl) (by rw [hR]; exact Nat.le_of_ble_eq_true rfl) [.null, .int 0, .null, .null, .null, .null, .null, .null, .null, .null, .null, .null, .null, .null, .long 0, .long 0, .long 0, .long 0] bl2 (fun _ => rfl) ?_
  show Wk x 181 2001 139 [(1, .int 7), (0, .ref 0)] [.ref 181, .int 7, .ref 43] (SG [168, 154, 140, 126, 112, 98, 84, 30, 16, 2]) 182 (opn (opn (opn (fun _ => none) 0 (some (.inl [.ref 1, .ref 15, .ref 29, .ref 43, .ref 44, .ref 53, .ref 66, .ref 79, .int 0, .int 0, .int 0, .int 0, .int (-1), .int 0]))) 43 (some (.inr (fE 7)))) (181) (some (.inl [.null, .int 0, .null, .null, .null, .null, .null, .null, .null, .null, .null, .null, .null, .null, .long 0, .long 0, .long 0, .long 0])))
  refine k_dup C 140 dX4_init_139 rfl rfl ?_
  refine k_callN C 143 (ct_X0 (a := 181) (F := (opn (opn (fun _ => none) 0 (some (.inl [.ref 1, .ref 15, .ref 29, .ref 43, .ref 44, .ref 53, .ref 66, .ref 79, .int 0, .int 0, .int 0, .int 0, .int (-1), .int 0]))) 43 (some (.inr (fE 7))))) (l := [168, 154, 140, 126, 112, 98, 84, 30, 16, 2]) (by decide +kernel) rfl (fun j _ _ => ((opn_ne (by omega)).trans (opn_ne (by omega)))) (by decide)) dX4_init_140 rfl rfl nbd_121 wq_123 wq_122 wq_91 ⟨by decide, by decide, by decide +kernel⟩ (by rw [hR]; exact ⟨Nat.le_of_ble_eq_true rfl, Nat.le_of_ble_eq_true rfl⟩) (Nat.le_of_ble_eq_true rfl) (by rw [hR]; exact Nat.le_of_ble_eq_true rfl) (by rw [hR]; exact Nat.le_of_ble_eq_true rfl) ?_
  show Wk x 194 2128 143 [(1, .int 7), (0, .ref 0)] [.ref 181, .int 7, .ref 43] (SG [182, 168, 154, 140, 126, 112, 98, 84, 30, 16, 2]) 195 (opn (opn (fun _ => none) 0 (some (.inl [.ref 1, .ref 15, .ref 29, .ref 43, .ref 44, .ref 53, .ref 66, .ref 79, .int 0, .int 0, .int 0, .int 0, .int (-1), .int 0]))) 43 (some (.inr (fE 7))))
  refine k_aastE (n := 7) (n1 := 8) C 144 dX4_init_143 rfl (by decide) (by decide) (by decide) (by decide) rfl kd_181 (by decide) rfl (by decide) (by unfold vp_in; decide) ?_
  show Wk x 194 2128 144 [(1, .int 7), (0, .ref 0)] [] (SG [182, 168, 154, 140, 126, 112, 98, 84, 30, 16, 2]) 195 (opn (opn (fun _ => none) 0 (some (.inl [.ref 1, .ref 15, .ref 29, .ref 43, .ref 44, .ref 53, .ref 66, .ref 79, .int 0, .int 0, .int 0, .int 0, .int (-1), .int 0]))) 43 (some (.inr (fE 8))))
  refine k_iinc C 147 [(1, .int 8), (0, .ref 0)] (j := 0) (w := 8) dX4_init_144 rfl rfl (by decide) (by decide) rfl ?_
  refine k_goto C 122 dX4_init_147 (by decide) ?_
  refine k_iload_n C 123 (j := 0) dX4_init_122 rfl rfl ?_
  refine k_aload_n C 124 (j := 1) dX4_init_123 rfl rfl ?_
  refine k_get (k := 3) (v := .ref 43) C cl6 127 dX4_init_124 rfl kd_0 (by decide) ((opn_ne (by decide)).trans opn_at) (by decide) wq_361 rfl ?_
  refine k_alen C 128 dX4_init_127 rfl (by decide) opn_at ?_
  refine k_icmp_ge C 150 131 dX4_init_128 (by decide) rfl (fun h => absurd h (by decide)) (fun _ => ?_)
  show Wk x 194 2128 131 [(1, .int 8), (0, .ref 0)] [] (SG [182, 168, 154, 140, 126, 112, 98, 84, 30, 16, 2]) 195 (opn (opn (fun _ => none) 0 (some (.inl [.ref 1, .ref 15, .ref 29, .ref 43, .ref 44, .ref 53, .ref 66, .ref 79, .int 0, .int 0, .int 0, .int 0, .int (-1), .int 0]))) 43 (some (.inr (fE 8))))
  refine k_aload_n C 132 (j := 1) dX4_init_131 rfl rfl ?_
  refine k_get (k := 3) (v := .ref 43) C cl6 135 dX4_init_132 rfl kd_0 (by decide) ((opn_ne (by decide)).trans opn_at) (by decide) wq_361 rfl ?_
  refine k_iload_n C 136 (j := 0) dX4_init_135 rfl rfl ?_
  refine k_new C cl2 139 dX4_init_136 rfl kd_195 wq_119 wq_120 wq_91 (by rw [hR]; exact Nat.le_of_ble_eq_true rfl) (by rw [hR]; exact Nat.le_of_ble_eq_true rfl) [.null, .int 0, .null, .null, .null, .null, .null, .null, .null, .null, .null, .null, .null, .null, .long 0, .long 0, .long 0, .long 0] bl2 (fun _ => rfl) ?_
  show Wk x 195 2146 139 [(1, .int 8), (0, .ref 0)] [.ref 195, .int 8, .ref 43] (SG [182, 168, 154, 140, 126, 112, 98, 84, 30, 16, 2]) 196 (opn (opn (opn (fun _ => none) 0 (some (.inl [.ref 1, .ref 15, .ref 29, .ref 43, .ref 44, .ref 53, .ref 66, .ref 79, .int 0, .int 0, .int 0, .int 0, .int (-1), .int 0]))) 43 (some (.inr (fE 8)))) (195) (some (.inl [.null, .int 0, .null, .null, .null, .null, .null, .null, .null, .null, .null, .null, .null, .null, .long 0, .long 0, .long 0, .long 0])))
  refine k_dup C 140 dX4_init_139 rfl rfl ?_
  refine k_callN C 143 (ct_X0 (a := 195) (F := (opn (opn (fun _ => none) 0 (some (.inl [.ref 1, .ref 15, .ref 29, .ref 43, .ref 44, .ref 53, .ref 66, .ref 79, .int 0, .int 0, .int 0, .int 0, .int (-1), .int 0]))) 43 (some (.inr (fE 8))))) (l := [182, 168, 154, 140, 126, 112, 98, 84, 30, 16, 2]) (by decide +kernel) rfl (fun j _ _ => ((opn_ne (by omega)).trans (opn_ne (by omega)))) (by decide)) dX4_init_140 rfl rfl nbd_121 wq_123 wq_122 wq_91 ⟨by decide, by decide, by decide +kernel⟩ (by rw [hR]; exact ⟨Nat.le_of_ble_eq_true rfl, Nat.le_of_ble_eq_true rfl⟩) (Nat.le_of_ble_eq_true rfl) (by rw [hR]; exact Nat.le_of_ble_eq_true rfl) (by rw [hR]; exact Nat.le_of_ble_eq_true rfl) ?_
  show Wk x 208 2273 143 [(1, .int 8), (0, .ref 0)] [.ref 195, .int 8, .ref 43] (SG [196, 182, 168, 154, 140, 126, 112, 98, 84, 30, 16, 2]) 209 (opn (opn (fun _ => none) 0 (some (.inl [.ref 1, .ref 15, .ref 29, .ref 43, .ref 44, .ref 53, .ref 66, .ref 79, .int 0, .int 0, .int 0, .int 0, .int (-1), .int 0]))) 43 (some (.inr (fE 8))))
  refine k_aastE (n := 8) (n1 := 9) C 144 dX4_init_143 rfl (by decide) (by decide) (by decide) (by decide) rfl kd_195 (by decide) rfl (by decide) (by unfold vp_in; decide) ?_
  show Wk x 208 2273 144 [(1, .int 8), (0, .ref 0)] [] (SG [196, 182, 168, 154, 140, 126, 112, 98, 84, 30, 16, 2]) 209 (opn (opn (fun _ => none) 0 (some (.inl [.ref 1, .ref 15, .ref 29, .ref 43, .ref 44, .ref 53, .ref 66, .ref 79, .int 0, .int 0, .int 0, .int 0, .int (-1), .int 0]))) 43 (some (.inr (fE 9))))
  refine k_iinc C 147 [(1, .int 9), (0, .ref 0)] (j := 0) (w := 9) dX4_init_144 rfl rfl (by decide) (by decide) rfl ?_
  refine k_goto C 122 dX4_init_147 (by decide) ?_
  refine k_iload_n C 123 (j := 0) dX4_init_122 rfl rfl ?_
  refine k_aload_n C 124 (j := 1) dX4_init_123 rfl rfl ?_
  refine k_get (k := 3) (v := .ref 43) C cl6 127 dX4_init_124 rfl kd_0 (by decide) ((opn_ne (by decide)).trans opn_at) (by decide) wq_361 rfl ?_
  refine k_alen C 128 dX4_init_127 rfl (by decide) opn_at ?_
  refine k_icmp_ge C 150 131 dX4_init_128 (by decide) rfl (fun _ => ?_) (fun h => absurd (by decide) h)
  show Wk x 208 2273 150 [(1, .int 9), (0, .ref 0)] [] (SG [196, 182, 168, 154, 140, 126, 112, 98, 84, 30, 16, 2]) 209 (opn (opn (fun _ => none) 0 (some (.inl [.ref 1, .ref 15, .ref 29, .ref 43, .ref 44, .ref 53, .ref 66, .ref 79, .int 0, .int 0, .int 0, .int 0, .int (-1), .int 0]))) 43 (some (.inr (fE 9))))
  refine k_doneE C rfl (by decide) ?_
  refine k_doneO (σ' := wi (SG [196, 182, 168, 154, 140, 126, 112, 98, 84, 30, 16, 2]) 0 12 (-1)) C kd_0 rfl (fun j hj => ⟨(wi_ne hj).symm, rfl, rfl⟩) (hflds _ (by rw [wi_on, (SG_z (by decide)).1])) ?_
  exact k_vret C dX4_init_150 hQ (Nat.le_of_ble_eq_true rfl) (Nat.le_of_ble_eq_true rfl)
