theorem wq_117 : (Jvm.Cond.instanceMethod ({ cls := "java/lang/Object", name := "<init>", desc := "()V" } : Jvm.MethodName)) ∈ TB := tb_mem 117 (by decide +kernel) (by decide +kernel)
theorem wq_118 : (Jvm.Cond.code ({ cls := "java/lang/Object", name := "<init>", desc := "()V" } : Jvm.MethodName) object_method_1_code (1 : Nat) (Option.none : Option Jvm.ClassFile.FieldType)) ∈ TB := tb_mem 118 (by decide +kernel) (by decide +kernel)
theorem wq_124 : (Jvm.Cond.methodLink "HeatNetwork$Network" (3 : Nat) ({ cls := "java/lang/Object", name := "<init>", desc := "()V" } : Jvm.MethodName)) ∈ TB := tb_mem 124 (by decide +kernel) (by decide +kernel)
theorem wq_134 : (Jvm.Cond.fieldLink "HeatNetwork$Network" (18 : Nat) "HeatNetwork$Network" "settings" "[I") ∈ TB := tb_mem 134 (by decide +kernel) (by decide +kernel)
theorem wq_137 : (Jvm.Cond.fieldLink "HeatNetwork$Network" (23 : Nat) "HeatNetwork$Network" "pipes" "I") ∈ TB := tb_mem 137 (by decide +kernel) (by decide +kernel)
theorem wq_140 : (Jvm.Cond.fieldLink "HeatNetwork$Network" (27 : Nat) "HeatNetwork$Network" "ones" "[I") ∈ TB := tb_mem 140 (by decide +kernel) (by decide +kernel)
theorem wq_144 : (Jvm.Cond.fieldLink "HeatNetwork$Network" (30 : Nat) "HeatNetwork$Network" "others" "[I") ∈ TB := tb_mem 144 (by decide +kernel) (by decide +kernel)
theorem wq_148 : (Jvm.Cond.fieldLink "HeatNetwork$Network" (33 : Nat) "HeatNetwork$Network" "lengths" "[I") ∈ TB := tb_mem 148 (by decide +kernel) (by decide +kernel)
theorem wq_150 : (Jvm.Cond.fieldLink "HeatNetwork$Network" (36 : Nat) "HeatNetwork$Network" "roughnesses" "[I") ∈ TB := tb_mem 150 (by decide +kernel) (by decide +kernel)
theorem wq_152 : (Jvm.Cond.fieldLink "HeatNetwork$Network" (39 : Nat) "HeatNetwork$Network" "sizes" "[I") ∈ TB := tb_mem 152 (by decide +kernel) (by decide +kernel)
theorem wq_154 : (Jvm.Cond.fieldLink "HeatNetwork$Network" (42 : Nat) "HeatNetwork$Network" "returns" "[I") ∈ TB := tb_mem 154 (by decide +kernel) (by decide +kernel)
theorem wq_157 : (Jvm.Cond.fieldLink "HeatNetwork$Network" (45 : Nat) "HeatNetwork$Network" "greatestFlows" "[I") ∈ TB := tb_mem 157 (by decide +kernel) (by decide +kernel)
theorem wq_160 : (Jvm.Cond.fieldLink "HeatNetwork$Network" (48 : Nat) "HeatNetwork$Network" "faults" "[I") ∈ TB := tb_mem 160 (by decide +kernel) (by decide +kernel)
theorem wq_162 : (Jvm.Cond.fieldLink "HeatNetwork$Network" (51 : Nat) "HeatNetwork$Network" "thousandths" "[I") ∈ TB := tb_mem 162 (by decide +kernel) (by decide +kernel)
theorem wq_164 : (Jvm.Cond.fieldLink "HeatNetwork$Network" (54 : Nat) "HeatNetwork$Network" "meters" "[J") ∈ TB := tb_mem 164 (by decide +kernel) (by decide +kernel)
theorem wq_166 : (Jvm.Cond.fieldLink "HeatNetwork$Network" (58 : Nat) "HeatNetwork$Network" "trueHeats" "[J") ∈ TB := tb_mem 166 (by decide +kernel) (by decide +kernel)
theorem wq_168 : (Jvm.Cond.fieldLink "HeatNetwork$Network" (61 : Nat) "HeatNetwork$Network" "payments" "[J") ∈ TB := tb_mem 168 (by decide +kernel) (by decide +kernel)
theorem wq_170 : (Jvm.Cond.fieldLink "HeatNetwork$Network" (64 : Nat) "HeatNetwork$Network" "hoursGone" "J") ∈ TB := tb_mem 170 (by decide +kernel) (by decide +kernel)
theorem wq_172 : (Jvm.Cond.fieldLink "HeatNetwork$Network" (68 : Nat) "HeatNetwork$Network" "madeInAll" "J") ∈ TB := tb_mem 172 (by decide +kernel) (by decide +kernel)
theorem wq_174 : (Jvm.Cond.fieldLink "HeatNetwork$Network" (71 : Nat) "HeatNetwork$Network" "givenInAll" "J") ∈ TB := tb_mem 174 (by decide +kernel) (by decide +kernel)
theorem wq_176 : (Jvm.Cond.fieldLink "HeatNetwork$Network" (74 : Nat) "HeatNetwork$Network" "paidInAll" "J") ∈ TB := tb_mem 176 (by decide +kernel) (by decide +kernel)
theorem wq_215 : (Jvm.Cond.arrayClass Jvm.ClassFile.FieldType.int) ∈ TB := tb_mem 215 (by decide +kernel) (by decide +kernel)
theorem wq_216 : (Jvm.Cond.arrayClass Jvm.ClassFile.FieldType.long) ∈ TB := tb_mem 216 (by decide +kernel) (by decide +kernel)
theorem wq_223 : (Jvm.Cond.methodLink "HeatNetwork$Shape" (3 : Nat) ({ cls := "java/lang/Object", name := "<init>", desc := "()V" } : Jvm.MethodName)) ∈ TB := tb_mem 223 (by decide +kernel) (by decide +kernel)
theorem wq_224 : (Jvm.Cond.fieldLink "HeatNetwork$Shape" (9 : Nat) "HeatNetwork$Shape" "distances" "[I") ∈ TB := tb_mem 224 (by decide +kernel) (by decide +kernel)
theorem wq_227 : (Jvm.Cond.fieldLink "HeatNetwork$Shape" (15 : Nat) "HeatNetwork$Shape" "order" "[I") ∈ TB := tb_mem 227 (by decide +kernel) (by decide +kernel)
theorem wq_229 : (Jvm.Cond.fieldLink "HeatNetwork$Shape" (18 : Nat) "HeatNetwork$Shape" "connected" "I") ∈ TB := tb_mem 229 (by decide +kernel) (by decide +kernel)
theorem wq_232 : (Jvm.Cond.fieldLink "HeatNetwork$Shape" (22 : Nat) "HeatNetwork$Shape" "feeders" "[I") ∈ TB := tb_mem 232 (by decide +kernel) (by decide +kernel)
theorem wq_234 : (Jvm.Cond.fieldLink "HeatNetwork$Shape" (25 : Nat) "HeatNetwork$Shape" "firstPipes" "[I") ∈ TB := tb_mem 234 (by decide +kernel) (by decide +kernel)
theorem wq_236 : (Jvm.Cond.fieldLink "HeatNetwork$Shape" (28 : Nat) "HeatNetwork$Shape" "secondPipes" "[I") ∈ TB := tb_mem 236 (by decide +kernel) (by decide +kernel)
theorem wq_238 : (Jvm.Cond.fieldLink "HeatNetwork$Shape" (31 : Nat) "HeatNetwork$Shape" "loopNodes" "[I") ∈ TB := tb_mem 238 (by decide +kernel) (by decide +kernel)
theorem wq_241 : (Jvm.Cond.fieldLink "HeatNetwork$Shape" (34 : Nat) "HeatNetwork$Shape" "loopPipes" "[I") ∈ TB := tb_mem 241 (by decide +kernel) (by decide +kernel)
theorem wq_243 : (Jvm.Cond.fieldLink "HeatNetwork$Shape" (37 : Nat) "HeatNetwork$Shape" "loopLength" "I") ∈ TB := tb_mem 243 (by decide +kernel) (by decide +kernel)
theorem wq_246 : (Jvm.Cond.fieldLink "HeatNetwork$Shape" (40 : Nat) "HeatNetwork$Shape" "isInLoop" "[Z") ∈ TB := tb_mem 246 (by decide +kernel) (by decide +kernel)
theorem wq_269 : (Jvm.Cond.arrayClass Jvm.ClassFile.FieldType.boolean) ∈ TB := tb_mem 269 (by decide +kernel) (by decide +kernel)
theorem wq_275 : (Jvm.Cond.methodLink "HeatNetwork$State" (3 : Nat) ({ cls := "java/lang/Object", name := "<init>", desc := "()V" } : Jvm.MethodName)) ∈ TB := tb_mem 275 (by decide +kernel) (by decide +kernel)
theorem wq_276 : (Jvm.Cond.fieldLink "HeatNetwork$State" (9 : Nat) "HeatNetwork$State" "stationFlows" "[I") ∈ TB := tb_mem 276 (by decide +kernel) (by decide +kernel)
theorem wq_278 : (Jvm.Cond.fieldLink "HeatNetwork$State" (15 : Nat) "HeatNetwork$State" "pipeFlows" "[I") ∈ TB := tb_mem 278 (by decide +kernel) (by decide +kernel)
theorem wq_280 : (Jvm.Cond.fieldLink "HeatNetwork$State" (18 : Nat) "HeatNetwork$State" "loopFlows" "[I") ∈ TB := tb_mem 280 (by decide +kernel) (by decide +kernel)
theorem wq_281 : (Jvm.Cond.fieldLink "HeatNetwork$State" (21 : Nat) "HeatNetwork$State" "flowsBehind" "[I") ∈ TB := tb_mem 281 (by decide +kernel) (by decide +kernel)
theorem wq_282 : (Jvm.Cond.fieldLink "HeatNetwork$State" (24 : Nat) "HeatNetwork$State" "waterOrder" "[I") ∈ TB := tb_mem 282 (by decide +kernel) (by decide +kernel)
theorem wq_283 : (Jvm.Cond.fieldLink "HeatNetwork$State" (27 : Nat) "HeatNetwork$State" "hotTemperatures" "[I") ∈ TB := tb_mem 283 (by decide +kernel) (by decide +kernel)
theorem wq_285 : (Jvm.Cond.fieldLink "HeatNetwork$State" (30 : Nat) "HeatNetwork$State" "coolTemperatures" "[I") ∈ TB := tb_mem 285 (by decide +kernel) (by decide +kernel)
theorem wq_287 : (Jvm.Cond.fieldLink "HeatNetwork$State" (33 : Nat) "HeatNetwork$State" "flowsBack" "[J") ∈ TB := tb_mem 287 (by decide +kernel) (by decide +kernel)
theorem wq_288 : (Jvm.Cond.fieldLink "HeatNetwork$State" (37 : Nat) "HeatNetwork$State" "heatsBack" "[J") ∈ TB := tb_mem 288 (by decide +kernel) (by decide +kernel)
theorem wq_289 : (Jvm.Cond.fieldLink "HeatNetwork$State" (40 : Nat) "HeatNetwork$State" "remainders" "[J") ∈ TB := tb_mem 289 (by decide +kernel) (by decide +kernel)
theorem wq_291 : (Jvm.Cond.fieldLink "HeatNetwork$State" (43 : Nat) "HeatNetwork$State" "pipeLosses" "[J") ∈ TB := tb_mem 291 (by decide +kernel) (by decide +kernel)
theorem wq_293 : (Jvm.Cond.fieldLink "HeatNetwork$State" (46 : Nat) "HeatNetwork$State" "heads" "[J") ∈ TB := tb_mem 293 (by decide +kernel) (by decide +kernel)
theorem wq_295 : (Jvm.Cond.fieldLink "HeatNetwork$State" (49 : Nat) "HeatNetwork$State" "loopImbalance" "J") ∈ TB := tb_mem 295 (by decide +kernel) (by decide +kernel)
theorem wq_297 : (Jvm.Cond.fieldLink "HeatNetwork$State" (53 : Nat) "HeatNetwork$State" "roundCount" "I") ∈ TB := tb_mem 297 (by decide +kernel) (by decide +kernel)
theorem wq_333 : (Jvm.Cond.methodLink "HeatNetwork$Text" (1 : Nat) ({ cls := "java/lang/Object", name := "<init>", desc := "()V" } : Jvm.MethodName)) ∈ TB := tb_mem 333 (by decide +kernel) (by decide +kernel)
theorem wq_334 : (Jvm.Cond.fieldLink "HeatNetwork$Text" (9 : Nat) "HeatNetwork$Text" "signs" "[C") ∈ TB := tb_mem 334 (by decide +kernel) (by decide +kernel)
theorem wq_336 : (Jvm.Cond.fieldLink "HeatNetwork$Text" (13 : Nat) "HeatNetwork$Text" "length" "I") ∈ TB := tb_mem 336 (by decide +kernel) (by decide +kernel)
theorem wq_338 : (Jvm.Cond.fieldLink "HeatNetwork$Text" (17 : Nat) "HeatNetwork$Text" "position" "I") ∈ TB := tb_mem 338 (by decide +kernel) (by decide +kernel)
theorem wq_339 : (Jvm.Cond.fieldLink "HeatNetwork$Text" (20 : Nat) "HeatNetwork$Text" "definitions" "I") ∈ TB := tb_mem 339 (by decide +kernel) (by decide +kernel)
theorem wq_341 : (Jvm.Cond.fieldLink "HeatNetwork$Text" (23 : Nat) "HeatNetwork$Text" "kinds" "[C") ∈ TB := tb_mem 341 (by decide +kernel) (by decide +kernel)
theorem wq_343 : (Jvm.Cond.fieldLink "HeatNetwork$Text" (26 : Nat) "HeatNetwork$Text" "values" "[I") ∈ TB := tb_mem 343 (by decide +kernel) (by decide +kernel)
theorem wq_357 : (Jvm.Cond.arrayClass Jvm.ClassFile.FieldType.char) ∈ TB := tb_mem 357 (by decide +kernel) (by decide +kernel)
theorem wq_1210 : (Jvm.Cond.methodLink "HeatNetworkModel" (3 : Nat) ({ cls := "java/lang/Object", name := "<init>", desc := "()V" } : Jvm.MethodName)) ∈ TB := tb_mem 1210 (by decide +kernel) (by decide +kernel)
theorem wq_1211 : (Jvm.Cond.constant "HeatNetworkModel" (85 : Nat) (50000000 : Int32)) ∈ TB := tb_mem 1211 (by decide +kernel) (by decide +kernel)
theorem wq_1213 : (Jvm.Cond.fieldLink "HeatNetworkModel" (9 : Nat) "HeatNetworkModel" "now" "[I") ∈ TB := tb_mem 1213 (by decide +kernel) (by decide +kernel)
theorem wq_1214 : (Jvm.Cond.fieldLink "HeatNetworkModel" (13 : Nat) "HeatNetworkModel" "sums" "[J") ∈ TB := tb_mem 1214 (by decide +kernel) (by decide +kernel)
theorem wq_1215 : (Jvm.Cond.fieldLink "HeatNetworkModel" (17 : Nat) "HeatNetworkModel" "kept" "[I") ∈ TB := tb_mem 1215 (by decide +kernel) (by decide +kernel)
theorem wq_1216 : (Jvm.Cond.fieldLink "HeatNetworkModel" (20 : Nat) "HeatNetworkModel" "keptSums" "[J") ∈ TB := tb_mem 1216 (by decide +kernel) (by decide +kernel)
theorem wq_1218 : (Jvm.Cond.fieldLink "HeatNetworkModel" (23 : Nat) "HeatNetworkModel" "saved" "[I") ∈ TB := tb_mem 1218 (by decide +kernel) (by decide +kernel)
theorem wq_1219 : (Jvm.Cond.fieldLink "HeatNetworkModel" (26 : Nat) "HeatNetworkModel" "savedSums" "[J") ∈ TB := tb_mem 1219 (by decide +kernel) (by decide +kernel)
theorem wq_1221 : (Jvm.Cond.fieldLink "HeatNetworkModel" (29 : Nat) "HeatNetworkModel" "tried" "[I") ∈ TB := tb_mem 1221 (by decide +kernel) (by decide +kernel)
theorem wq_1222 : (Jvm.Cond.fieldLink "HeatNetworkModel" (32 : Nat) "HeatNetworkModel" "triedSums" "[J") ∈ TB := tb_mem 1222 (by decide +kernel) (by decide +kernel)
theorem wq_1223 : (Jvm.Cond.fieldLink "HeatNetworkModel" (35 : Nat) "HeatNetworkModel" "buffer" "[I") ∈ TB := tb_mem 1223 (by decide +kernel) (by decide +kernel)
theorem wq_1226 : (Jvm.Cond.fieldLink "HeatNetworkModel" (38 : Nat) "HeatNetworkModel" "fault" "I") ∈ TB := tb_mem 1226 (by decide +kernel) (by decide +kernel)
theorem wq_1228 : (Jvm.Cond.fieldLink "HeatNetworkModel" (42 : Nat) "HeatNetworkModel" "far" "[I") ∈ TB := tb_mem 1228 (by decide +kernel) (by decide +kernel)
theorem wq_1229 : (Jvm.Cond.fieldLink "HeatNetworkModel" (45 : Nat) "HeatNetworkModel" "queue" "[I") ∈ TB := tb_mem 1229 (by decide +kernel) (by decide +kernel)
theorem wq_1230 : (Jvm.Cond.fieldLink "HeatNetworkModel" (48 : Nat) "HeatNetworkModel" "degree" "[I") ∈ TB := tb_mem 1230 (by decide +kernel) (by decide +kernel)
theorem wq_1231 : (Jvm.Cond.fieldLink "HeatNetworkModel" (51 : Nat) "HeatNetworkModel" "inLoop" "[Z") ∈ TB := tb_mem 1231 (by decide +kernel) (by decide +kernel)
theorem wq_1232 : (Jvm.Cond.fieldLink "HeatNetworkModel" (55 : Nat) "HeatNetworkModel" "loop" "[I") ∈ TB := tb_mem 1232 (by decide +kernel) (by decide +kernel)
theorem wq_1233 : (Jvm.Cond.fieldLink "HeatNetworkModel" (58 : Nat) "HeatNetworkModel" "loopPipe" "[I") ∈ TB := tb_mem 1233 (by decide +kernel) (by decide +kernel)
theorem wq_1235 : (Jvm.Cond.fieldLink "HeatNetworkModel" (61 : Nat) "HeatNetworkModel" "draws" "[I") ∈ TB := tb_mem 1235 (by decide +kernel) (by decide +kernel)
theorem wq_1236 : (Jvm.Cond.fieldLink "HeatNetworkModel" (64 : Nat) "HeatNetworkModel" "drew" "[I") ∈ TB := tb_mem 1236 (by decide +kernel) (by decide +kernel)
theorem wq_1237 : (Jvm.Cond.fieldLink "HeatNetworkModel" (67 : Nat) "HeatNetworkModel" "behind" "[J") ∈ TB := tb_mem 1237 (by decide +kernel) (by decide +kernel)
theorem wq_1238 : (Jvm.Cond.fieldLink "HeatNetworkModel" (70 : Nat) "HeatNetworkModel" "flow" "[I") ∈ TB := tb_mem 1238 (by decide +kernel) (by decide +kernel)
theorem wq_1239 : (Jvm.Cond.fieldLink "HeatNetworkModel" (73 : Nat) "HeatNetworkModel" "hot" "[I") ∈ TB := tb_mem 1239 (by decide +kernel) (by decide +kernel)
theorem wq_1240 : (Jvm.Cond.fieldLink "HeatNetworkModel" (76 : Nat) "HeatNetworkModel" "back" "[I") ∈ TB := tb_mem 1240 (by decide +kernel) (by decide +kernel)
theorem wq_1241 : (Jvm.Cond.fieldLink "HeatNetworkModel" (79 : Nat) "HeatNetworkModel" "rest" "[J") ∈ TB := tb_mem 1241 (by decide +kernel) (by decide +kernel)
theorem wq_1242 : (Jvm.Cond.fieldLink "HeatNetworkModel" (82 : Nat) "HeatNetworkModel" "isKnown" "[Z") ∈ TB := tb_mem 1242 (by decide +kernel) (by decide +kernel)
theorem ct_X0 {a : Nat} {F : Op} {l : List Nat} (hA : ∀ k, k < 14 → kd (a + k) = kNet.getD k (.inr 99)) (hF : F (a) = none) (hFj : ∀ j, 0 < j → j < 14 → F (a + j) = none) (hl : ∀ j, j < 14 → a + j ∉ l) : CtK yX0_init cX0_init 1 1 13 127 (a) (SG l) (a + 1) (opn F (a) (some (.inl [.null, .int 0, .null, .null, .null, .null, .null, .null, .null, .null, .null, .null, .null, .null, .long 0, .long 0, .long 0, .long 0]))) (SG ((a + 1) :: l)) (a + 14) F := by
  have hb : a + 14 ≤ 235 := kd_lt (hA 13 (by decide)) (by decide)
  refine ctK_of (by decide) rfl (by decide) (fun x C hin hR hQ => ?_)
  have C : Ck x RX0 cX0_init 1 := C
  have hF1 : F (a + 1) = none := hFj 1 (by decide) (by decide)
  have hF2 : F (a + 2) = none := hFj 2 (by decide) (by decide)
  have hz2 : Zr (SG ((a + 1) :: l)) (a + 2) := SG_z (by rw [List.mem_cons, not_or]; exact ⟨by omega, hl 2 (by decide)⟩)
  have hF3 : F (a + 3) = none := hFj 3 (by decide) (by decide)
  have hz3 : Zr (SG ((a + 1) :: l)) (a + 3) := SG_z (by rw [List.mem_cons, not_or]; exact ⟨by omega, hl 3 (by decide)⟩)
  have hF4 : F (a + 4) = none := hFj 4 (by decide) (by decide)
  have hz4 : Zr (SG ((a + 1) :: l)) (a + 4) := SG_z (by rw [List.mem_cons, not_or]; exact ⟨by omega, hl 4 (by decide)⟩)
  have hF5 : F (a + 5) = none := hFj 5 (by decide) (by decide)
  have hz5 : Zr (SG ((a + 1) :: l)) (a + 5) := SG_z (by rw [List.mem_cons, not_or]; exact ⟨by omega, hl 5 (by decide)⟩)
  have hF6 : F (a + 6) = none := hFj 6 (by decide) (by decide)
  have hz6 : Zr (SG ((a + 1) :: l)) (a + 6) := SG_z (by rw [List.mem_cons, not_or]; exact ⟨by omega, hl 6 (by decide)⟩)
  have hF7 : F (a + 7) = none := hFj 7 (by decide) (by decide)
  have hz7 : Zr (SG ((a + 1) :: l)) (a + 7) := SG_z (by rw [List.mem_cons, not_or]; exact ⟨by omega, hl 7 (by decide)⟩)
  have hF8 : F (a + 8) = none := hFj 8 (by decide) (by decide)
  have hz8 : Zr (SG ((a + 1) :: l)) (a + 8) := SG_z (by rw [List.mem_cons, not_or]; exact ⟨by omega, hl 8 (by decide)⟩)
  have hF9 : F (a + 9) = none := hFj 9 (by decide) (by decide)
  have hz9 : Zr (SG ((a + 1) :: l)) (a + 9) := SG_z (by rw [List.mem_cons, not_or]; exact ⟨by omega, hl 9 (by decide)⟩)
  have hF10 : F (a + 10) = none := hFj 10 (by decide) (by decide)
  have hz10 : Zr (SG ((a + 1) :: l)) (a + 10) := SG_z (by rw [List.mem_cons, not_or]; exact ⟨by omega, hl 10 (by decide)⟩)
  have hF11 : F (a + 11) = none := hFj 11 (by decide) (by decide)
  have hz11 : Zr (SG ((a + 1) :: l)) (a + 11) := SG_z (by rw [List.mem_cons, not_or]; exact ⟨by omega, hl 11 (by decide)⟩)
  have hF12 : F (a + 12) = none := hFj 12 (by decide) (by decide)
  have hz12 : Zr (SG ((a + 1) :: l)) (a + 12) := SG_z (by rw [List.mem_cons, not_or]; exact ⟨by omega, hl 12 (by decide)⟩)
  have hF13 : F (a + 13) = none := hFj 13 (by decide) (by decide)
  have hz13 : Zr (SG ((a + 1) :: l)) (a + 13) := SG_z (by rw [List.mem_cons, not_or]; exact ⟨by omega, hl 13 (by decide)⟩)
  have hz0 : Zr (SG ((a + 1) :: l)) (a) := SG_z (by rw [List.mem_cons, not_or]; exact ⟨by omega, hl 0 (by decide)⟩)
  have hflds : ∀ (σ : Mem), σ.1 (a) = (fun _ => 0) → σ.2.1 (a) = (fun _ => 0) → ∀ g : Gh, ([.ref (a + 1), .int 0, .ref (a + 2), .ref (a + 3), .ref (a + 4), .ref (a + 5), .ref (a + 6), .ref (a + 7), .ref (a + 8), .ref (a + 9), .ref (a + 10), .ref (a + 11), .ref (a + 12), .ref (a + 13), .long 0, .long 0, .long 0, .long 0] : List Value).map (rv g) = (List.range (nfC 2)).map (fun k => fvl g σ (a) 2 k) := by
    intro σ e1 e2 g
    have h1 : (List.range (nfC 2)).map (fun k => fvl g σ (a) 2 k) = [.ref (gA g (a + 1)), .int (σ.1 (a) 1), .ref (gA g (a + 2)), .ref (gA g (a + 3)), .ref (gA g (a + 4)), .ref (gA g (a + 5)), .ref (gA g (a + 6)), .ref (gA g (a + 7)), .ref (gA g (a + 8)), .ref (gA g (a + 9)), .ref (gA g (a + 10)), .ref (gA g (a + 11)), .ref (gA g (a + 12)), .ref (gA g (a + 13)), .long (σ.2.1 (a) 14), .long (σ.2.1 (a) 15), .long (σ.2.1 (a) 16), .long (σ.2.1 (a) 17)] := rfl
    rw [h1]
    (try rw [e1]); (try rw [e2])
    rfl
  refine k_aload_n C 1 (j := 0) dX0_init_0 rfl rfl ?_
  refine k_obj C 4 dX0_init_1 rfl wq_124 wq_117 wq_118 (by rw [hR]; exact Nat.le_of_ble_eq_true rfl) (by rw [hR]; exact Nat.le_of_ble_eq_true rfl) (Nat.le_of_ble_eq_true rfl) ?_
  refine k_aload_n C 5 (j := 0) dX0_init_4 rfl rfl ?_
  refine k_first C (hA 1 (by decide)) ((opn_ne (by omega)).trans hF1) (by rw [hR]; exact Nat.le_of_ble_eq_true rfl) (by rw [hR]; exact Nat.le_of_ble_eq_true rfl) (Nat.le_of_ble_eq_true rfl) (by rw [hR]; exact Nat.le_of_ble_eq_true rfl) (by rw [hR]; exact Nat.le_of_ble_eq_true rfl) ?_
  rw [SG_row]
  show Wk x 1 7 14 [(0, .ref a)] [.ref (a + 1), .ref (a)] (SG ((a + 1) :: l)) (a + 2) (opn F (a) (some (.inl [.null, .int 0, .null, .null, .null, .null, .null, .null, .null, .null, .null, .null, .null, .null, .long 0, .long 0, .long 0, .long 0])))
  refine k_putO (k := 0) (fs' := [.ref (a + 1), .int 0, .null, .null, .null, .null, .null, .null, .null, .null, .null, .null, .null, .null, .long 0, .long 0, .long 0, .long 0]) C hin cl2 17 dX0_init_14 rfl (hA 0 (by decide)) (by omega) (by omega) rfl (by decide) wq_134 rfl (fun _ => rfl) (fun _ => rfl) rfl ?_
  show Wk x 1 7 17 [(0, .ref a)] [] (SG ((a + 1) :: l)) (a + 2) (opn F (a) (some (.inl [.ref (a + 1), .int 0, .null, .null, .null, .null, .null, .null, .null, .null, .null, .null, .null, .null, .long 0, .long 0, .long 0, .long 0])))
  refine k_aload_n C 18 (j := 0) dX0_init_17 rfl rfl ?_
  refine k_iconst C 19 (v := 0) dX0_init_18 rfl (by decide) ?_
  refine k_putO (k := 1) (fs' := [.ref (a + 1), .int 0, .null, .null, .null, .null, .null, .null, .null, .null, .null, .null, .null, .null, .long 0, .long 0, .long 0, .long 0]) C hin cl2 22 dX0_init_19 rfl (hA 0 (by decide)) (by omega) (by omega) rfl (by decide) wq_137 rfl (fun _ => rfl) (fun _ => rfl) rfl ?_
  show Wk x 1 7 22 [(0, .ref a)] [] (SG ((a + 1) :: l)) (a + 2) (opn F (a) (some (.inl [.ref (a + 1), .int 0, .null, .null, .null, .null, .null, .null, .null, .null, .null, .null, .null, .null, .long 0, .long 0, .long 0, .long 0])))
  refine k_aload_n C 23 (j := 0) dX0_init_22 rfl rfl ?_
  refine k_bipush C 25 (v := 10) dX0_init_23 rfl (by decide) ?_
  refine k_newa C 27 (N := 10) (ty := .int) (at' := .int) dX0_init_25 rfl (hA 2 (by decide)) rfl (fun _ => rfl) wq_215 (by rw [hR]; exact Nat.le_of_ble_eq_true rfl) (by rw [hR]; exact Nat.le_of_ble_eq_true rfl) (by decide) (by decide) (by decide) ((opn_ne (by omega)).trans hF2) hz2 (by decide) ?_
  show Wk x 2 17 27 [(0, .ref a)] [.ref (a + 2), .ref (a)] (SG ((a + 1) :: l)) (a + 3) (opn F (a) (some (.inl [.ref (a + 1), .int 0, .null, .null, .null, .null, .null, .null, .null, .null, .null, .null, .null, .null, .long 0, .long 0, .long 0, .long 0])))
  refine k_putO (k := 2) (fs' := [.ref (a + 1), .int 0, .ref (a + 2), .null, .null, .null, .null, .null, .null, .null, .null, .null, .null, .null, .long 0, .long 0, .long 0, .long 0]) C hin cl2 30 dX0_init_27 rfl (hA 0 (by decide)) (by omega) (by omega) rfl (by decide) wq_140 rfl (fun _ => rfl) (fun _ => rfl) rfl ?_
  show Wk x 2 17 30 [(0, .ref a)] [] (SG ((a + 1) :: l)) (a + 3) (opn F (a) (some (.inl [.ref (a + 1), .int 0, .ref (a + 2), .null, .null, .null, .null, .null, .null, .null, .null, .null, .null, .null, .long 0, .long 0, .long 0, .long 0])))
  refine k_aload_n C 31 (j := 0) dX0_init_30 rfl rfl ?_
  refine k_bipush C 33 (v := 10) dX0_init_31 rfl (by decide) ?_
  refine k_newa C 35 (N := 10) (ty := .int) (at' := .int) dX0_init_33 rfl (hA 3 (by decide)) rfl (fun _ => rfl) wq_215 (by rw [hR]; exact Nat.le_of_ble_eq_true rfl) (by rw [hR]; exact Nat.le_of_ble_eq_true rfl) (by decide) (by decide) (by decide) ((opn_ne (by omega)).trans hF3) hz3 (by decide) ?_
  show Wk x 3 27 35 [(0, .ref a)] [.ref (a + 3), .ref (a)] (SG ((a + 1) :: l)) (a + 4) (opn F (a) (some (.inl [.ref (a + 1), .int 0, .ref (a + 2), .null, .null, .null, .null, .null, .null, .null, .null, .null, .null, .null, .long 0, .long 0, .long 0, .long 0])))
  refine k_putO (k := 3) (fs' := [.ref (a + 1), .int 0, .ref (a + 2), .ref (a + 3), .null, .null, .null, .null, .null, .null, .null, .null, .null, .null, .long 0, .long 0, .long 0, .long 0]) C hin cl2 38 dX0_init_35 rfl (hA 0 (by decide)) (by omega) (by omega) rfl (by decide) wq_144 rfl (fun _ => rfl) (fun _ => rfl) rfl ?_
  show Wk x 3 27 38 [(0, .ref a)] [] (SG ((a + 1) :: l)) (a + 4) (opn F (a) (some (.inl [.ref (a + 1), .int 0, .ref (a + 2), .ref (a + 3), .null, .null, .null, .null, .null, .null, .null, .null, .null, .null, .long 0, .long 0, .long 0, .long 0])))
  refine k_aload_n C 39 (j := 0) dX0_init_38 rfl rfl ?_
  refine k_bipush C 41 (v := 10) dX0_init_39 rfl (by decide) ?_
  refine k_newa C 43 (N := 10) (ty := .int) (at' := .int) dX0_init_41 rfl (hA 4 (by decide)) rfl (fun _ => rfl) wq_215 (by rw [hR]; exact Nat.le_of_ble_eq_true rfl) (by rw [hR]; exact Nat.le_of_ble_eq_true rfl) (by decide) (by decide) (by decide) ((opn_ne (by omega)).trans hF4) hz4 (by decide) ?_
  show Wk x 4 37 43 [(0, .ref a)] [.ref (a + 4), .ref (a)] (SG ((a + 1) :: l)) (a + 5) (opn F (a) (some (.inl [.ref (a + 1), .int 0, .ref (a + 2), .ref (a + 3), .null, .null, .null, .null, .null, .null, .null, .null, .null, .null, .long 0, .long 0, .long 0, .long 0])))
  refine k_putO (k := 4) (fs' := [.ref (a + 1), .int 0, .ref (a + 2), .ref (a + 3), .ref (a + 4), .null, .null, .null, .null, .null, .null, .null, .null, .null, .long 0, .long 0, .long 0, .long 0]) C hin cl2 46 dX0_init_43 rfl (hA 0 (by decide)) (by omega) (by omega) rfl (by decide) wq_148 rfl (fun _ => rfl) (fun _ => rfl) rfl ?_
  show Wk x 4 37 46 [(0, .ref a)] [] (SG ((a + 1) :: l)) (a + 5) (opn F (a) (some (.inl [.ref (a + 1), .int 0, .ref (a + 2), .ref (a + 3), .ref (a + 4), .null, .null, .null, .null, .null, .null, .null, .null, .null, .long 0, .long 0, .long 0, .long 0])))
  refine k_aload_n C 47 (j := 0) dX0_init_46 rfl rfl ?_
  refine k_bipush C 49 (v := 10) dX0_init_47 rfl (by decide) ?_
  refine k_newa C 51 (N := 10) (ty := .int) (at' := .int) dX0_init_49 rfl (hA 5 (by decide)) rfl (fun _ => rfl) wq_215 (by rw [hR]; exact Nat.le_of_ble_eq_true rfl) (by rw [hR]; exact Nat.le_of_ble_eq_true rfl) (by decide) (by decide) (by decide) ((opn_ne (by omega)).trans hF5) hz5 (by decide) ?_
  show Wk x 5 47 51 [(0, .ref a)] [.ref (a + 5), .ref (a)] (SG ((a + 1) :: l)) (a + 6) (opn F (a) (some (.inl [.ref (a + 1), .int 0, .ref (a + 2), .ref (a + 3), .ref (a + 4), .null, .null, .null, .null, .null, .null, .null, .null, .null, .long 0, .long 0, .long 0, .long 0])))
  refine k_putO (k := 5) (fs' := [.ref (a + 1), .int 0, .ref (a + 2), .ref (a + 3), .ref (a + 4), .ref (a + 5), .null, .null, .null, .null, .null, .null, .null, .null, .long 0, .long 0, .long 0, .long 0]) C hin cl2 54 dX0_init_51 rfl (hA 0 (by decide)) (by omega) (by omega) rfl (by decide) wq_150 rfl (fun _ => rfl) (fun _ => rfl) rfl ?_
  show Wk x 5 47 54 [(0, .ref a)] [] (SG ((a + 1) :: l)) (a + 6) (opn F (a) (some (.inl [.ref (a + 1), .int 0, .ref (a + 2), .ref (a + 3), .ref (a + 4), .ref (a + 5), .null, .null, .null, .null, .null, .null, .null, .null, .long 0, .long 0, .long 0, .long 0])))
  refine k_aload_n C 55 (j := 0) dX0_init_54 rfl rfl ?_
  refine k_bipush C 57 (v := 10) dX0_init_55 rfl (by decide) ?_
  refine k_newa C 59 (N := 10) (ty := .int) (at' := .int) dX0_init_57 rfl (hA 6 (by decide)) rfl (fun _ => rfl) wq_215 (by rw [hR]; exact Nat.le_of_ble_eq_true rfl) (by rw [hR]; exact Nat.le_of_ble_eq_true rfl) (by decide) (by decide) (by decide) ((opn_ne (by omega)).trans hF6) hz6 (by decide) ?_
  show Wk x 6 57 59 [(0, .ref a)] [.ref (a + 6), .ref (a)] (SG ((a + 1) :: l)) (a + 7) (opn F (a) (some (.inl [.ref (a + 1), .int 0, .ref (a + 2), .ref (a + 3), .ref (a + 4), .ref (a + 5), .null, .null, .null, .null, .null, .null, .null, .null, .long 0, .long 0, .long 0, .long 0])))
  refine k_putO (k := 6) (fs' := [.ref (a + 1), .int 0, .ref (a + 2), .ref (a + 3), .ref (a + 4), .ref (a + 5), .ref (a + 6), .null, .null, .null, .null, .null, .null, .null, .long 0, .long 0, .long 0, .long 0]) C hin cl2 62 dX0_init_59 rfl (hA 0 (by decide)) (by omega) (by omega) rfl (by decide) wq_152 rfl (fun _ => rfl) (fun _ => rfl) rfl ?_
  show Wk x 6 57 62 [(0, .ref a)] [] (SG ((a + 1) :: l)) (a + 7) (opn F (a) (some (.inl [.ref (a + 1), .int 0, .ref (a + 2), .ref (a + 3), .ref (a + 4), .ref (a + 5), .ref (a + 6), .null, .null, .null, .null, .null, .null, .null, .long 0, .long 0, .long 0, .long 0])))
  refine k_aload_n C 63 (j := 0) dX0_init_62 rfl rfl ?_
  refine k_bipush C 65 (v := 10) dX0_init_63 rfl (by decide) ?_
  refine k_newa C 67 (N := 10) (ty := .int) (at' := .int) dX0_init_65 rfl (hA 7 (by decide)) rfl (fun _ => rfl) wq_215 (by rw [hR]; exact Nat.le_of_ble_eq_true rfl) (by rw [hR]; exact Nat.le_of_ble_eq_true rfl) (by decide) (by decide) (by decide) ((opn_ne (by omega)).trans hF7) hz7 (by decide) ?_
  show Wk x 7 67 67 [(0, .ref a)] [.ref (a + 7), .ref (a)] (SG ((a + 1) :: l)) (a + 8) (opn F (a) (some (.inl [.ref (a + 1), .int 0, .ref (a + 2), .ref (a + 3), .ref (a + 4), .ref (a + 5), .ref (a + 6), .null, .null, .null, .null, .null, .null, .null, .long 0, .long 0, .long 0, .long 0])))
  refine k_putO (k := 7) (fs' := [.ref (a + 1), .int 0, .ref (a + 2), .ref (a + 3), .ref (a + 4), .ref (a + 5), .ref (a + 6), .ref (a + 7), .null, .null, .null, .null, .null, .null, .long 0, .long 0, .long 0, .long 0]) C hin cl2 70 dX0_init_67 rfl (hA 0 (by decide)) (by omega) (by omega) rfl (by decide) wq_154 rfl (fun _ => rfl) (fun _ => rfl) rfl ?_
  show Wk x 7 67 70 [(0, .ref a)] [] (SG ((a + 1) :: l)) (a + 8) (opn F (a) (some (.inl [.ref (a + 1), .int 0, .ref (a + 2), .ref (a + 3), .ref (a + 4), .ref (a + 5), .ref (a + 6), .ref (a + 7), .null, .null, .null, .null, .null, .null, .long 0, .long 0, .long 0, .long 0])))
  refine k_aload_n C 71 (j := 0) dX0_init_70 rfl rfl ?_
  refine k_bipush C 73 (v := 10) dX0_init_71 rfl (by decide) ?_
  refine k_newa C 75 (N := 10) (ty := .int) (at' := .int) dX0_init_73 rfl (hA 8 (by decide)) rfl (fun _ => rfl) wq_215 (by rw [hR]; exact Nat.le_of_ble_eq_true rfl) (by rw [hR]; exact Nat.le_of_ble_eq_true rfl) (by decide) (by decide) (by decide) ((opn_ne (by omega)).trans hF8) hz8 (by decide) ?_
  show Wk x 8 77 75 [(0, .ref a)] [.ref (a + 8), .ref (a)] (SG ((a + 1) :: l)) (a + 9) (opn F (a) (some (.inl [.ref (a + 1), .int 0, .ref (a + 2), .ref (a + 3), .ref (a + 4), .ref (a + 5), .ref (a + 6), .ref (a + 7), .null, .null, .null, .null, .null, .null, .long 0, .long 0, .long 0, .long 0])))
  refine k_putO (k := 8) (fs' := [.ref (a + 1), .int 0, .ref (a + 2), .ref (a + 3), .ref (a + 4), .ref (a + 5), .ref (a + 6), .ref (a + 7), .ref (a + 8), .null, .null, .null, .null, .null, .long 0, .long 0, .long 0, .long 0]) C hin cl2 78 dX0_init_75 rfl (hA 0 (by decide)) (by omega) (by omega) rfl (by decide) wq_157 rfl (fun _ => rfl) (fun _ => rfl) rfl ?_
  show Wk x 8 77 78 [(0, .ref a)] [] (SG ((a + 1) :: l)) (a + 9) (opn F (a) (some (.inl [.ref (a + 1), .int 0, .ref (a + 2), .ref (a + 3), .ref (a + 4), .ref (a + 5), .ref (a + 6), .ref (a + 7), .ref (a + 8), .null, .null, .null, .null, .null, .long 0, .long 0, .long 0, .long 0])))
  refine k_aload_n C 79 (j := 0) dX0_init_78 rfl rfl ?_
  refine k_bipush C 81 (v := 10) dX0_init_79 rfl (by decide) ?_
  refine k_newa C 83 (N := 10) (ty := .int) (at' := .int) dX0_init_81 rfl (hA 9 (by decide)) rfl (fun _ => rfl) wq_215 (by rw [hR]; exact Nat.le_of_ble_eq_true rfl) (by rw [hR]; exact Nat.le_of_ble_eq_true rfl) (by decide) (by decide) (by decide) ((opn_ne (by omega)).trans hF9) hz9 (by decide) ?_
  show Wk x 9 87 83 [(0, .ref a)] [.ref (a + 9), .ref (a)] (SG ((a + 1) :: l)) (a + 10) (opn F (a) (some (.inl [.ref (a + 1), .int 0, .ref (a + 2), .ref (a + 3), .ref (a + 4), .ref (a + 5), .ref (a + 6), .ref (a + 7), .ref (a + 8), .null, .null, .null, .null, .null, .long 0, .long 0, .long 0, .long 0])))
  refine k_putO (k := 9) (fs' := [.ref (a + 1), .int 0, .ref (a + 2), .ref (a + 3), .ref (a + 4), .ref (a + 5), .ref (a + 6), .ref (a + 7), .ref (a + 8), .ref (a + 9), .null, .null, .null, .null, .long 0, .long 0, .long 0, .long 0]) C hin cl2 86 dX0_init_83 rfl (hA 0 (by decide)) (by omega) (by omega) rfl (by decide) wq_160 rfl (fun _ => rfl) (fun _ => rfl) rfl ?_
  show Wk x 9 87 86 [(0, .ref a)] [] (SG ((a + 1) :: l)) (a + 10) (opn F (a) (some (.inl [.ref (a + 1), .int 0, .ref (a + 2), .ref (a + 3), .ref (a + 4), .ref (a + 5), .ref (a + 6), .ref (a + 7), .ref (a + 8), .ref (a + 9), .null, .null, .null, .null, .long 0, .long 0, .long 0, .long 0])))
  refine k_aload_n C 87 (j := 0) dX0_init_86 rfl rfl ?_
  refine k_bipush C 89 (v := 10) dX0_init_87 rfl (by decide) ?_
  refine k_newa C 91 (N := 10) (ty := .int) (at' := .int) dX0_init_89 rfl (hA 10 (by decide)) rfl (fun _ => rfl) wq_215 (by rw [hR]; exact Nat.le_of_ble_eq_true rfl) (by rw [hR]; exact Nat.le_of_ble_eq_true rfl) (by decide) (by decide) (by decide) ((opn_ne (by omega)).trans hF10) hz10 (by decide) ?_
  show Wk x 10 97 91 [(0, .ref a)] [.ref (a + 10), .ref (a)] (SG ((a + 1) :: l)) (a + 11) (opn F (a) (some (.inl [.ref (a + 1), .int 0, .ref (a + 2), .ref (a + 3), .ref (a + 4), .ref (a + 5), .ref (a + 6), .ref (a + 7), .ref (a + 8), .ref (a + 9), .null, .null, .null, .null, .long 0, .long 0, .long 0, .long 0])))
  refine k_putO (k := 10) (fs' := [.ref (a + 1), .int 0, .ref (a + 2), .ref (a + 3), .ref (a + 4), .ref (a + 5), .ref (a + 6), .ref (a + 7), .ref (a + 8), .ref (a + 9), .ref (a + 10), .null, .null, .null, .long 0, .long 0, .long 0, .long 0]) C hin cl2 94 dX0_init_91 rfl (hA 0 (by decide)) (by omega) (by omega) rfl (by decide) wq_162 rfl (fun _ => rfl) (fun _ => rfl) rfl ?_
  show Wk x 10 97 94 [(0, .ref a)] [] (SG ((a + 1) :: l)) (a + 11) (opn F (a) (some (.inl [.ref (a + 1), .int 0, .ref (a + 2), .ref (a + 3), .ref (a + 4), .ref (a + 5), .ref (a + 6), .ref (a + 7), .ref (a + 8), .ref (a + 9), .ref (a + 10), .null, .null, .null, .long 0, .long 0, .long 0, .long 0])))
  refine k_aload_n C 95 (j := 0) dX0_init_94 rfl rfl ?_
  refine k_bipush C 97 (v := 10) dX0_init_95 rfl (by decide) ?_
  refine k_newa C 99 (N := 10) (ty := .long) (at' := .long) dX0_init_97 rfl (hA 11 (by decide)) rfl (fun _ => rfl) wq_216 (by rw [hR]; exact Nat.le_of_ble_eq_true rfl) (by rw [hR]; exact Nat.le_of_ble_eq_true rfl) (by decide) (by decide) (by decide) ((opn_ne (by omega)).trans hF11) hz11 (by decide) ?_
  show Wk x 11 107 99 [(0, .ref a)] [.ref (a + 11), .ref (a)] (SG ((a + 1) :: l)) (a + 12) (opn F (a) (some (.inl [.ref (a + 1), .int 0, .ref (a + 2), .ref (a + 3), .ref (a + 4), .ref (a + 5), .ref (a + 6), .ref (a + 7), .ref (a + 8), .ref (a + 9), .ref (a + 10), .null, .null, .null, .long 0, .long 0, .long 0, .long 0])))
  refine k_putO (k := 11) (fs' := [.ref (a + 1), .int 0, .ref (a + 2), .ref (a + 3), .ref (a + 4), .ref (a + 5), .ref (a + 6), .ref (a + 7), .ref (a + 8), .ref (a + 9), .ref (a + 10), .ref (a + 11), .null, .null, .long 0, .long 0, .long 0, .long 0]) C hin cl2 102 dX0_init_99 rfl (hA 0 (by decide)) (by omega) (by omega) rfl (by decide) wq_164 rfl (fun _ => rfl) (fun _ => rfl) rfl ?_
  show Wk x 11 107 102 [(0, .ref a)] [] (SG ((a + 1) :: l)) (a + 12) (opn F (a) (some (.inl [.ref (a + 1), .int 0, .ref (a + 2), .ref (a + 3), .ref (a + 4), .ref (a + 5), .ref (a + 6), .ref (a + 7), .ref (a + 8), .ref (a + 9), .ref (a + 10), .ref (a + 11), .null, .null, .long 0, .long 0, .long 0, .long 0])))
  refine k_aload_n C 103 (j := 0) dX0_init_102 rfl rfl ?_
  refine k_bipush C 105 (v := 10) dX0_init_103 rfl (by decide) ?_
  refine k_newa C 107 (N := 10) (ty := .long) (at' := .long) dX0_init_105 rfl (hA 12 (by decide)) rfl (fun _ => rfl) wq_216 (by rw [hR]; exact Nat.le_of_ble_eq_true rfl) (by rw [hR]; exact Nat.le_of_ble_eq_true rfl) (by decide) (by decide) (by decide) ((opn_ne (by omega)).trans hF12) hz12 (by decide) ?_
  show Wk x 12 117 107 [(0, .ref a)] [.ref (a + 12), .ref (a)] (SG ((a + 1) :: l)) (a + 13) (opn F (a) (some (.inl [.ref (a + 1), .int 0, .ref (a + 2), .ref (a + 3), .ref (a + 4), .ref (a + 5), .ref (a + 6), .ref (a + 7), .ref (a + 8), .ref (a + 9), .ref (a + 10), .ref (a + 11), .null, .null, .long 0, .long 0, .long 0, .long 0])))
  refine k_putO (k := 12) (fs' := [.ref (a + 1), .int 0, .ref (a + 2), .ref (a + 3), .ref (a + 4), .ref (a + 5), .ref (a + 6), .ref (a + 7), .ref (a + 8), .ref (a + 9), .ref (a + 10), .ref (a + 11), .ref (a + 12), .null, .long 0, .long 0, .long 0, .long 0]) C hin cl2 110 dX0_init_107 rfl (hA 0 (by decide)) (by omega) (by omega) rfl (by decide) wq_166 rfl (fun _ => rfl) (fun _ => rfl) rfl ?_
  show Wk x 12 117 110 [(0, .ref a)] [] (SG ((a + 1) :: l)) (a + 13) (opn F (a) (some (.inl [.ref (a + 1), .int 0, .ref (a + 2), .ref (a + 3), .ref (a + 4), .ref (a + 5), .ref (a + 6), .ref (a + 7), .ref (a + 8), .ref (a + 9), .ref (a + 10), .ref (a + 11), .ref (a + 12), .null, .long 0, .long 0, .long 0, .long 0])))
  refine k_aload_n C 111 (j := 0) dX0_init_110 rfl rfl ?_
  refine k_bipush C 113 (v := 10) dX0_init_111 rfl (by decide) ?_
  refine k_newa C 115 (N := 10) (ty := .long) (at' := .long) dX0_init_113 rfl (hA 13 (by decide)) rfl (fun _ => rfl) wq_216 (by rw [hR]; exact Nat.le_of_ble_eq_true rfl) (by rw [hR]; exact Nat.le_of_ble_eq_true rfl) (by decide) (by decide) (by decide) ((opn_ne (by omega)).trans hF13) hz13 (by decide) ?_
  show Wk x 13 127 115 [(0, .ref a)] [.ref (a + 13), .ref (a)] (SG ((a + 1) :: l)) (a + 14) (opn F (a) (some (.inl [.ref (a + 1), .int 0, .ref (a + 2), .ref (a + 3), .ref (a + 4), .ref (a + 5), .ref (a + 6), .ref (a + 7), .ref (a + 8), .ref (a + 9), .ref (a + 10), .ref (a + 11), .ref (a + 12), .null, .long 0, .long 0, .long 0, .long 0])))
  refine k_putO (k := 13) (fs' := [.ref (a + 1), .int 0, .ref (a + 2), .ref (a + 3), .ref (a + 4), .ref (a + 5), .ref (a + 6), .ref (a + 7), .ref (a + 8), .ref (a + 9), .ref (a + 10), .ref (a + 11), .ref (a + 12), .ref (a + 13), .long 0, .long 0, .long 0, .long 0]) C hin cl2 118 dX0_init_115 rfl (hA 0 (by decide)) (by omega) (by omega) rfl (by decide) wq_168 rfl (fun _ => rfl) (fun _ => rfl) rfl ?_
  show Wk x 13 127 118 [(0, .ref a)] [] (SG ((a + 1) :: l)) (a + 14) (opn F (a) (some (.inl [.ref (a + 1), .int 0, .ref (a + 2), .ref (a + 3), .ref (a + 4), .ref (a + 5), .ref (a + 6), .ref (a + 7), .ref (a + 8), .ref (a + 9), .ref (a + 10), .ref (a + 11), .ref (a + 12), .ref (a + 13), .long 0, .long 0, .long 0, .long 0])))
  refine k_aload_n C 119 (j := 0) dX0_init_118 rfl rfl ?_
  refine k_lconst C 120 (v := 0) dX0_init_119 rfl (by decide) ?_
  refine k_putO (k := 14) (fs' := [.ref (a + 1), .int 0, .ref (a + 2), .ref (a + 3), .ref (a + 4), .ref (a + 5), .ref (a + 6), .ref (a + 7), .ref (a + 8), .ref (a + 9), .ref (a + 10), .ref (a + 11), .ref (a + 12), .ref (a + 13), .long 0, .long 0, .long 0, .long 0]) C hin cl2 123 dX0_init_120 rfl (hA 0 (by decide)) (by omega) (by omega) rfl (by decide) wq_170 rfl (fun _ => rfl) (fun _ => rfl) rfl ?_
  show Wk x 13 127 123 [(0, .ref a)] [] (SG ((a + 1) :: l)) (a + 14) (opn F (a) (some (.inl [.ref (a + 1), .int 0, .ref (a + 2), .ref (a + 3), .ref (a + 4), .ref (a + 5), .ref (a + 6), .ref (a + 7), .ref (a + 8), .ref (a + 9), .ref (a + 10), .ref (a + 11), .ref (a + 12), .ref (a + 13), .long 0, .long 0, .long 0, .long 0])))
  refine k_aload_n C 124 (j := 0) dX0_init_123 rfl rfl ?_
  refine k_lconst C 125 (v := 0) dX0_init_124 rfl (by decide) ?_
  refine k_putO (k := 15) (fs' := [.ref (a + 1), .int 0, .ref (a + 2), .ref (a + 3), .ref (a + 4), .ref (a + 5), .ref (a + 6), .ref (a + 7), .ref (a + 8), .ref (a + 9), .ref (a + 10), .ref (a + 11), .ref (a + 12), .ref (a + 13), .long 0, .long 0, .long 0, .long 0]) C hin cl2 128 dX0_init_125 rfl (hA 0 (by decide)) (by omega) (by omega) rfl (by decide) wq_172 rfl (fun _ => rfl) (fun _ => rfl) rfl ?_
  show Wk x 13 127 128 [(0, .ref a)] [] (SG ((a + 1) :: l)) (a + 14) (opn F (a) (some (.inl [.ref (a + 1), .int 0, .ref (a + 2), .ref (a + 3), .ref (a + 4), .ref (a + 5), .ref (a + 6), .ref (a + 7), .ref (a + 8), .ref (a + 9), .ref (a + 10), .ref (a + 11), .ref (a + 12), .ref (a + 13), .long 0, .long 0, .long 0, .long 0])))
  refine k_aload_n C 129 (j := 0) dX0_init_128 rfl rfl ?_
  refine k_lconst C 130 (v := 0) dX0_init_129 rfl (by decide) ?_
  refine k_putO (k := 16) (fs' := [.ref (a + 1), .int 0, .ref (a + 2), .ref (a + 3), .ref (a + 4), .ref (a + 5), .ref (a + 6), .ref (a + 7), .ref (a + 8), .ref (a + 9), .ref (a + 10), .ref (a + 11), .ref (a + 12), .ref (a + 13), .long 0, .long 0, .long 0, .long 0]) C hin cl2 133 dX0_init_130 rfl (hA 0 (by decide)) (by omega) (by omega) rfl (by decide) wq_174 rfl (fun _ => rfl) (fun _ => rfl) rfl ?_
  show Wk x 13 127 133 [(0, .ref a)] [] (SG ((a + 1) :: l)) (a + 14) (opn F (a) (some (.inl [.ref (a + 1), .int 0, .ref (a + 2), .ref (a + 3), .ref (a + 4), .ref (a + 5), .ref (a + 6), .ref (a + 7), .ref (a + 8), .ref (a + 9), .ref (a + 10), .ref (a + 11), .ref (a + 12), .ref (a + 13), .long 0, .long 0, .long 0, .long 0])))
  refine k_aload_n C 134 (j := 0) dX0_init_133 rfl rfl ?_
  refine k_lconst C 135 (v := 0) dX0_init_134 rfl (by decide) ?_
  refine k_putO (k := 17) (fs' := [.ref (a + 1), .int 0, .ref (a + 2), .ref (a + 3), .ref (a + 4), .ref (a + 5), .ref (a + 6), .ref (a + 7), .ref (a + 8), .ref (a + 9), .ref (a + 10), .ref (a + 11), .ref (a + 12), .ref (a + 13), .long 0, .long 0, .long 0, .long 0]) C hin cl2 138 dX0_init_135 rfl (hA 0 (by decide)) (by omega) (by omega) rfl (by decide) wq_176 rfl (fun _ => rfl) (fun _ => rfl) rfl ?_
  show Wk x 13 127 138 [(0, .ref a)] [] (SG ((a + 1) :: l)) (a + 14) (opn F (a) (some (.inl [.ref (a + 1), .int 0, .ref (a + 2), .ref (a + 3), .ref (a + 4), .ref (a + 5), .ref (a + 6), .ref (a + 7), .ref (a + 8), .ref (a + 9), .ref (a + 10), .ref (a + 11), .ref (a + 12), .ref (a + 13), .long 0, .long 0, .long 0, .long 0])))
  refine k_doneO (σ' := SG ((a + 1) :: l)) C (hA 0 (by decide)) hF (fun j hj => ⟨rfl, rfl, rfl⟩) (hflds _ hz0.1 hz0.2.1) ?_
  exact k_vret C dX0_init_138 hQ (Nat.le_of_ble_eq_true rfl) (Nat.le_of_ble_eq_true rfl)
theorem ct_X2 {a : Nat} {F : Op} {l : List Nat} (hA : ∀ k, k < 13 → kd (a + k) = kState.getD k (.inr 99)) (hF : F (a) = none) (hFj : ∀ j, 0 < j → j < 13 → F (a + j) = none) (hl : ∀ j, j < 13 → a + j ∉ l) : CtK yX2_init cX2_init 1 1 12 120 (a) (SG l) (a + 1) (opn F (a) (some (.inl [.null, .null, .null, .null, .null, .null, .null, .null, .null, .null, .null, .null, .long 0, .int 0]))) (SG l) (a + 13) F := by
  have hb : a + 13 ≤ 235 := kd_lt (hA 12 (by decide)) (by decide)
  refine ctK_of (by decide) rfl (by decide) (fun x C hin hR hQ => ?_)
  have C : Ck x RX2 cX2_init 1 := C
  have hF1 : F (a + 1) = none := hFj 1 (by decide) (by decide)
  have hz1 : Zr (SG l) (a + 1) := SG_z (hl 1 (by decide))
  have hF2 : F (a + 2) = none := hFj 2 (by decide) (by decide)
  have hz2 : Zr (SG l) (a + 2) := SG_z (hl 2 (by decide))
  have hF3 : F (a + 3) = none := hFj 3 (by decide) (by decide)
  have hz3 : Zr (SG l) (a + 3) := SG_z (hl 3 (by decide))
  have hF4 : F (a + 4) = none := hFj 4 (by decide) (by decide)
  have hz4 : Zr (SG l) (a + 4) := SG_z (hl 4 (by decide))
  have hF5 : F (a + 5) = none := hFj 5 (by decide) (by decide)
  have hz5 : Zr (SG l) (a + 5) := SG_z (hl 5 (by decide))
  have hF6 : F (a + 6) = none := hFj 6 (by decide) (by decide)
  have hz6 : Zr (SG l) (a + 6) := SG_z (hl 6 (by decide))
  have hF7 : F (a + 7) = none := hFj 7 (by decide) (by decide)
  have hz7 : Zr (SG l) (a + 7) := SG_z (hl 7 (by decide))
  have hF8 : F (a + 8) = none := hFj 8 (by decide) (by decide)
  have hz8 : Zr (SG l) (a + 8) := SG_z (hl 8 (by decide))
  have hF9 : F (a + 9) = none := hFj 9 (by decide) (by decide)
  have hz9 : Zr (SG l) (a + 9) := SG_z (hl 9 (by decide))
  have hF10 : F (a + 10) = none := hFj 10 (by decide) (by decide)
  have hz10 : Zr (SG l) (a + 10) := SG_z (hl 10 (by decide))
  have hF11 : F (a + 11) = none := hFj 11 (by decide) (by decide)
  have hz11 : Zr (SG l) (a + 11) := SG_z (hl 11 (by decide))
  have hF12 : F (a + 12) = none := hFj 12 (by decide) (by decide)
  have hz12 : Zr (SG l) (a + 12) := SG_z (hl 12 (by decide))
  have hz0 : Zr (SG l) (a) := SG_z (hl 0 (by decide))
  have hflds : ∀ (σ : Mem), σ.1 (a) = (fun _ => 0) → σ.2.1 (a) = (fun _ => 0) → ∀ g : Gh, ([.ref (a + 1), .ref (a + 2), .ref (a + 3), .ref (a + 4), .ref (a + 5), .ref (a + 6), .ref (a + 7), .ref (a + 8), .ref (a + 9), .ref (a + 10), .ref (a + 11), .ref (a + 12), .long 0, .int 0] : List Value).map (rv g) = (List.range (nfC 4)).map (fun k => fvl g σ (a) 4 k) := by
    intro σ e1 e2 g
    have h1 : (List.range (nfC 4)).map (fun k => fvl g σ (a) 4 k) = [.ref (gA g (a + 1)), .ref (gA g (a + 2)), .ref (gA g (a + 3)), .ref (gA g (a + 4)), .ref (gA g (a + 5)), .ref (gA g (a + 6)), .ref (gA g (a + 7)), .ref (gA g (a + 8)), .ref (gA g (a + 9)), .ref (gA g (a + 10)), .ref (gA g (a + 11)), .ref (gA g (a + 12)), .long (σ.2.1 (a) 12), .int (σ.1 (a) 13)] := rfl
    rw [h1]
    (try rw [e1]); (try rw [e2])
    rfl
  refine k_aload_n C 1 (j := 0) dX2_init_0 rfl rfl ?_
  refine k_obj C 4 dX2_init_1 rfl wq_275 wq_117 wq_118 (by rw [hR]; exact Nat.le_of_ble_eq_true rfl) (by rw [hR]; exact Nat.le_of_ble_eq_true rfl) (Nat.le_of_ble_eq_true rfl) ?_
  refine k_aload_n C 5 (j := 0) dX2_init_4 rfl rfl ?_
  refine k_bipush C 7 (v := 10) dX2_init_5 rfl (by decide) ?_
  refine k_newa C 9 (N := 10) (ty := .int) (at' := .int) dX2_init_7 rfl (hA 1 (by decide)) rfl (fun _ => rfl) wq_215 (by rw [hR]; exact Nat.le_of_ble_eq_true rfl) (by rw [hR]; exact Nat.le_of_ble_eq_true rfl) (by decide) (by decide) (by decide) ((opn_ne (by omega)).trans hF1) hz1 (by decide) ?_
  show Wk x 1 10 9 [(0, .ref a)] [.ref (a + 1), .ref (a)] (SG l) (a + 2) (opn F (a) (some (.inl [.null, .null, .null, .null, .null, .null, .null, .null, .null, .null, .null, .null, .long 0, .int 0])))
  refine k_putO (k := 0) (fs' := [.ref (a + 1), .null, .null, .null, .null, .null, .null, .null, .null, .null, .null, .null, .long 0, .int 0]) C hin cl4 12 dX2_init_9 rfl (hA 0 (by decide)) (by omega) (by omega) rfl (by decide) wq_276 rfl (fun _ => rfl) (fun _ => rfl) rfl ?_
  show Wk x 1 10 12 [(0, .ref a)] [] (SG l) (a + 2) (opn F (a) (some (.inl [.ref (a + 1), .null, .null, .null, .null, .null, .null, .null, .null, .null, .null, .null, .long 0, .int 0])))
  refine k_aload_n C 13 (j := 0) dX2_init_12 rfl rfl ?_
  refine k_bipush C 15 (v := 10) dX2_init_13 rfl (by decide) ?_
  refine k_newa C 17 (N := 10) (ty := .int) (at' := .int) dX2_init_15 rfl (hA 2 (by decide)) rfl (fun _ => rfl) wq_215 (by rw [hR]; exact Nat.le_of_ble_eq_true rfl) (by rw [hR]; exact Nat.le_of_ble_eq_true rfl) (by decide) (by decide) (by decide) ((opn_ne (by omega)).trans hF2) hz2 (by decide) ?_
  show Wk x 2 20 17 [(0, .ref a)] [.ref (a + 2), .ref (a)] (SG l) (a + 3) (opn F (a) (some (.inl [.ref (a + 1), .null, .null, .null, .null, .null, .null, .null, .null, .null, .null, .null, .long 0, .int 0])))
  refine k_putO (k := 1) (fs' := [.ref (a + 1), .ref (a + 2), .null, .null, .null, .null, .null, .null, .null, .null, .null, .null, .long 0, .int 0]) C hin cl4 20 dX2_init_17 rfl (hA 0 (by decide)) (by omega) (by omega) rfl (by decide) wq_278 rfl (fun _ => rfl) (fun _ => rfl) rfl ?_
  show Wk x 2 20 20 [(0, .ref a)] [] (SG l) (a + 3) (opn F (a) (some (.inl [.ref (a + 1), .ref (a + 2), .null, .null, .null, .null, .null, .null, .null, .null, .null, .null, .long 0, .int 0])))
  refine k_aload_n C 21 (j := 0) dX2_init_20 rfl rfl ?_
  refine k_bipush C 23 (v := 10) dX2_init_21 rfl (by decide) ?_
  refine k_newa C 25 (N := 10) (ty := .int) (at' := .int) dX2_init_23 rfl (hA 3 (by decide)) rfl (fun _ => rfl) wq_215 (by rw [hR]; exact Nat.le_of_ble_eq_true rfl) (by rw [hR]; exact Nat.le_of_ble_eq_true rfl) (by decide) (by decide) (by decide) ((opn_ne (by omega)).trans hF3) hz3 (by decide) ?_
  show Wk x 3 30 25 [(0, .ref a)] [.ref (a + 3), .ref (a)] (SG l) (a + 4) (opn F (a) (some (.inl [.ref (a + 1), .ref (a + 2), .null, .null, .null, .null, .null, .null, .null, .null, .null, .null, .long 0, .int 0])))
  refine k_putO (k := 2) (fs' := [.ref (a + 1), .ref (a + 2), .ref (a + 3), .null, .null, .null, .null, .null, .null, .null, .null, .null, .long 0, .int 0]) C hin cl4 28 dX2_init_25 rfl (hA 0 (by decide)) (by omega) (by omega) rfl (by decide) wq_280 rfl (fun _ => rfl) (fun _ => rfl) rfl ?_
  show Wk x 3 30 28 [(0, .ref a)] [] (SG l) (a + 4) (opn F (a) (some (.inl [.ref (a + 1), .ref (a + 2), .ref (a + 3), .null, .null, .null, .null, .null, .null, .null, .null, .null, .long 0, .int 0])))
  refine k_aload_n C 29 (j := 0) dX2_init_28 rfl rfl ?_
  refine k_bipush C 31 (v := 10) dX2_init_29 rfl (by decide) ?_
  refine k_newa C 33 (N := 10) (ty := .int) (at' := .int) dX2_init_31 rfl (hA 4 (by decide)) rfl (fun _ => rfl) wq_215 (by rw [hR]; exact Nat.le_of_ble_eq_true rfl) (by rw [hR]; exact Nat.le_of_ble_eq_true rfl) (by decide) (by decide) (by decide) ((opn_ne (by omega)).trans hF4) hz4 (by decide) ?_
  show Wk x 4 40 33 [(0, .ref a)] [.ref (a + 4), .ref (a)] (SG l) (a + 5) (opn F (a) (some (.inl [.ref (a + 1), .ref (a + 2), .ref (a + 3), .null, .null, .null, .null, .null, .null, .null, .null, .null, .long 0, .int 0])))
  refine k_putO (k := 3) (fs' := [.ref (a + 1), .ref (a + 2), .ref (a + 3), .ref (a + 4), .null, .null, .null, .null, .null, .null, .null, .null, .long 0, .int 0]) C hin cl4 36 dX2_init_33 rfl (hA 0 (by decide)) (by omega) (by omega) rfl (by decide) wq_281 rfl (fun _ => rfl) (fun _ => rfl) rfl ?_
  show Wk x 4 40 36 [(0, .ref a)] [] (SG l) (a + 5) (opn F (a) (some (.inl [.ref (a + 1), .ref (a + 2), .ref (a + 3), .ref (a + 4), .null, .null, .null, .null, .null, .null, .null, .null, .long 0, .int 0])))
  refine k_aload_n C 37 (j := 0) dX2_init_36 rfl rfl ?_
  refine k_bipush C 39 (v := 10) dX2_init_37 rfl (by decide) ?_
  refine k_newa C 41 (N := 10) (ty := .int) (at' := .int) dX2_init_39 rfl (hA 5 (by decide)) rfl (fun _ => rfl) wq_215 (by rw [hR]; exact Nat.le_of_ble_eq_true rfl) (by rw [hR]; exact Nat.le_of_ble_eq_true rfl) (by decide) (by decide) (by decide) ((opn_ne (by omega)).trans hF5) hz5 (by decide) ?_
  show Wk x 5 50 41 [(0, .ref a)] [.ref (a + 5), .ref (a)] (SG l) (a + 6) (opn F (a) (some (.inl [.ref (a + 1), .ref (a + 2), .ref (a + 3), .ref (a + 4), .null, .null, .null, .null, .null, .null, .null, .null, .long 0, .int 0])))
  refine k_putO (k := 4) (fs' := [.ref (a + 1), .ref (a + 2), .ref (a + 3), .ref (a + 4), .ref (a + 5), .null, .null, .null, .null, .null, .null, .null, .long 0, .int 0]) C hin cl4 44 dX2_init_41 rfl (hA 0 (by decide)) (by omega) (by omega) rfl (by decide) wq_282 rfl (fun _ => rfl) (fun _ => rfl) rfl ?_
  show Wk x 5 50 44 [(0, .ref a)] [] (SG l) (a + 6) (opn F (a) (some (.inl [.ref (a + 1), .ref (a + 2), .ref (a + 3), .ref (a + 4), .ref (a + 5), .null, .null, .null, .null, .null, .null, .null, .long 0, .int 0])))
  refine k_aload_n C 45 (j := 0) dX2_init_44 rfl rfl ?_
  refine k_bipush C 47 (v := 10) dX2_init_45 rfl (by decide) ?_
  refine k_newa C 49 (N := 10) (ty := .int) (at' := .int) dX2_init_47 rfl (hA 6 (by decide)) rfl (fun _ => rfl) wq_215 (by rw [hR]; exact Nat.le_of_ble_eq_true rfl) (by rw [hR]; exact Nat.le_of_ble_eq_true rfl) (by decide) (by decide) (by decide) ((opn_ne (by omega)).trans hF6) hz6 (by decide) ?_
  show Wk x 6 60 49 [(0, .ref a)] [.ref (a + 6), .ref (a)] (SG l) (a + 7) (opn F (a) (some (.inl [.ref (a + 1), .ref (a + 2), .ref (a + 3), .ref (a + 4), .ref (a + 5), .null, .null, .null, .null, .null, .null, .null, .long 0, .int 0])))
  refine k_putO (k := 5) (fs' := [.ref (a + 1), .ref (a + 2), .ref (a + 3), .ref (a + 4), .ref (a + 5), .ref (a + 6), .null, .null, .null, .null, .null, .null, .long 0, .int 0]) C hin cl4 52 dX2_init_49 rfl (hA 0 (by decide)) (by omega) (by omega) rfl (by decide) wq_283 rfl (fun _ => rfl) (fun _ => rfl) rfl ?_
  show Wk x 6 60 52 [(0, .ref a)] [] (SG l) (a + 7) (opn F (a) (some (.inl [.ref (a + 1), .ref (a + 2), .ref (a + 3), .ref (a + 4), .ref (a + 5), .ref (a + 6), .null, .null, .null, .null, .null, .null, .long 0, .int 0])))
  refine k_aload_n C 53 (j := 0) dX2_init_52 rfl rfl ?_
  refine k_bipush C 55 (v := 10) dX2_init_53 rfl (by decide) ?_
  refine k_newa C 57 (N := 10) (ty := .int) (at' := .int) dX2_init_55 rfl (hA 7 (by decide)) rfl (fun _ => rfl) wq_215 (by rw [hR]; exact Nat.le_of_ble_eq_true rfl) (by rw [hR]; exact Nat.le_of_ble_eq_true rfl) (by decide) (by decide) (by decide) ((opn_ne (by omega)).trans hF7) hz7 (by decide) ?_
  show Wk x 7 70 57 [(0, .ref a)] [.ref (a + 7), .ref (a)] (SG l) (a + 8) (opn F (a) (some (.inl [.ref (a + 1), .ref (a + 2), .ref (a + 3), .ref (a + 4), .ref (a + 5), .ref (a + 6), .null, .null, .null, .null, .null, .null, .long 0, .int 0])))
  refine k_putO (k := 6) (fs' := [.ref (a + 1), .ref (a + 2), .ref (a + 3), .ref (a + 4), .ref (a + 5), .ref (a + 6), .ref (a + 7), .null, .null, .null, .null, .null, .long 0, .int 0]) C hin cl4 60 dX2_init_57 rfl (hA 0 (by decide)) (by omega) (by omega) rfl (by decide) wq_285 rfl (fun _ => rfl) (fun _ => rfl) rfl ?_
  show Wk x 7 70 60 [(0, .ref a)] [] (SG l) (a + 8) (opn F (a) (some (.inl [.ref (a + 1), .ref (a + 2), .ref (a + 3), .ref (a + 4), .ref (a + 5), .ref (a + 6), .ref (a + 7), .null, .null, .null, .null, .null, .long 0, .int 0])))
  refine k_aload_n C 61 (j := 0) dX2_init_60 rfl rfl ?_
  refine k_bipush C 63 (v := 10) dX2_init_61 rfl (by decide) ?_
  refine k_newa C 65 (N := 10) (ty := .long) (at' := .long) dX2_init_63 rfl (hA 8 (by decide)) rfl (fun _ => rfl) wq_216 (by rw [hR]; exact Nat.le_of_ble_eq_true rfl) (by rw [hR]; exact Nat.le_of_ble_eq_true rfl) (by decide) (by decide) (by decide) ((opn_ne (by omega)).trans hF8) hz8 (by decide) ?_
  show Wk x 8 80 65 [(0, .ref a)] [.ref (a + 8), .ref (a)] (SG l) (a + 9) (opn F (a) (some (.inl [.ref (a + 1), .ref (a + 2), .ref (a + 3), .ref (a + 4), .ref (a + 5), .ref (a + 6), .ref (a + 7), .null, .null, .null, .null, .null, .long 0, .int 0])))
  refine k_putO (k := 7) (fs' := [.ref (a + 1), .ref (a + 2), .ref (a + 3), .ref (a + 4), .ref (a + 5), .ref (a + 6), .ref (a + 7), .ref (a + 8), .null, .null, .null, .null, .long 0, .int 0]) C hin cl4 68 dX2_init_65 rfl (hA 0 (by decide)) (by omega) (by omega) rfl (by decide) wq_287 rfl (fun _ => rfl) (fun _ => rfl) rfl ?_
  show Wk x 8 80 68 [(0, .ref a)] [] (SG l) (a + 9) (opn F (a) (some (.inl [.ref (a + 1), .ref (a + 2), .ref (a + 3), .ref (a + 4), .ref (a + 5), .ref (a + 6), .ref (a + 7), .ref (a + 8), .null, .null, .null, .null, .long 0, .int 0])))
  refine k_aload_n C 69 (j := 0) dX2_init_68 rfl rfl ?_
  refine k_bipush C 71 (v := 10) dX2_init_69 rfl (by decide) ?_
  refine k_newa C 73 (N := 10) (ty := .long) (at' := .long) dX2_init_71 rfl (hA 9 (by decide)) rfl (fun _ => rfl) wq_216 (by rw [hR]; exact Nat.le_of_ble_eq_true rfl) (by rw [hR]; exact Nat.le_of_ble_eq_true rfl) (by decide) (by decide) (by decide) ((opn_ne (by omega)).trans hF9) hz9 (by decide) ?_
  show Wk x 9 90 73 [(0, .ref a)] [.ref (a + 9), .ref (a)] (SG l) (a + 10) (opn F (a) (some (.inl [.ref (a + 1), .ref (a + 2), .ref (a + 3), .ref (a + 4), .ref (a + 5), .ref (a + 6), .ref (a + 7), .ref (a + 8), .null, .null, .null, .null, .long 0, .int 0])))
  refine k_putO (k := 8) (fs' := [.ref (a + 1), .ref (a + 2), .ref (a + 3), .ref (a + 4), .ref (a + 5), .ref (a + 6), .ref (a + 7), .ref (a + 8), .ref (a + 9), .null, .null, .null, .long 0, .int 0]) C hin cl4 76 dX2_init_73 rfl (hA 0 (by decide)) (by omega) (by omega) rfl (by decide) wq_288 rfl (fun _ => rfl) (fun _ => rfl) rfl ?_
  show Wk x 9 90 76 [(0, .ref a)] [] (SG l) (a + 10) (opn F (a) (some (.inl [.ref (a + 1), .ref (a + 2), .ref (a + 3), .ref (a + 4), .ref (a + 5), .ref (a + 6), .ref (a + 7), .ref (a + 8), .ref (a + 9), .null, .null, .null, .long 0, .int 0])))
  refine k_aload_n C 77 (j := 0) dX2_init_76 rfl rfl ?_
  refine k_bipush C 79 (v := 10) dX2_init_77 rfl (by decide) ?_
  refine k_newa C 81 (N := 10) (ty := .long) (at' := .long) dX2_init_79 rfl (hA 10 (by decide)) rfl (fun _ => rfl) wq_216 (by rw [hR]; exact Nat.le_of_ble_eq_true rfl) (by rw [hR]; exact Nat.le_of_ble_eq_true rfl) (by decide) (by decide) (by decide) ((opn_ne (by omega)).trans hF10) hz10 (by decide) ?_
  show Wk x 10 100 81 [(0, .ref a)] [.ref (a + 10), .ref (a)] (SG l) (a + 11) (opn F (a) (some (.inl [.ref (a + 1), .ref (a + 2), .ref (a + 3), .ref (a + 4), .ref (a + 5), .ref (a + 6), .ref (a + 7), .ref (a + 8), .ref (a + 9), .null, .null, .null, .long 0, .int 0])))
  refine k_putO (k := 9) (fs' := [.ref (a + 1), .ref (a + 2), .ref (a + 3), .ref (a + 4), .ref (a + 5), .ref (a + 6), .ref (a + 7), .ref (a + 8), .ref (a + 9), .ref (a + 10), .null, .null, .long 0, .int 0]) C hin cl4 84 dX2_init_81 rfl (hA 0 (by decide)) (by omega) (by omega) rfl (by decide) wq_289 rfl (fun _ => rfl) (fun _ => rfl) rfl ?_
  show Wk x 10 100 84 [(0, .ref a)] [] (SG l) (a + 11) (opn F (a) (some (.inl [.ref (a + 1), .ref (a + 2), .ref (a + 3), .ref (a + 4), .ref (a + 5), .ref (a + 6), .ref (a + 7), .ref (a + 8), .ref (a + 9), .ref (a + 10), .null, .null, .long 0, .int 0])))
  refine k_aload_n C 85 (j := 0) dX2_init_84 rfl rfl ?_
  refine k_bipush C 87 (v := 10) dX2_init_85 rfl (by decide) ?_
  refine k_newa C 89 (N := 10) (ty := .long) (at' := .long) dX2_init_87 rfl (hA 11 (by decide)) rfl (fun _ => rfl) wq_216 (by rw [hR]; exact Nat.le_of_ble_eq_true rfl) (by rw [hR]; exact Nat.le_of_ble_eq_true rfl) (by decide) (by decide) (by decide) ((opn_ne (by omega)).trans hF11) hz11 (by decide) ?_
  show Wk x 11 110 89 [(0, .ref a)] [.ref (a + 11), .ref (a)] (SG l) (a + 12) (opn F (a) (some (.inl [.ref (a + 1), .ref (a + 2), .ref (a + 3), .ref (a + 4), .ref (a + 5), .ref (a + 6), .ref (a + 7), .ref (a + 8), .ref (a + 9), .ref (a + 10), .null, .null, .long 0, .int 0])))
  refine k_putO (k := 10) (fs' := [.ref (a + 1), .ref (a + 2), .ref (a + 3), .ref (a + 4), .ref (a + 5), .ref (a + 6), .ref (a + 7), .ref (a + 8), .ref (a + 9), .ref (a + 10), .ref (a + 11), .null, .long 0, .int 0]) C hin cl4 92 dX2_init_89 rfl (hA 0 (by decide)) (by omega) (by omega) rfl (by decide) wq_291 rfl (fun _ => rfl) (fun _ => rfl) rfl ?_
  show Wk x 11 110 92 [(0, .ref a)] [] (SG l) (a + 12) (opn F (a) (some (.inl [.ref (a + 1), .ref (a + 2), .ref (a + 3), .ref (a + 4), .ref (a + 5), .ref (a + 6), .ref (a + 7), .ref (a + 8), .ref (a + 9), .ref (a + 10), .ref (a + 11), .null, .long 0, .int 0])))
  refine k_aload_n C 93 (j := 0) dX2_init_92 rfl rfl ?_
  refine k_bipush C 95 (v := 10) dX2_init_93 rfl (by decide) ?_
  refine k_newa C 97 (N := 10) (ty := .long) (at' := .long) dX2_init_95 rfl (hA 12 (by decide)) rfl (fun _ => rfl) wq_216 (by rw [hR]; exact Nat.le_of_ble_eq_true rfl) (by rw [hR]; exact Nat.le_of_ble_eq_true rfl) (by decide) (by decide) (by decide) ((opn_ne (by omega)).trans hF12) hz12 (by decide) ?_
  show Wk x 12 120 97 [(0, .ref a)] [.ref (a + 12), .ref (a)] (SG l) (a + 13) (opn F (a) (some (.inl [.ref (a + 1), .ref (a + 2), .ref (a + 3), .ref (a + 4), .ref (a + 5), .ref (a + 6), .ref (a + 7), .ref (a + 8), .ref (a + 9), .ref (a + 10), .ref (a + 11), .null, .long 0, .int 0])))
  refine k_putO (k := 11) (fs' := [.ref (a + 1), .ref (a + 2), .ref (a + 3), .ref (a + 4), .ref (a + 5), .ref (a + 6), .ref (a + 7), .ref (a + 8), .ref (a + 9), .ref (a + 10), .ref (a + 11), .ref (a + 12), .long 0, .int 0]) C hin cl4 100 dX2_init_97 rfl (hA 0 (by decide)) (by omega) (by omega) rfl (by decide) wq_293 rfl (fun _ => rfl) (fun _ => rfl) rfl ?_
  show Wk x 12 120 100 [(0, .ref a)] [] (SG l) (a + 13) (opn F (a) (some (.inl [.ref (a + 1), .ref (a + 2), .ref (a + 3), .ref (a + 4), .ref (a + 5), .ref (a + 6), .ref (a + 7), .ref (a + 8), .ref (a + 9), .ref (a + 10), .ref (a + 11), .ref (a + 12), .long 0, .int 0])))
  refine k_aload_n C 101 (j := 0) dX2_init_100 rfl rfl ?_
  refine k_lconst C 102 (v := 0) dX2_init_101 rfl (by decide) ?_
  refine k_putO (k := 12) (fs' := [.ref (a + 1), .ref (a + 2), .ref (a + 3), .ref (a + 4), .ref (a + 5), .ref (a + 6), .ref (a + 7), .ref (a + 8), .ref (a + 9), .ref (a + 10), .ref (a + 11), .ref (a + 12), .long 0, .int 0]) C hin cl4 105 dX2_init_102 rfl (hA 0 (by decide)) (by omega) (by omega) rfl (by decide) wq_295 rfl (fun _ => rfl) (fun _ => rfl) rfl ?_
  show Wk x 12 120 105 [(0, .ref a)] [] (SG l) (a + 13) (opn F (a) (some (.inl [.ref (a + 1), .ref (a + 2), .ref (a + 3), .ref (a + 4), .ref (a + 5), .ref (a + 6), .ref (a + 7), .ref (a + 8), .ref (a + 9), .ref (a + 10), .ref (a + 11), .ref (a + 12), .long 0, .int 0])))
  refine k_aload_n C 106 (j := 0) dX2_init_105 rfl rfl ?_
  refine k_iconst C 107 (v := 0) dX2_init_106 rfl (by decide) ?_
  refine k_putO (k := 13) (fs' := [.ref (a + 1), .ref (a + 2), .ref (a + 3), .ref (a + 4), .ref (a + 5), .ref (a + 6), .ref (a + 7), .ref (a + 8), .ref (a + 9), .ref (a + 10), .ref (a + 11), .ref (a + 12), .long 0, .int 0]) C hin cl4 110 dX2_init_107 rfl (hA 0 (by decide)) (by omega) (by omega) rfl (by decide) wq_297 rfl (fun _ => rfl) (fun _ => rfl) rfl ?_
  show Wk x 12 120 110 [(0, .ref a)] [] (SG l) (a + 13) (opn F (a) (some (.inl [.ref (a + 1), .ref (a + 2), .ref (a + 3), .ref (a + 4), .ref (a + 5), .ref (a + 6), .ref (a + 7), .ref (a + 8), .ref (a + 9), .ref (a + 10), .ref (a + 11), .ref (a + 12), .long 0, .int 0])))
  refine k_doneO (σ' := SG l) C (hA 0 (by decide)) hF (fun j hj => ⟨rfl, rfl, rfl⟩) (hflds _ hz0.1 hz0.2.1) ?_
  exact k_vret C dX2_init_110 hQ (Nat.le_of_ble_eq_true rfl) (Nat.le_of_ble_eq_true rfl)
theorem ct_X1 {F : Op} {l : List Nat} (hA : ∀ k, k < 9 → kd (44 + k) = kShape.getD k (.inr 99)) (hF : F (44) = none) (hFj : ∀ j, 0 < j → j < 9 → F (44 + j) = none) (hl : ∀ j, j < 9 → 44 + j ∉ l) : CtK yX1_init cX1_init 1 1 8 80 (44) (SG l) (45) (opn F (44) (some (.inl [.null, .null, .int 0, .null, .null, .null, .null, .null, .int 0, .null]))) (SG l) (53) F := by
  have hb : 44 + 9 ≤ 235 := kd_lt (hA 8 (by decide)) (by decide)
  refine ctK_of (by decide) rfl (by decide) (fun x C hin hR hQ => ?_)
  have C : Ck x RX1 cX1_init 1 := C
  have hF1 : F (45) = none := hFj 1 (by decide) (by decide)
  have hz1 : Zr (SG l) (45) := SG_z (hl 1 (by decide))
  have hF2 : F (46) = none := hFj 2 (by decide) (by decide)
  have hz2 : Zr (SG l) (46) := SG_z (hl 2 (by decide))
  have hF3 : F (47) = none := hFj 3 (by decide) (by decide)
  have hz3 : Zr (SG l) (47) := SG_z (hl 3 (by decide))
  have hF4 : F (48) = none := hFj 4 (by decide) (by decide)
  have hz4 : Zr (SG l) (48) := SG_z (hl 4 (by decide))
  have hF5 : F (49) = none := hFj 5 (by decide) (by decide)
  have hz5 : Zr (SG l) (49) := SG_z (hl 5 (by decide))
  have hF6 : F (50) = none := hFj 6 (by decide) (by decide)
  have hz6 : Zr (SG l) (50) := SG_z (hl 6 (by decide))
  have hF7 : F (51) = none := hFj 7 (by decide) (by decide)
  have hz7 : Zr (SG l) (51) := SG_z (hl 7 (by decide))
  have hF8 : F (52) = none := hFj 8 (by decide) (by decide)
  have hz8 : Zr (SG l) (52) := SG_z (hl 8 (by decide))
  have hz0 : Zr (SG l) (44) := SG_z (hl 0 (by decide))
  have hflds : ∀ (σ : Mem), σ.1 (44) = (fun _ => 0) → σ.2.1 (44) = (fun _ => 0) → ∀ g : Gh, ([.ref (45), .ref (46), .int 0, .ref (47), .ref (48), .ref (49), .ref (50), .ref (51), .int 0, .ref (52)] : List Value).map (rv g) = (List.range (nfC 3)).map (fun k => fvl g σ (44) 3 k) := by
    intro σ e1 e2 g
    have h1 : (List.range (nfC 3)).map (fun k => fvl g σ (44) 3 k) = [.ref (gA g (45)), .ref (gA g (46)), .int (σ.1 (44) 2), .ref (gA g (47)), .ref (gA g (48)), .ref (gA g (49)), .ref (gA g (50)), .ref (gA g (51)), .int (σ.1 (44) 8), .ref (gA g (52))] := rfl
    rw [h1]
    (try rw [e1]); (try rw [e2])
    rfl
  refine k_aload_n C 1 (j := 0) dX1_init_0 rfl rfl ?_
  refine k_obj C 4 dX1_init_1 rfl wq_223 wq_117 wq_118 (by rw [hR]; exact Nat.le_of_ble_eq_true rfl) (by rw [hR]; exact Nat.le_of_ble_eq_true rfl) (Nat.le_of_ble_eq_true rfl) ?_
  refine k_aload_n C 5 (j := 0) dX1_init_4 rfl rfl ?_
  refine k_bipush C 7 (v := 10) dX1_init_5 rfl (by decide) ?_
  refine k_newa C 9 (N := 10) (ty := .int) (at' := .int) dX1_init_7 rfl (hA 1 (by decide)) rfl (fun _ => rfl) wq_215 (by rw [hR]; exact Nat.le_of_ble_eq_true rfl) (by rw [hR]; exact Nat.le_of_ble_eq_true rfl) (by decide) (by decide) (by decide) ((opn_ne (by omega)).trans hF1) hz1 (by decide) ?_
  show Wk x 1 10 9 [(0, .ref 44)] [.ref (45), .ref (44)] (SG l) (46) (opn F (44) (some (.inl [.null, .null, .int 0, .null, .null, .null, .null, .null, .int 0, .null])))
  refine k_putO (k := 0) (fs' := [.ref (45), .null, .int 0, .null, .null, .null, .null, .null, .int 0, .null]) C hin cl3 12 dX1_init_9 rfl (hA 0 (by decide)) (by omega) (by omega) rfl (by decide) wq_224 rfl (fun _ => rfl) (fun _ => rfl) rfl ?_
  show Wk x 1 10 12 [(0, .ref 44)] [] (SG l) (46) (opn F (44) (some (.inl [.ref (45), .null, .int 0, .null, .null, .null, .null, .null, .int 0, .null])))
  refine k_aload_n C 13 (j := 0) dX1_init_12 rfl rfl ?_
  refine k_bipush C 15 (v := 10) dX1_init_13 rfl (by decide) ?_
  refine k_newa C 17 (N := 10) (ty := .int) (at' := .int) dX1_init_15 rfl (hA 2 (by decide)) rfl (fun _ => rfl) wq_215 (by rw [hR]; exact Nat.le_of_ble_eq_true rfl) (by rw [hR]; exact Nat.le_of_ble_eq_true rfl) (by decide) (by decide) (by decide) ((opn_ne (by omega)).trans hF2) hz2 (by decide) ?_
  show Wk x 2 20 17 [(0, .ref 44)] [.ref (46), .ref (44)] (SG l) (47) (opn F (44) (some (.inl [.ref (45), .null, .int 0, .null, .null, .null, .null, .null, .int 0, .null])))
  refine k_putO (k := 1) (fs' := [.ref (45), .ref (46), .int 0, .null, .null, .null, .null, .null, .int 0, .null]) C hin cl3 20 dX1_init_17 rfl (hA 0 (by decide)) (by omega) (by omega) rfl (by decide) wq_227 rfl (fun _ => rfl) (fun _ => rfl) rfl ?_
  show Wk x 2 20 20 [(0, .ref 44)] [] (SG l) (47) (opn F (44) (some (.inl [.ref (45), .ref (46), .int 0, .null, .null, .null, .null, .null, .int 0, .null])))
  refine k_aload_n C 21 (j := 0) dX1_init_20 rfl rfl ?_
  refine k_iconst C 22 (v := 0) dX1_init_21 rfl (by decide) ?_
  refine k_putO (k := 2) (fs' := [.ref (45), .ref (46), .int 0, .null, .null, .null, .null, .null, .int 0, .null]) C hin cl3 25 dX1_init_22 rfl (hA 0 (by decide)) (by omega) (by omega) rfl (by decide) wq_229 rfl (fun _ => rfl) (fun _ => rfl) rfl ?_
  show Wk x 2 20 25 [(0, .ref 44)] [] (SG l) (47) (opn F (44) (some (.inl [.ref (45), .ref (46), .int 0, .null, .null, .null, .null, .null, .int 0, .null])))
  refine k_aload_n C 26 (j := 0) dX1_init_25 rfl rfl ?_
  refine k_bipush C 28 (v := 10) dX1_init_26 rfl (by decide) ?_
  refine k_newa C 30 (N := 10) (ty := .int) (at' := .int) dX1_init_28 rfl (hA 3 (by decide)) rfl (fun _ => rfl) wq_215 (by rw [hR]; exact Nat.le_of_ble_eq_true rfl) (by rw [hR]; exact Nat.le_of_ble_eq_true rfl) (by decide) (by decide) (by decide) ((opn_ne (by omega)).trans hF3) hz3 (by decide) ?_
  show Wk x 3 30 30 [(0, .ref 44)] [.ref (47), .ref (44)] (SG l) (48) (opn F (44) (some (.inl [.ref (45), .ref (46), .int 0, .null, .null, .null, .null, .null, .int 0, .null])))
  refine k_putO (k := 3) (fs' := [.ref (45), .ref (46), .int 0, .ref (47), .null, .null, .null, .null, .int 0, .null]) C hin cl3 33 dX1_init_30 rfl (hA 0 (by decide)) (by omega) (by omega) rfl (by decide) wq_232 rfl (fun _ => rfl) (fun _ => rfl) rfl ?_
  show Wk x 3 30 33 [(0, .ref 44)] [] (SG l) (48) (opn F (44) (some (.inl [.ref (45), .ref (46), .int 0, .ref (47), .null, .null, .null, .null, .int 0, .null])))
  refine k_aload_n C 34 (j := 0) dX1_init_33 rfl rfl ?_
  refine k_bipush C 36 (v := 10) dX1_init_34 rfl (by decide) ?_
  refine k_newa C 38 (N := 10) (ty := .int) (at' := .int) dX1_init_36 rfl (hA 4 (by decide)) rfl (fun _ => rfl) wq_215 (by rw [hR]; exact Nat.le_of_ble_eq_true rfl) (by rw [hR]; exact Nat.le_of_ble_eq_true rfl) (by decide) (by decide) (by decide) ((opn_ne (by omega)).trans hF4) hz4 (by decide) ?_
  show Wk x 4 40 38 [(0, .ref 44)] [.ref (48), .ref (44)] (SG l) (49) (opn F (44) (some (.inl [.ref (45), .ref (46), .int 0, .ref (47), .null, .null, .null, .null, .int 0, .null])))
  refine k_putO (k := 4) (fs' := [.ref (45), .ref (46), .int 0, .ref (47), .ref (48), .null, .null, .null, .int 0, .null]) C hin cl3 41 dX1_init_38 rfl (hA 0 (by decide)) (by omega) (by omega) rfl (by decide) wq_234 rfl (fun _ => rfl) (fun _ => rfl) rfl ?_
  show Wk x 4 40 41 [(0, .ref 44)] [] (SG l) (49) (opn F (44) (some (.inl [.ref (45), .ref (46), .int 0, .ref (47), .ref (48), .null, .null, .null, .int 0, .null])))
  refine k_aload_n C 42 (j := 0) dX1_init_41 rfl rfl ?_
  refine k_bipush C 44 (v := 10) dX1_init_42 rfl (by decide) ?_
  refine k_newa C 46 (N := 10) (ty := .int) (at' := .int) dX1_init_44 rfl (hA 5 (by decide)) rfl (fun _ => rfl) wq_215 (by rw [hR]; exact Nat.le_of_ble_eq_true rfl) (by rw [hR]; exact Nat.le_of_ble_eq_true rfl) (by decide) (by decide) (by decide) ((opn_ne (by omega)).trans hF5) hz5 (by decide) ?_
  show Wk x 5 50 46 [(0, .ref 44)] [.ref (49), .ref (44)] (SG l) (50) (opn F (44) (some (.inl [.ref (45), .ref (46), .int 0, .ref (47), .ref (48), .null, .null, .null, .int 0, .null])))
  refine k_putO (k := 5) (fs' := [.ref (45), .ref (46), .int 0, .ref (47), .ref (48), .ref (49), .null, .null, .int 0, .null]) C hin cl3 49 dX1_init_46 rfl (hA 0 (by decide)) (by omega) (by omega) rfl (by decide) wq_236 rfl (fun _ => rfl) (fun _ => rfl) rfl ?_
  show Wk x 5 50 49 [(0, .ref 44)] [] (SG l) (50) (opn F (44) (some (.inl [.ref (45), .ref (46), .int 0, .ref (47), .ref (48), .ref (49), .null, .null, .int 0, .null])))
  refine k_aload_n C 50 (j := 0) dX1_init_49 rfl rfl ?_
  refine k_bipush C 52 (v := 10) dX1_init_50 rfl (by decide) ?_
  refine k_newa C 54 (N := 10) (ty := .int) (at' := .int) dX1_init_52 rfl (hA 6 (by decide)) rfl (fun _ => rfl) wq_215 (by rw [hR]; exact Nat.le_of_ble_eq_true rfl) (by rw [hR]; exact Nat.le_of_ble_eq_true rfl) (by decide) (by decide) (by decide) ((opn_ne (by omega)).trans hF6) hz6 (by decide) ?_
  show Wk x 6 60 54 [(0, .ref 44)] [.ref (50), .ref (44)] (SG l) (51) (opn F (44) (some (.inl [.ref (45), .ref (46), .int 0, .ref (47), .ref (48), .ref (49), .null, .null, .int 0, .null])))
  refine k_putO (k := 6) (fs' := [.ref (45), .ref (46), .int 0, .ref (47), .ref (48), .ref (49), .ref (50), .null, .int 0, .null]) C hin cl3 57 dX1_init_54 rfl (hA 0 (by decide)) (by omega) (by omega) rfl (by decide) wq_238 rfl (fun _ => rfl) (fun _ => rfl) rfl ?_
  show Wk x 6 60 57 [(0, .ref 44)] [] (SG l) (51) (opn F (44) (some (.inl [.ref (45), .ref (46), .int 0, .ref (47), .ref (48), .ref (49), .ref (50), .null, .int 0, .null])))
  refine k_aload_n C 58 (j := 0) dX1_init_57 rfl rfl ?_
  refine k_bipush C 60 (v := 10) dX1_init_58 rfl (by decide) ?_
  refine k_newa C 62 (N := 10) (ty := .int) (at' := .int) dX1_init_60 rfl (hA 7 (by decide)) rfl (fun _ => rfl) wq_215 (by rw [hR]; exact Nat.le_of_ble_eq_true rfl) (by rw [hR]; exact Nat.le_of_ble_eq_true rfl) (by decide) (by decide) (by decide) ((opn_ne (by omega)).trans hF7) hz7 (by decide) ?_
  show Wk x 7 70 62 [(0, .ref 44)] [.ref (51), .ref (44)] (SG l) (52) (opn F (44) (some (.inl [.ref (45), .ref (46), .int 0, .ref (47), .ref (48), .ref (49), .ref (50), .null, .int 0, .null])))
  refine k_putO (k := 7) (fs' := [.ref (45), .ref (46), .int 0, .ref (47), .ref (48), .ref (49), .ref (50), .ref (51), .int 0, .null]) C hin cl3 65 dX1_init_62 rfl (hA 0 (by decide)) (by omega) (by omega) rfl (by decide) wq_241 rfl (fun _ => rfl) (fun _ => rfl) rfl ?_
  show Wk x 7 70 65 [(0, .ref 44)] [] (SG l) (52) (opn F (44) (some (.inl [.ref (45), .ref (46), .int 0, .ref (47), .ref (48), .ref (49), .ref (50), .ref (51), .int 0, .null])))
  refine k_aload_n C 66 (j := 0) dX1_init_65 rfl rfl ?_
  refine k_iconst C 67 (v := 0) dX1_init_66 rfl (by decide) ?_
  refine k_putO (k := 8) (fs' := [.ref (45), .ref (46), .int 0, .ref (47), .ref (48), .ref (49), .ref (50), .ref (51), .int 0, .null]) C hin cl3 70 dX1_init_67 rfl (hA 0 (by decide)) (by omega) (by omega) rfl (by decide) wq_243 rfl (fun _ => rfl) (fun _ => rfl) rfl ?_
  show Wk x 7 70 70 [(0, .ref 44)] [] (SG l) (52) (opn F (44) (some (.inl [.ref (45), .ref (46), .int 0, .ref (47), .ref (48), .ref (49), .ref (50), .ref (51), .int 0, .null])))
  refine k_aload_n C 71 (j := 0) dX1_init_70 rfl rfl ?_
  refine k_bipush C 73 (v := 10) dX1_init_71 rfl (by decide) ?_
  refine k_newa C 75 (N := 10) (ty := .boolean) (at' := .boolean) dX1_init_73 rfl (hA 8 (by decide)) rfl (fun _ => rfl) wq_269 (by rw [hR]; exact Nat.le_of_ble_eq_true rfl) (by rw [hR]; exact Nat.le_of_ble_eq_true rfl) (by decide) (by decide) (by decide) ((opn_ne (by omega)).trans hF8) hz8 (by decide) ?_
  show Wk x 8 80 75 [(0, .ref 44)] [.ref (52), .ref (44)] (SG l) (53) (opn F (44) (some (.inl [.ref (45), .ref (46), .int 0, .ref (47), .ref (48), .ref (49), .ref (50), .ref (51), .int 0, .null])))
  refine k_putO (k := 9) (fs' := [.ref (45), .ref (46), .int 0, .ref (47), .ref (48), .ref (49), .ref (50), .ref (51), .int 0, .ref (52)]) C hin cl3 78 dX1_init_75 rfl (hA 0 (by decide)) (by omega) (by omega) rfl (by decide) wq_246 rfl (fun _ => rfl) (fun _ => rfl) rfl ?_
  show Wk x 8 80 78 [(0, .ref 44)] [] (SG l) (53) (opn F (44) (some (.inl [.ref (45), .ref (46), .int 0, .ref (47), .ref (48), .ref (49), .ref (50), .ref (51), .int 0, .ref (52)])))
  refine k_doneO (σ' := SG l) C (hA 0 (by decide)) hF (fun j hj => ⟨rfl, rfl, rfl⟩) (hflds _ hz0.1 hz0.2.1) ?_
  exact k_vret C dX1_init_78 hQ (Nat.le_of_ble_eq_true rfl) (Nat.le_of_ble_eq_true rfl)
theorem ct_X3 {F : Op} {l : List Nat} (hA : ∀ k, k < 4 → kd (79 + k) = kText.getD k (.inr 99)) (hF : F (79) = none) (hFj : ∀ j, 0 < j → j < 4 → F (79 + j) = none) (hl : ∀ j, j < 4 → 79 + j ∉ l) : CtK yX3_init cX3_init 1 1 3 160 (79) (SG l) (80) (opn F (79) (some (.inl [.null, .int 0, .int 0, .int 0, .null, .null]))) (SG l) (83) F := by
  have hb : 79 + 4 ≤ 235 := kd_lt (hA 3 (by decide)) (by decide)
  refine ctK_of (by decide) rfl (by decide) (fun x C hin hR hQ => ?_)
  have C : Ck x RX3 cX3_init 1 := C
  have hF1 : F (80) = none := hFj 1 (by decide) (by decide)
  have hz1 : Zr (SG l) (80) := SG_z (hl 1 (by decide))
  have hF2 : F (81) = none := hFj 2 (by decide) (by decide)
  have hz2 : Zr (SG l) (81) := SG_z (hl 2 (by decide))
  have hF3 : F (82) = none := hFj 3 (by decide) (by decide)
  have hz3 : Zr (SG l) (82) := SG_z (hl 3 (by decide))
  have hz0 : Zr (SG l) (79) := SG_z (hl 0 (by decide))
  have hflds : ∀ (σ : Mem), σ.1 (79) = (fun _ => 0) → σ.2.1 (79) = (fun _ => 0) → ∀ g : Gh, ([.ref (80), .int 0, .int 0, .int 0, .ref (81), .ref (82)] : List Value).map (rv g) = (List.range (nfC 5)).map (fun k => fvl g σ (79) 5 k) := by
    intro σ e1 e2 g
    have h1 : (List.range (nfC 5)).map (fun k => fvl g σ (79) 5 k) = [.ref (gA g (80)), .int (σ.1 (79) 1), .int (σ.1 (79) 2), .int (σ.1 (79) 3), .ref (gA g (81)), .ref (gA g (82))] := rfl
    rw [h1]
    (try rw [e1]); (try rw [e2])
    rfl
  refine k_aload_n C 1 (j := 0) dX3_init_0 rfl rfl ?_
  refine k_obj C 4 dX3_init_1 rfl wq_333 wq_117 wq_118 (by rw [hR]; exact Nat.le_of_ble_eq_true rfl) (by rw [hR]; exact Nat.le_of_ble_eq_true rfl) (Nat.le_of_ble_eq_true rfl) ?_
  refine k_aload_n C 5 (j := 0) dX3_init_4 rfl rfl ?_
  refine k_bipush C 7 (v := 60) dX3_init_5 rfl (by decide) ?_
  refine k_newa C 9 (N := 60) (ty := .char) (at' := .char) dX3_init_7 rfl (hA 1 (by decide)) rfl (fun _ => rfl) wq_357 (by rw [hR]; exact Nat.le_of_ble_eq_true rfl) (by rw [hR]; exact Nat.le_of_ble_eq_true rfl) (by decide) (by decide) (by decide) ((opn_ne (by omega)).trans hF1) hz1 (by decide) ?_
  show Wk x 1 60 9 [(0, .ref 79)] [.ref (80), .ref (79)] (SG l) (81) (opn F (79) (some (.inl [.null, .int 0, .int 0, .int 0, .null, .null])))
  refine k_putO (k := 0) (fs' := [.ref (80), .int 0, .int 0, .int 0, .null, .null]) C hin cl5 12 dX3_init_9 rfl (hA 0 (by decide)) (by omega) (by omega) rfl (by decide) wq_334 rfl (fun _ => rfl) (fun _ => rfl) rfl ?_
  show Wk x 1 60 12 [(0, .ref 79)] [] (SG l) (81) (opn F (79) (some (.inl [.ref (80), .int 0, .int 0, .int 0, .null, .null])))
  refine k_aload_n C 13 (j := 0) dX3_init_12 rfl rfl ?_
  refine k_iconst C 14 (v := 0) dX3_init_13 rfl (by decide) ?_
  refine k_putO (k := 1) (fs' := [.ref (80), .int 0, .int 0, .int 0, .null, .null]) C hin cl5 17 dX3_init_14 rfl (hA 0 (by decide)) (by omega) (by omega) rfl (by decide) wq_336 rfl (fun _ => rfl) (fun _ => rfl) rfl ?_
  show Wk x 1 60 17 [(0, .ref 79)] [] (SG l) (81) (opn F (79) (some (.inl [.ref (80), .int 0, .int 0, .int 0, .null, .null])))
  refine k_aload_n C 18 (j := 0) dX3_init_17 rfl rfl ?_
  refine k_iconst C 19 (v := 0) dX3_init_18 rfl (by decide) ?_
  refine k_putO (k := 2) (fs' := [.ref (80), .int 0, .int 0, .int 0, .null, .null]) C hin cl5 22 dX3_init_19 rfl (hA 0 (by decide)) (by omega) (by omega) rfl (by decide) wq_338 rfl (fun _ => rfl) (fun _ => rfl) rfl ?_
  show Wk x 1 60 22 [(0, .ref 79)] [] (SG l) (81) (opn F (79) (some (.inl [.ref (80), .int 0, .int 0, .int 0, .null, .null])))
  refine k_aload_n C 23 (j := 0) dX3_init_22 rfl rfl ?_
  refine k_iconst C 24 (v := 0) dX3_init_23 rfl (by decide) ?_
  refine k_putO (k := 3) (fs' := [.ref (80), .int 0, .int 0, .int 0, .null, .null]) C hin cl5 27 dX3_init_24 rfl (hA 0 (by decide)) (by omega) (by omega) rfl (by decide) wq_339 rfl (fun _ => rfl) (fun _ => rfl) rfl ?_
  show Wk x 1 60 27 [(0, .ref 79)] [] (SG l) (81) (opn F (79) (some (.inl [.ref (80), .int 0, .int 0, .int 0, .null, .null])))
  refine k_aload_n C 28 (j := 0) dX3_init_27 rfl rfl ?_
  refine k_bipush C 30 (v := 20) dX3_init_28 rfl (by decide) ?_
  refine k_newa C 32 (N := 20) (ty := .char) (at' := .char) dX3_init_30 rfl (hA 2 (by decide)) rfl (fun _ => rfl) wq_357 (by rw [hR]; exact Nat.le_of_ble_eq_true rfl) (by rw [hR]; exact Nat.le_of_ble_eq_true rfl) (by decide) (by decide) (by decide) ((opn_ne (by omega)).trans hF2) hz2 (by decide) ?_
  show Wk x 2 80 32 [(0, .ref 79)] [.ref (81), .ref (79)] (SG l) (82) (opn F (79) (some (.inl [.ref (80), .int 0, .int 0, .int 0, .null, .null])))
  refine k_putO (k := 4) (fs' := [.ref (80), .int 0, .int 0, .int 0, .ref (81), .null]) C hin cl5 35 dX3_init_32 rfl (hA 0 (by decide)) (by omega) (by omega) rfl (by decide) wq_341 rfl (fun _ => rfl) (fun _ => rfl) rfl ?_
  show Wk x 2 80 35 [(0, .ref 79)] [] (SG l) (82) (opn F (79) (some (.inl [.ref (80), .int 0, .int 0, .int 0, .ref (81), .null])))
  refine k_aload_n C 36 (j := 0) dX3_init_35 rfl rfl ?_
  refine k_bipush C 38 (v := 80) dX3_init_36 rfl (by decide) ?_
  refine k_newa C 40 (N := 80) (ty := .int) (at' := .int) dX3_init_38 rfl (hA 3 (by decide)) rfl (fun _ => rfl) wq_215 (by rw [hR]; exact Nat.le_of_ble_eq_true rfl) (by rw [hR]; exact Nat.le_of_ble_eq_true rfl) (by decide) (by decide) (by decide) ((opn_ne (by omega)).trans hF3) hz3 (by decide) ?_
  show Wk x 3 160 40 [(0, .ref 79)] [.ref (82), .ref (79)] (SG l) (83) (opn F (79) (some (.inl [.ref (80), .int 0, .int 0, .int 0, .ref (81), .null])))
  refine k_putO (k := 5) (fs' := [.ref (80), .int 0, .int 0, .int 0, .ref (81), .ref (82)]) C hin cl5 43 dX3_init_40 rfl (hA 0 (by decide)) (by omega) (by omega) rfl (by decide) wq_343 rfl (fun _ => rfl) (fun _ => rfl) rfl ?_
  show Wk x 3 160 43 [(0, .ref 79)] [] (SG l) (83) (opn F (79) (some (.inl [.ref (80), .int 0, .int 0, .int 0, .ref (81), .ref (82)])))
  refine k_doneO (σ' := SG l) C (hA 0 (by decide)) hF (fun j hj => ⟨rfl, rfl, rfl⟩) (hflds _ hz0.1 hz0.2.1) ?_
  exact k_vret C dX3_init_43 hQ (Nat.le_of_ble_eq_true rfl) (Nat.le_of_ble_eq_true rfl)
