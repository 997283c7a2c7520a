/-! ===== the cases of the law ===== -/
section LC
variable {p : Program} {l : Launch} {e : Env} {s : State} {m : MethodId} {below : List Frame} {meth : Method} {c : Code} {b L : Nat} {xs : Nat → Int32} {D : va_G} {cI cL cA cJ : ClassId} {xd : Nat → Nat} {H : Heap} {locs : List Jvm.Loc} {cells slots : Nat} {Q : State → Prop} {jls : Array Slot} {i j xx xm o : Nat}
/-- the long that the law makes of two ints -/
def lgv (a b : Int32) : Int64 := ((Int32.ofInt a.toInt).toInt64 <<< ((32 : Int32).toInt64 &&& 63)) ||| ((Int32.ofInt b.toInt).toInt64 &&& 4294967295)
theorem lw_lng {pc : Nat} {st : List Value} (hC : LwC l p s m meth c b L xs D cI cL cA cJ xd) (hL : L ≤ 3072) (hl : LwL jls b xx xm o i) (hS : va_S (LwA s) s.heap H locs) (hi : i + 5 < L)
    (d0 : decode code pc = .ok (.aload_n 0, 1)) (d1 : decode code (pc + 1) = .ok (.iload 4, 2)) (d3 : decode code (pc + 3) = .ok (.iconst 2, 1)) (d4 : decode code (pc + 4) = .ok (.iadd, 1)) (d5 : decode code (pc + 5) = .ok (.iaload, 1)) (d6 : decode code (pc + 6) = .ok (.i2l, 1)) (d7 : decode code (pc + 7) = .ok (.bipush 32, 2)) (d9 : decode code (pc + 9) = .ok (.lshl, 1))
    (f0 : decode code (pc + 10) = .ok (.aload_n 0, 1)) (f1 : decode code (pc + 11) = .ok (.iload 4, 2)) (f3 : decode code (pc + 13) = .ok (.iconst 3, 1)) (f4 : decode code (pc + 14) = .ok (.iadd, 1)) (f5 : decode code (pc + 15) = .ok (.iaload, 1)) (f6 : decode code (pc + 16) = .ok (.i2l, 1)) (f7 : decode code (pc + 17) = .ok (.ldc2_w 98, 3)) (fa : decode code (pc + 20) = .ok (.land, 1)) (fb : decode code (pc + 21) = .ok (.lor, 1))
    (kk : W p l e room_1 s m #[Value.ref b] below meth c H locs cells slots Q (F0 m (pc + 22) jls (.long (Int64.ofInt (lgv (xs (i + 2)) (xs (i + 3))).toInt) :: st))) : W p l e room_1 s m #[Value.ref b] below meth c H locs cells slots Q (F0 m pc jls st) := by
  obtain ⟨hx, hb, hr, hml, hown, hts, -⟩ := id hC
  refine lw_arg (k := 2) hC hL hl hS rfl (by omega) d0 d1 d3 d4 d5 ?_
  refine lv_i2l hx hb d6 rfl ?_
  refine lv_bipush (v := 32) hx hb d7 rfl ?_
  refine lv_lshl hx hb d9 rfl ?_
  refine lw_arg (k := 3) hC hL hl hS rfl (by omega) f0 f1 f3 f4 f5 ?_
  refine lv_i2l hx hb f6 rfl ?_
  refine lv_ldc2 hx hb hown (hts _ zL_98) f7 ?_
  refine lv_land hx hb fa ?_
  refine lv_lor hx hb fb ?_
  rw [Int64.ofInt_toInt] at kk
  exact kk
theorem lc_feed (hC : LwC l p s m meth c b L xs D cI cL cA cJ xd) (hL : L ≤ 3072) (hl : LwL jls b xx xm o i) (hi : i + 5 < L) (hj : j + 1 ≤ 600) (hI : LwI D cI cL cA cJ s j xx xm o H locs cells slots)
    (kk : ∀ (H' : Heap) (locs' : List Jvm.Loc) (cells' slots' : Nat), LwI D cI cL cA cJ s (j + 1) xx xm o H' locs' cells' slots' → W p l e room_1 s m #[Value.ref b] below meth c H' locs' cells' slots' Q (F0 m 1345 jls [])) : W p l e room_1 s m #[Value.ref b] below meth c H locs cells slots Q (F0 m 192 jls []) := by
  obtain ⟨hx, hb, -⟩ := id hC
  have hS := hI.S
  refine lv_aload_n hx hb dL_law_192 rfl (lv_at hl 3 rfl) ?_
  refine lw_arg (k := 1) hC hL hl hS rfl (by omega) dL_law_193 dL_law_194 dL_law_196 dL_law_197 dL_law_198 ?_
  refine lw_arg (k := 2) hC hL hl hS rfl (by omega) dL_law_199 dL_law_200 dL_law_202 dL_law_203 dL_law_204 ?_
  refine lw_arg (k := 3) hC hL hl hS rfl (by omega) dL_law_205 dL_law_206 dL_law_208 dL_law_209 dL_law_210 ?_
  refine lw_arg (k := 4) hC hL hl hS rfl (by omega) dL_law_211 dL_law_212 dL_law_214 dL_law_215 dL_law_216 ?_
  refine lw_arg (k := 5) hC hL hl hS rfl (by omega) dL_law_217 dL_law_218 dL_law_220 dL_law_221 dL_law_222 ?_
  refine lw_two (as := [aI (xs (i + 1)).toInt, aI (xs (i + 2)).toInt, aI (xs (i + 3)).toInt, aI (xs (i + 4)).toInt, aI (xs (i + 5)).toInt]) (vs := [.int (Int32.ofInt (xs (i + 5)).toInt), .int (Int32.ofInt (xs (i + 4)).toInt), .int (Int32.ofInt (xs (i + 3)).toInt), .int (Int32.ofInt (xs (i + 2)).toInt), .int (Int32.ofInt (xs (i + 1)).toInt)]) (pc1 := 223) (pc2 := 257) hC hj hl.1 hI dL_law_223 vL_19 dL_law_257 vL_23 (List.forall_mem_cons.mpr ⟨ok_i _, List.forall_mem_cons.mpr ⟨ok_i _, List.forall_mem_cons.mpr ⟨ok_i _, List.forall_mem_cons.mpr ⟨ok_i _, List.forall_mem_cons.mpr ⟨ok_i _, fun _ h => by cases h⟩⟩⟩⟩⟩) (Nat.le_of_ble_eq_true rfl) (Nat.le_of_ble_eq_true rfl) dL_law_260 rfl (fun _ => rfl) (fun _ _ _ _ _ _ _ _ _ _ _ _ _ _ hc hS => st_feed hc hS) (fun v H' locs' cells' slots' hS' k => ?_) kk
  refine lv_aload_n hx hb dL_law_226 rfl (lv_at hl 2 rfl) ?_
  refine lw_arg (k := 1) hC hL hl hS' rfl (by omega) dL_law_227 dL_law_228 dL_law_230 dL_law_231 dL_law_232 ?_
  refine lw_arg (k := 2) hC hL hl hS' rfl (by omega) dL_law_233 dL_law_234 dL_law_236 dL_law_237 dL_law_238 ?_
  refine lw_arg (k := 3) hC hL hl hS' rfl (by omega) dL_law_239 dL_law_240 dL_law_242 dL_law_243 dL_law_244 ?_
  refine lw_arg (k := 4) hC hL hl hS' rfl (by omega) dL_law_245 dL_law_246 dL_law_248 dL_law_249 dL_law_250 ?_
  refine lw_arg (k := 5) hC hL hl hS' rfl (by omega) dL_law_251 dL_law_252 dL_law_254 dL_law_255 dL_law_256 ?_
  exact k
theorem lc_end (hC : LwC l p s m meth c b L xs D cI cL cA cJ xd) (hL : L ≤ 3072) (hl : LwL jls b xx xm o i) (hi : i + 5 < L) (hj : j + 1 ≤ 600) (hI : LwI D cI cL cA cJ s j xx xm o H locs cells slots)
    (kk : ∀ (H' : Heap) (locs' : List Jvm.Loc) (cells' slots' : Nat), LwI D cI cL cA cJ s (j + 1) xx xm o H' locs' cells' slots' → W p l e room_1 s m #[Value.ref b] below meth c H' locs' cells' slots' Q (F0 m 1345 jls [])) : W p l e room_1 s m #[Value.ref b] below meth c H locs cells slots Q (F0 m 265 jls []) := by
  obtain ⟨hx, hb, -⟩ := id hC
  have hS := hI.S
  refine lv_aload_n hx hb dL_law_265 rfl (lv_at hl 3 rfl) ?_
  refine lw_arg (k := 1) hC hL hl hS rfl (by omega) dL_law_266 dL_law_267 dL_law_269 dL_law_270 dL_law_271 ?_
  refine lw_two (as := [aI (xs (i + 1)).toInt]) (vs := [.int (Int32.ofInt (xs (i + 1)).toInt)]) (pc1 := 272) (pc2 := 282) hC hj hl.1 hI dL_law_272 vL_24 dL_law_282 vL_28 (List.forall_mem_cons.mpr ⟨ok_i _, fun _ h => by cases h⟩) (Nat.le_of_ble_eq_true rfl) (Nat.le_of_ble_eq_true rfl) dL_law_285 rfl (fun _ => rfl) (fun _ _ _ _ _ _ _ _ _ _ _ _ _ _ hc hS => st_end hc hS) (fun v H' locs' cells' slots' hS' k => ?_) kk
  refine lv_aload_n hx hb dL_law_275 rfl (lv_at hl 2 rfl) ?_
  refine lw_arg (k := 1) hC hL hl hS' rfl (by omega) dL_law_276 dL_law_277 dL_law_279 dL_law_280 dL_law_281 ?_
  exact k
theorem lc_fault (hC : LwC l p s m meth c b L xs D cI cL cA cJ xd) (hL : L ≤ 3072) (hl : LwL jls b xx xm o i) (hi : i + 5 < L) (hj : j + 1 ≤ 600) (hI : LwI D cI cL cA cJ s j xx xm o H locs cells slots)
    (kk : ∀ (H' : Heap) (locs' : List Jvm.Loc) (cells' slots' : Nat), LwI D cI cL cA cJ s (j + 1) xx xm o H' locs' cells' slots' → W p l e room_1 s m #[Value.ref b] below meth c H' locs' cells' slots' Q (F0 m 1345 jls [])) : W p l e room_1 s m #[Value.ref b] below meth c H locs cells slots Q (F0 m 290 jls []) := by
  obtain ⟨hx, hb, -⟩ := id hC
  have hS := hI.S
  refine lv_aload_n hx hb dL_law_290 rfl (lv_at hl 3 rfl) ?_
  refine lw_arg (k := 1) hC hL hl hS rfl (by omega) dL_law_291 dL_law_292 dL_law_294 dL_law_295 dL_law_296 ?_
  refine lw_two (as := [aI (xs (i + 1)).toInt]) (vs := [.int (Int32.ofInt (xs (i + 1)).toInt)]) (pc1 := 297) (pc2 := 307) hC hj hl.1 hI dL_law_297 vL_29 dL_law_307 vL_33 (List.forall_mem_cons.mpr ⟨ok_i _, fun _ h => by cases h⟩) (Nat.le_of_ble_eq_true rfl) (Nat.le_of_ble_eq_true rfl) dL_law_310 rfl (fun _ => rfl) (fun _ _ _ _ _ _ _ _ _ _ _ _ _ _ hc hS => st_fault hc hS) (fun v H' locs' cells' slots' hS' k => ?_) kk
  refine lv_aload_n hx hb dL_law_300 rfl (lv_at hl 2 rfl) ?_
  refine lw_arg (k := 1) hC hL hl hS' rfl (by omega) dL_law_301 dL_law_302 dL_law_304 dL_law_305 dL_law_306 ?_
  exact k
theorem lc_text (hC : LwC l p s m meth c b L xs D cI cL cA cJ xd) (hL : L ≤ 3072) (hl : LwL jls b xx xm o i) (hi : i + 5 < L) (hj : j + 1 ≤ 600) (hI : LwI D cI cL cA cJ s j xx xm o H locs cells slots)
    (kk : ∀ (H' : Heap) (locs' : List Jvm.Loc) (cells' slots' : Nat), LwI D cI cL cA cJ s (j + 1) xx xm o H' locs' cells' slots' → W p l e room_1 s m #[Value.ref b] below meth c H' locs' cells' slots' Q (F0 m 1345 jls [])) : W p l e room_1 s m #[Value.ref b] below meth c H locs cells slots Q (F0 m 315 jls []) := by
  obtain ⟨hx, hb, -⟩ := id hC
  have hS := hI.S
  refine lv_aload_n hx hb dL_law_315 rfl (lv_at hl 3 rfl) ?_
  refine lw_arg (k := 1) hC hL hl hS rfl (by omega) dL_law_316 dL_law_317 dL_law_319 dL_law_320 dL_law_321 ?_
  refine lw_two (as := [aI (xs (i + 1)).toInt]) (vs := [.int (Int32.ofInt (xs (i + 1)).toInt)]) (pc1 := 322) (pc2 := 332) hC hj hl.1 hI dL_law_322 vL_34 dL_law_332 vL_37 (List.forall_mem_cons.mpr ⟨ok_i _, fun _ h => by cases h⟩) (Nat.le_of_ble_eq_true rfl) (Nat.le_of_ble_eq_true rfl) dL_law_335 rfl (fun _ => rfl) (fun _ _ _ _ _ _ _ _ _ _ _ _ _ _ hc hS => st_text hc hS) (fun v H' locs' cells' slots' hS' k => ?_) kk
  refine lv_aload_n hx hb dL_law_325 rfl (lv_at hl 2 rfl) ?_
  refine lw_arg (k := 1) hC hL hl hS' rfl (by omega) dL_law_326 dL_law_327 dL_law_329 dL_law_330 dL_law_331 ?_
  exact k
theorem lc_rule (hC : LwC l p s m meth c b L xs D cI cL cA cJ xd) (hL : L ≤ 3072) (hl : LwL jls b xx xm o i) (hi : i + 5 < L) (hj : j + 1 ≤ 600) (hI : LwI D cI cL cA cJ s j xx xm o H locs cells slots)
    (kk : ∀ (H' : Heap) (locs' : List Jvm.Loc) (cells' slots' : Nat), LwI D cI cL cA cJ s (j + 1) xx xm o H' locs' cells' slots' → W p l e room_1 s m #[Value.ref b] below meth c H' locs' cells' slots' Q (F0 m 1345 jls [])) : W p l e room_1 s m #[Value.ref b] below meth c H locs cells slots Q (F0 m 340 jls []) := by
  obtain ⟨hx, hb, -⟩ := id hC
  have hS := hI.S
  refine lv_aload_n hx hb dL_law_340 rfl (lv_at hl 3 rfl) ?_
  refine lw_arg (k := 1) hC hL hl hS rfl (by omega) dL_law_341 dL_law_342 dL_law_344 dL_law_345 dL_law_346 ?_
  refine lw_two (as := [aI (xs (i + 1)).toInt]) (vs := [.int (Int32.ofInt (xs (i + 1)).toInt)]) (pc1 := 347) (pc2 := 357) hC hj hl.1 hI dL_law_347 vL_38 dL_law_357 vL_41 (List.forall_mem_cons.mpr ⟨ok_i _, fun _ h => by cases h⟩) (Nat.le_of_ble_eq_true rfl) (Nat.le_of_ble_eq_true rfl) dL_law_360 rfl (fun _ => rfl) (fun _ _ _ _ _ _ _ _ _ _ _ _ _ _ hc hS => st_rule hc hS) (fun v H' locs' cells' slots' hS' k => ?_) kk
  refine lv_aload_n hx hb dL_law_350 rfl (lv_at hl 2 rfl) ?_
  refine lw_arg (k := 1) hC hL hl hS' rfl (by omega) dL_law_351 dL_law_352 dL_law_354 dL_law_355 dL_law_356 ?_
  exact k
theorem lc_cell (hC : LwC l p s m meth c b L xs D cI cL cA cJ xd) (hL : L ≤ 3072) (hl : LwL jls b xx xm o i) (hi : i + 5 < L) (hj : j + 1 ≤ 600) (hI : LwI D cI cL cA cJ s j xx xm o H locs cells slots)
    (kk : ∀ (H' : Heap) (locs' : List Jvm.Loc) (cells' slots' : Nat), LwI D cI cL cA cJ s (j + 1) xx xm o H' locs' cells' slots' → W p l e room_1 s m #[Value.ref b] below meth c H' locs' cells' slots' Q (F0 m 1345 jls [])) : W p l e room_1 s m #[Value.ref b] below meth c H locs cells slots Q (F0 m 433 jls []) := by
  obtain ⟨hx, hb, -⟩ := id hC
  have hS := hI.S
  refine lv_aload_n hx hb dL_law_433 rfl (lv_at hl 3 rfl) ?_
  refine lw_arg (k := 1) hC hL hl hS rfl (by omega) dL_law_434 dL_law_435 dL_law_437 dL_law_438 dL_law_439 ?_
  refine lw_arg (k := 2) hC hL hl hS rfl (by omega) dL_law_440 dL_law_441 dL_law_443 dL_law_444 dL_law_445 ?_
  refine lw_arg (k := 3) hC hL hl hS rfl (by omega) dL_law_446 dL_law_447 dL_law_449 dL_law_450 dL_law_451 ?_
  refine lw_arg (k := 4) hC hL hl hS rfl (by omega) dL_law_452 dL_law_453 dL_law_455 dL_law_456 dL_law_457 ?_
  refine lw_two (as := [aI (xs (i + 1)).toInt, aI (xs (i + 2)).toInt, aI (xs (i + 3)).toInt, aI (xs (i + 4)).toInt]) (vs := [.int (Int32.ofInt (xs (i + 4)).toInt), .int (Int32.ofInt (xs (i + 3)).toInt), .int (Int32.ofInt (xs (i + 2)).toInt), .int (Int32.ofInt (xs (i + 1)).toInt)]) (pc1 := 458) (pc2 := 486) hC hj hl.1 hI dL_law_458 vL_52 dL_law_486 vL_56 (List.forall_mem_cons.mpr ⟨ok_i _, List.forall_mem_cons.mpr ⟨ok_i _, List.forall_mem_cons.mpr ⟨ok_i _, List.forall_mem_cons.mpr ⟨ok_i _, fun _ h => by cases h⟩⟩⟩⟩) (Nat.le_of_ble_eq_true rfl) (Nat.le_of_ble_eq_true rfl) dL_law_489 rfl (fun _ => rfl) (fun _ _ _ _ _ _ _ _ _ _ _ _ _ _ hc hS => st_cell hc hS) (fun v H' locs' cells' slots' hS' k => ?_) kk
  refine lv_aload_n hx hb dL_law_461 rfl (lv_at hl 2 rfl) ?_
  refine lw_arg (k := 1) hC hL hl hS' rfl (by omega) dL_law_462 dL_law_463 dL_law_465 dL_law_466 dL_law_467 ?_
  refine lw_arg (k := 2) hC hL hl hS' rfl (by omega) dL_law_468 dL_law_469 dL_law_471 dL_law_472 dL_law_473 ?_
  refine lw_arg (k := 3) hC hL hl hS' rfl (by omega) dL_law_474 dL_law_475 dL_law_477 dL_law_478 dL_law_479 ?_
  refine lw_arg (k := 4) hC hL hl hS' rfl (by omega) dL_law_480 dL_law_481 dL_law_483 dL_law_484 dL_law_485 ?_
  exact k
theorem lc_waits (hC : LwC l p s m meth c b L xs D cI cL cA cJ xd) (hL : L ≤ 3072) (hl : LwL jls b xx xm o i) (hi : i + 5 < L) (hj : j + 1 ≤ 600) (hI : LwI D cI cL cA cJ s j xx xm o H locs cells slots)
    (kk : ∀ (H' : Heap) (locs' : List Jvm.Loc) (cells' slots' : Nat), LwI D cI cL cA cJ s (j + 1) xx xm o H' locs' cells' slots' → W p l e room_1 s m #[Value.ref b] below meth c H' locs' cells' slots' Q (F0 m 1345 jls [])) : W p l e room_1 s m #[Value.ref b] below meth c H locs cells slots Q (F0 m 494 jls []) := by
  obtain ⟨hx, hb, -⟩ := id hC
  have hS := hI.S
  refine lv_aload_n hx hb dL_law_494 rfl (lv_at hl 3 rfl) ?_
  refine lw_arg (k := 1) hC hL hl hS rfl (by omega) dL_law_495 dL_law_496 dL_law_498 dL_law_499 dL_law_500 ?_
  refine lw_arg (k := 2) hC hL hl hS rfl (by omega) dL_law_501 dL_law_502 dL_law_504 dL_law_505 dL_law_506 ?_
  refine lw_arg (k := 3) hC hL hl hS rfl (by omega) dL_law_507 dL_law_508 dL_law_510 dL_law_511 dL_law_512 ?_
  refine lw_two (as := [aI (xs (i + 1)).toInt, aI (xs (i + 2)).toInt, aI (xs (i + 3)).toInt]) (vs := [.int (Int32.ofInt (xs (i + 3)).toInt), .int (Int32.ofInt (xs (i + 2)).toInt), .int (Int32.ofInt (xs (i + 1)).toInt)]) (pc1 := 513) (pc2 := 535) hC hj hl.1 hI dL_law_513 vL_57 dL_law_535 vL_61 (List.forall_mem_cons.mpr ⟨ok_i _, List.forall_mem_cons.mpr ⟨ok_i _, List.forall_mem_cons.mpr ⟨ok_i _, fun _ h => by cases h⟩⟩⟩) (Nat.le_of_ble_eq_true rfl) (Nat.le_of_ble_eq_true rfl) dL_law_538 rfl (fun _ => rfl) (fun _ _ _ _ _ _ _ _ _ _ _ _ _ _ hc hS => st_waits hc hS) (fun v H' locs' cells' slots' hS' k => ?_) kk
  refine lv_aload_n hx hb dL_law_516 rfl (lv_at hl 2 rfl) ?_
  refine lw_arg (k := 1) hC hL hl hS' rfl (by omega) dL_law_517 dL_law_518 dL_law_520 dL_law_521 dL_law_522 ?_
  refine lw_arg (k := 2) hC hL hl hS' rfl (by omega) dL_law_523 dL_law_524 dL_law_526 dL_law_527 dL_law_528 ?_
  refine lw_arg (k := 3) hC hL hl hS' rfl (by omega) dL_law_529 dL_law_530 dL_law_532 dL_law_533 dL_law_534 ?_
  exact k
theorem lc_letter (hC : LwC l p s m meth c b L xs D cI cL cA cJ xd) (hL : L ≤ 3072) (hl : LwL jls b xx xm o i) (hi : i + 5 < L) (hj : j + 1 ≤ 600) (hI : LwI D cI cL cA cJ s j xx xm o H locs cells slots)
    (kk : ∀ (H' : Heap) (locs' : List Jvm.Loc) (cells' slots' : Nat), LwI D cI cL cA cJ s (j + 1) xx xm o H' locs' cells' slots' → W p l e room_1 s m #[Value.ref b] below meth c H' locs' cells' slots' Q (F0 m 1345 jls [])) : W p l e room_1 s m #[Value.ref b] below meth c H locs cells slots Q (F0 m 543 jls []) := by
  obtain ⟨hx, hb, -⟩ := id hC
  have hS := hI.S
  refine lv_aload_n hx hb dL_law_543 rfl (lv_at hl 3 rfl) ?_
  refine lw_arg (k := 1) hC hL hl hS rfl (by omega) dL_law_544 dL_law_545 dL_law_547 dL_law_548 dL_law_549 ?_
  refine lw_arg (k := 2) hC hL hl hS rfl (by omega) dL_law_550 dL_law_551 dL_law_553 dL_law_554 dL_law_555 ?_
  refine lw_two (as := [aI (xs (i + 1)).toInt, aI (xs (i + 2)).toInt]) (vs := [.int (Int32.ofInt (xs (i + 2)).toInt), .int (Int32.ofInt (xs (i + 1)).toInt)]) (pc1 := 556) (pc2 := 572) hC hj hl.1 hI dL_law_556 vL_62 dL_law_572 vL_65 (List.forall_mem_cons.mpr ⟨ok_i _, List.forall_mem_cons.mpr ⟨ok_i _, fun _ h => by cases h⟩⟩) (Nat.le_of_ble_eq_true rfl) (Nat.le_of_ble_eq_true rfl) dL_law_575 rfl (fun _ => rfl) (fun _ _ _ _ _ _ _ _ _ _ _ _ _ _ hc hS => st_letter (ok_i _) hc hS) (fun v H' locs' cells' slots' hS' k => ?_) kk
  refine lv_aload_n hx hb dL_law_559 rfl (lv_at hl 2 rfl) ?_
  refine lw_arg (k := 1) hC hL hl hS' rfl (by omega) dL_law_560 dL_law_561 dL_law_563 dL_law_564 dL_law_565 ?_
  refine lw_arg (k := 2) hC hL hl hS' rfl (by omega) dL_law_566 dL_law_567 dL_law_569 dL_law_570 dL_law_571 ?_
  exact k
theorem lc_channel (hC : LwC l p s m meth c b L xs D cI cL cA cJ xd) (hL : L ≤ 3072) (hl : LwL jls b xx xm o i) (hi : i + 5 < L) (hj : j + 1 ≤ 600) (hI : LwI D cI cL cA cJ s j xx xm o H locs cells slots)
    (kk : ∀ (H' : Heap) (locs' : List Jvm.Loc) (cells' slots' : Nat), LwI D cI cL cA cJ s (j + 1) xx xm o H' locs' cells' slots' → W p l e room_1 s m #[Value.ref b] below meth c H' locs' cells' slots' Q (F0 m 1345 jls [])) : W p l e room_1 s m #[Value.ref b] below meth c H locs cells slots Q (F0 m 580 jls []) := by
  obtain ⟨hx, hb, -⟩ := id hC
  have hS := hI.S
  refine lv_aload_n hx hb dL_law_580 rfl (lv_at hl 3 rfl) ?_
  refine lw_arg (k := 1) hC hL hl hS rfl (by omega) dL_law_581 dL_law_582 dL_law_584 dL_law_585 dL_law_586 ?_
  refine lw_arg (k := 2) hC hL hl hS rfl (by omega) dL_law_587 dL_law_588 dL_law_590 dL_law_591 dL_law_592 ?_
  refine lw_two (as := [aI (xs (i + 1)).toInt, aI (xs (i + 2)).toInt]) (vs := [.int (Int32.ofInt (xs (i + 2)).toInt), .int (Int32.ofInt (xs (i + 1)).toInt)]) (pc1 := 593) (pc2 := 609) hC hj hl.1 hI dL_law_593 vL_66 dL_law_609 vL_69 (List.forall_mem_cons.mpr ⟨ok_i _, List.forall_mem_cons.mpr ⟨ok_i _, fun _ h => by cases h⟩⟩) (Nat.le_of_ble_eq_true rfl) (Nat.le_of_ble_eq_true rfl) dL_law_612 rfl (fun _ => rfl) (fun _ _ _ _ _ _ _ _ _ _ _ _ _ _ hc hS => st_channel hc hS) (fun v H' locs' cells' slots' hS' k => ?_) kk
  refine lv_aload_n hx hb dL_law_596 rfl (lv_at hl 2 rfl) ?_
  refine lw_arg (k := 1) hC hL hl hS' rfl (by omega) dL_law_597 dL_law_598 dL_law_600 dL_law_601 dL_law_602 ?_
  refine lw_arg (k := 2) hC hL hl hS' rfl (by omega) dL_law_603 dL_law_604 dL_law_606 dL_law_607 dL_law_608 ?_
  exact k
theorem lc_loss (hC : LwC l p s m meth c b L xs D cI cL cA cJ xd) (hL : L ≤ 3072) (hl : LwL jls b xx xm o i) (hi : i + 5 < L) (hj : j + 1 ≤ 600) (hI : LwI D cI cL cA cJ s j xx xm o H locs cells slots)
    (kk : ∀ (H' : Heap) (locs' : List Jvm.Loc) (cells' slots' : Nat), LwI D cI cL cA cJ s (j + 1) xx xm o H' locs' cells' slots' → W p l e room_1 s m #[Value.ref b] below meth c H' locs' cells' slots' Q (F0 m 1345 jls [])) : W p l e room_1 s m #[Value.ref b] below meth c H locs cells slots Q (F0 m 617 jls []) := by
  obtain ⟨hx, hb, -⟩ := id hC
  have hS := hI.S
  refine lv_aload_n hx hb dL_law_617 rfl (lv_at hl 3 rfl) ?_
  refine lw_arg (k := 1) hC hL hl hS rfl (by omega) dL_law_618 dL_law_619 dL_law_621 dL_law_622 dL_law_623 ?_
  refine lw_two (as := [aI (xs (i + 1)).toInt]) (vs := [.int (Int32.ofInt (xs (i + 1)).toInt)]) (pc1 := 624) (pc2 := 634) hC hj hl.1 hI dL_law_624 vL_70 dL_law_634 vL_73 (List.forall_mem_cons.mpr ⟨ok_i _, fun _ h => by cases h⟩) (Nat.le_of_ble_eq_true rfl) (Nat.le_of_ble_eq_true rfl) dL_law_637 rfl (fun _ => rfl) (fun _ _ _ _ _ _ _ _ _ _ _ _ _ _ hc hS => st_loss hc hS) (fun v H' locs' cells' slots' hS' k => ?_) kk
  refine lv_aload_n hx hb dL_law_627 rfl (lv_at hl 2 rfl) ?_
  refine lw_arg (k := 1) hC hL hl hS' rfl (by omega) dL_law_628 dL_law_629 dL_law_631 dL_law_632 dL_law_633 ?_
  exact k
theorem lc_frames (hC : LwC l p s m meth c b L xs D cI cL cA cJ xd) (hL : L ≤ 3072) (hl : LwL jls b xx xm o i) (hi : i + 5 < L) (hj : j + 1 ≤ 600) (hI : LwI D cI cL cA cJ s j xx xm o H locs cells slots)
    (kk : ∀ (H' : Heap) (locs' : List Jvm.Loc) (cells' slots' : Nat), LwI D cI cL cA cJ s (j + 1) xx xm o H' locs' cells' slots' → W p l e room_1 s m #[Value.ref b] below meth c H' locs' cells' slots' Q (F0 m 1345 jls [])) : W p l e room_1 s m #[Value.ref b] below meth c H locs cells slots Q (F0 m 642 jls []) := by
  obtain ⟨hx, hb, -⟩ := id hC
  have hS := hI.S
  refine lv_aload_n hx hb dL_law_642 rfl (lv_at hl 3 rfl) ?_
  refine lw_arg (k := 1) hC hL hl hS rfl (by omega) dL_law_643 dL_law_644 dL_law_646 dL_law_647 dL_law_648 ?_
  refine lw_two (as := [aI (xs (i + 1)).toInt]) (vs := [.int (Int32.ofInt (xs (i + 1)).toInt)]) (pc1 := 649) (pc2 := 659) hC hj hl.1 hI dL_law_649 vL_74 dL_law_659 vL_77 (List.forall_mem_cons.mpr ⟨ok_i _, fun _ h => by cases h⟩) (Nat.le_of_ble_eq_true rfl) (Nat.le_of_ble_eq_true rfl) dL_law_662 rfl (fun _ => rfl) (fun _ _ _ _ _ _ _ _ _ _ _ _ _ _ hc hS => st_frames hc hS) (fun v H' locs' cells' slots' hS' k => ?_) kk
  refine lv_aload_n hx hb dL_law_652 rfl (lv_at hl 2 rfl) ?_
  refine lw_arg (k := 1) hC hL hl hS' rfl (by omega) dL_law_653 dL_law_654 dL_law_656 dL_law_657 dL_law_658 ?_
  exact k
theorem lc_deal (hC : LwC l p s m meth c b L xs D cI cL cA cJ xd) (hL : L ≤ 3072) (hl : LwL jls b xx xm o i) (hi : i + 5 < L) (hj : j + 1 ≤ 600) (hI : LwI D cI cL cA cJ s j xx xm o H locs cells slots)
    (kk : ∀ (H' : Heap) (locs' : List Jvm.Loc) (cells' slots' : Nat), LwI D cI cL cA cJ s (j + 1) xx xm o H' locs' cells' slots' → W p l e room_1 s m #[Value.ref b] below meth c H' locs' cells' slots' Q (F0 m 1345 jls [])) : W p l e room_1 s m #[Value.ref b] below meth c H locs cells slots Q (F0 m 667 jls []) := by
  obtain ⟨hx, hb, -⟩ := id hC
  have hS := hI.S
  refine lv_aload_n hx hb dL_law_667 rfl (lv_at hl 3 rfl) ?_
  refine lw_arg (k := 1) hC hL hl hS rfl (by omega) dL_law_668 dL_law_669 dL_law_671 dL_law_672 dL_law_673 ?_
  refine lw_arg (k := 2) hC hL hl hS rfl (by omega) dL_law_674 dL_law_675 dL_law_677 dL_law_678 dL_law_679 ?_
  refine lw_arg (k := 3) hC hL hl hS rfl (by omega) dL_law_680 dL_law_681 dL_law_683 dL_law_684 dL_law_685 ?_
  refine lw_two (as := [aI (xs (i + 1)).toInt, aI (xs (i + 2)).toInt, aI (xs (i + 3)).toInt]) (vs := [.int (Int32.ofInt (xs (i + 3)).toInt), .int (Int32.ofInt (xs (i + 2)).toInt), .int (Int32.ofInt (xs (i + 1)).toInt)]) (pc1 := 686) (pc2 := 708) hC hj hl.1 hI dL_law_686 vL_78 dL_law_708 vL_81 (List.forall_mem_cons.mpr ⟨ok_i _, List.forall_mem_cons.mpr ⟨ok_i _, List.forall_mem_cons.mpr ⟨ok_i _, fun _ h => by cases h⟩⟩⟩) (Nat.le_of_ble_eq_true rfl) (Nat.le_of_ble_eq_true rfl) dL_law_711 rfl (fun _ => rfl) (fun _ _ _ _ _ _ _ _ _ _ _ _ _ _ hc hS => st_deal hc hS) (fun v H' locs' cells' slots' hS' k => ?_) kk
  refine lv_aload_n hx hb dL_law_689 rfl (lv_at hl 2 rfl) ?_
  refine lw_arg (k := 1) hC hL hl hS' rfl (by omega) dL_law_690 dL_law_691 dL_law_693 dL_law_694 dL_law_695 ?_
  refine lw_arg (k := 2) hC hL hl hS' rfl (by omega) dL_law_696 dL_law_697 dL_law_699 dL_law_700 dL_law_701 ?_
  refine lw_arg (k := 3) hC hL hl hS' rfl (by omega) dL_law_702 dL_law_703 dL_law_705 dL_law_706 dL_law_707 ?_
  exact k
theorem lc_lose (hC : LwC l p s m meth c b L xs D cI cL cA cJ xd) (hL : L ≤ 3072) (hl : LwL jls b xx xm o i) (hi : i + 5 < L) (hj : j + 1 ≤ 600) (hI : LwI D cI cL cA cJ s j xx xm o H locs cells slots)
    (kk : ∀ (H' : Heap) (locs' : List Jvm.Loc) (cells' slots' : Nat), LwI D cI cL cA cJ s (j + 1) xx xm o H' locs' cells' slots' → W p l e room_1 s m #[Value.ref b] below meth c H' locs' cells' slots' Q (F0 m 1345 jls [])) : W p l e room_1 s m #[Value.ref b] below meth c H locs cells slots Q (F0 m 716 jls []) := by
  obtain ⟨hx, hb, -⟩ := id hC
  have hS := hI.S
  refine lv_aload_n hx hb dL_law_716 rfl (lv_at hl 3 rfl) ?_
  refine lw_arg (k := 1) hC hL hl hS rfl (by omega) dL_law_717 dL_law_718 dL_law_720 dL_law_721 dL_law_722 ?_
  refine lw_two (as := [aI (xs (i + 1)).toInt]) (vs := [.int (Int32.ofInt (xs (i + 1)).toInt)]) (pc1 := 723) (pc2 := 733) hC hj hl.1 hI dL_law_723 vL_82 dL_law_733 vL_85 (List.forall_mem_cons.mpr ⟨ok_i _, fun _ h => by cases h⟩) (Nat.le_of_ble_eq_true rfl) (Nat.le_of_ble_eq_true rfl) dL_law_736 rfl (fun _ => rfl) (fun _ _ _ _ _ _ _ _ _ _ _ _ _ _ hc hS => st_lose hc hS) (fun v H' locs' cells' slots' hS' k => ?_) kk
  refine lv_aload_n hx hb dL_law_726 rfl (lv_at hl 2 rfl) ?_
  refine lw_arg (k := 1) hC hL hl hS' rfl (by omega) dL_law_727 dL_law_728 dL_law_730 dL_law_731 dL_law_732 ?_
  exact k
theorem lc_jam (hC : LwC l p s m meth c b L xs D cI cL cA cJ xd) (hL : L ≤ 3072) (hl : LwL jls b xx xm o i) (hi : i + 5 < L) (hj : j + 1 ≤ 600) (hI : LwI D cI cL cA cJ s j xx xm o H locs cells slots)
    (kk : ∀ (H' : Heap) (locs' : List Jvm.Loc) (cells' slots' : Nat), LwI D cI cL cA cJ s (j + 1) xx xm o H' locs' cells' slots' → W p l e room_1 s m #[Value.ref b] below meth c H' locs' cells' slots' Q (F0 m 1345 jls [])) : W p l e room_1 s m #[Value.ref b] below meth c H locs cells slots Q (F0 m 741 jls []) := by
  obtain ⟨hx, hb, -⟩ := id hC
  have hS := hI.S
  refine lv_aload_n hx hb dL_law_741 rfl (lv_at hl 3 rfl) ?_
  refine lw_arg (k := 1) hC hL hl hS rfl (by omega) dL_law_742 dL_law_743 dL_law_745 dL_law_746 dL_law_747 ?_
  refine lw_two (as := [aI (xs (i + 1)).toInt]) (vs := [.int (Int32.ofInt (xs (i + 1)).toInt)]) (pc1 := 748) (pc2 := 758) hC hj hl.1 hI dL_law_748 vL_86 dL_law_758 vL_89 (List.forall_mem_cons.mpr ⟨ok_i _, fun _ h => by cases h⟩) (Nat.le_of_ble_eq_true rfl) (Nat.le_of_ble_eq_true rfl) dL_law_761 rfl (fun _ => rfl) (fun _ _ _ _ _ _ _ _ _ _ _ _ _ _ hc hS => st_jam hc hS) (fun v H' locs' cells' slots' hS' k => ?_) kk
  refine lv_aload_n hx hb dL_law_751 rfl (lv_at hl 2 rfl) ?_
  refine lw_arg (k := 1) hC hL hl hS' rfl (by omega) dL_law_752 dL_law_753 dL_law_755 dL_law_756 dL_law_757 ?_
  exact k
theorem lc_load (hC : LwC l p s m meth c b L xs D cI cL cA cJ xd) (hL : L ≤ 3072) (hl : LwL jls b xx xm o i) (hi : i + 5 < L) (hj : j + 1 ≤ 600) (hI : LwI D cI cL cA cJ s j xx xm o H locs cells slots)
    (kk : ∀ (H' : Heap) (locs' : List Jvm.Loc) (cells' slots' : Nat), LwI D cI cL cA cJ s (j + 1) xx xm o H' locs' cells' slots' → W p l e room_1 s m #[Value.ref b] below meth c H' locs' cells' slots' Q (F0 m 1345 jls [])) : W p l e room_1 s m #[Value.ref b] below meth c H locs cells slots Q (F0 m 766 jls []) := by
  obtain ⟨hx, hb, -⟩ := id hC
  have hS := hI.S
  refine lv_aload_n hx hb dL_law_766 rfl (lv_at hl 3 rfl) ?_
  refine lw_arg (k := 1) hC hL hl hS rfl (by omega) dL_law_767 dL_law_768 dL_law_770 dL_law_771 dL_law_772 ?_
  refine lw_arg (k := 2) hC hL hl hS rfl (by omega) dL_law_773 dL_law_774 dL_law_776 dL_law_777 dL_law_778 ?_
  refine lw_two (as := [aI (xs (i + 1)).toInt, aI (xs (i + 2)).toInt]) (vs := [.int (Int32.ofInt (xs (i + 2)).toInt), .int (Int32.ofInt (xs (i + 1)).toInt)]) (pc1 := 779) (pc2 := 795) hC hj hl.1 hI dL_law_779 vL_90 dL_law_795 vL_93 (List.forall_mem_cons.mpr ⟨ok_i _, List.forall_mem_cons.mpr ⟨ok_i _, fun _ h => by cases h⟩⟩) (Nat.le_of_ble_eq_true rfl) (Nat.le_of_ble_eq_true rfl) dL_law_798 rfl (fun _ => rfl) (fun _ _ _ _ _ _ _ _ _ _ _ _ _ _ hc hS => st_load hc hS) (fun v H' locs' cells' slots' hS' k => ?_) kk
  refine lv_aload_n hx hb dL_law_782 rfl (lv_at hl 2 rfl) ?_
  refine lw_arg (k := 1) hC hL hl hS' rfl (by omega) dL_law_783 dL_law_784 dL_law_786 dL_law_787 dL_law_788 ?_
  refine lw_arg (k := 2) hC hL hl hS' rfl (by omega) dL_law_789 dL_law_790 dL_law_792 dL_law_793 dL_law_794 ?_
  exact k
theorem lc_auto (hC : LwC l p s m meth c b L xs D cI cL cA cJ xd) (hL : L ≤ 3072) (hl : LwL jls b xx xm o i) (hi : i + 5 < L) (hj : j + 1 ≤ 600) (hI : LwI D cI cL cA cJ s j xx xm o H locs cells slots)
    (kk : ∀ (H' : Heap) (locs' : List Jvm.Loc) (cells' slots' : Nat), LwI D cI cL cA cJ s (j + 1) xx xm o H' locs' cells' slots' → W p l e room_1 s m #[Value.ref b] below meth c H' locs' cells' slots' Q (F0 m 1345 jls [])) : W p l e room_1 s m #[Value.ref b] below meth c H locs cells slots Q (F0 m 803 jls []) := by
  obtain ⟨hx, hb, -⟩ := id hC
  have hS := hI.S
  refine lv_aload_n hx hb dL_law_803 rfl (lv_at hl 3 rfl) ?_
  refine lw_two (as := []) (vs := []) (pc1 := 804) (pc2 := 808) hC hj hl.1 hI dL_law_804 vL_94 dL_law_808 vL_97 (fun _ h => by cases h) (Nat.le_of_ble_eq_true rfl) (Nat.le_of_ble_eq_true rfl) dL_law_811 rfl (fun _ => rfl) (fun _ _ _ _ _ _ _ _ _ _ _ _ _ _ hc hS => st_auto hc hS) (fun v H' locs' cells' slots' hS' k => ?_) kk
  refine lv_aload_n hx hb dL_law_807 rfl (lv_at hl 2 rfl) ?_
  exact k
theorem lc_years (hC : LwC l p s m meth c b L xs D cI cL cA cJ xd) (hL : L ≤ 3072) (hl : LwL jls b xx xm o i) (hi : i + 5 < L) (hj : j + 1 ≤ 600) (hI : LwI D cI cL cA cJ s j xx xm o H locs cells slots)
    (kk : ∀ (H' : Heap) (locs' : List Jvm.Loc) (cells' slots' : Nat), LwI D cI cL cA cJ s (j + 1) xx xm o H' locs' cells' slots' → W p l e room_1 s m #[Value.ref b] below meth c H' locs' cells' slots' Q (F0 m 1345 jls [])) : W p l e room_1 s m #[Value.ref b] below meth c H locs cells slots Q (F0 m 816 jls []) := by
  obtain ⟨hx, hb, -⟩ := id hC
  have hS := hI.S
  refine lv_aload_n hx hb dL_law_816 rfl (lv_at hl 3 rfl) ?_
  refine lw_arg (k := 1) hC hL hl hS rfl (by omega) dL_law_817 dL_law_818 dL_law_820 dL_law_821 dL_law_822 ?_
  refine lw_lng hC hL hl hS hi dL_law_823 dL_law_824 dL_law_826 dL_law_827 dL_law_828 dL_law_829 dL_law_830 dL_law_832 dL_law_833 dL_law_834 dL_law_836 dL_law_837 dL_law_838 dL_law_839 dL_law_840 dL_law_843 dL_law_844 ?_
  refine lw_two (as := [aI (xs (i + 1)).toInt, aL (lgv (xs (i + 2)) (xs (i + 3))).toInt]) (vs := [.long (Int64.ofInt (lgv (xs (i + 2)) (xs (i + 3))).toInt), .int (Int32.ofInt (xs (i + 1)).toInt)]) (pc1 := 845) (pc2 := 877) hC hj hl.1 hI dL_law_845 vL_100 dL_law_877 vL_104 (List.forall_mem_cons.mpr ⟨ok_i _, List.forall_mem_cons.mpr ⟨ok_l _, fun _ h => by cases h⟩⟩) (Nat.le_of_ble_eq_true rfl) (Nat.le_of_ble_eq_true rfl) dL_law_880 rfl (fun _ => rfl) (fun _ _ _ _ _ _ _ _ _ _ _ _ _ _ hc hS => st_years hc hS) (fun v H' locs' cells' slots' hS' k => ?_) kk
  refine lv_aload_n hx hb dL_law_848 rfl (lv_at hl 2 rfl) ?_
  refine lw_arg (k := 1) hC hL hl hS' rfl (by omega) dL_law_849 dL_law_850 dL_law_852 dL_law_853 dL_law_854 ?_
  refine lw_lng hC hL hl hS' hi dL_law_855 dL_law_856 dL_law_858 dL_law_859 dL_law_860 dL_law_861 dL_law_862 dL_law_864 dL_law_865 dL_law_866 dL_law_868 dL_law_869 dL_law_870 dL_law_871 dL_law_872 dL_law_875 dL_law_876 ?_
  exact k
theorem lc_status (hC : LwC l p s m meth c b L xs D cI cL cA cJ xd) (hL : L ≤ 3072) (hl : LwL jls b xx xm o i) (hi : i + 5 < L) (hj : j + 1 ≤ 600) (hI : LwI D cI cL cA cJ s j xx xm o H locs cells slots)
    (kk : ∀ (H' : Heap) (locs' : List Jvm.Loc) (cells' slots' : Nat), LwI D cI cL cA cJ s (j + 1) xx xm o H' locs' cells' slots' → W p l e room_1 s m #[Value.ref b] below meth c H' locs' cells' slots' Q (F0 m 1345 jls [])) : W p l e room_1 s m #[Value.ref b] below meth c H locs cells slots Q (F0 m 885 jls []) := by
  obtain ⟨hx, hb, -⟩ := id hC
  have hS := hI.S
  refine lv_aload_n hx hb dL_law_885 rfl (lv_at hl 3 rfl) ?_
  refine lw_arg (k := 1) hC hL hl hS rfl (by omega) dL_law_886 dL_law_887 dL_law_889 dL_law_890 dL_law_891 ?_
  refine lw_two (as := [aI (xs (i + 1)).toInt]) (vs := [.int (Int32.ofInt (xs (i + 1)).toInt)]) (pc1 := 892) (pc2 := 902) hC hj hl.1 hI dL_law_892 vL_105 dL_law_902 vL_108 (List.forall_mem_cons.mpr ⟨ok_i _, fun _ h => by cases h⟩) (Nat.le_of_ble_eq_true rfl) (Nat.le_of_ble_eq_true rfl) dL_law_905 rfl (fun _ => rfl) (fun _ _ _ _ _ _ _ _ _ _ _ _ _ _ hc hS => st_status hc hS) (fun v H' locs' cells' slots' hS' k => ?_) kk
  refine lv_aload_n hx hb dL_law_895 rfl (lv_at hl 2 rfl) ?_
  refine lw_arg (k := 1) hC hL hl hS' rfl (by omega) dL_law_896 dL_law_897 dL_law_899 dL_law_900 dL_law_901 ?_
  exact k
theorem lc_undo (hC : LwC l p s m meth c b L xs D cI cL cA cJ xd) (hL : L ≤ 3072) (hl : LwL jls b xx xm o i) (hi : i + 5 < L) (hj : j + 1 ≤ 600) (hI : LwI D cI cL cA cJ s j xx xm o H locs cells slots)
    (kk : ∀ (H' : Heap) (locs' : List Jvm.Loc) (cells' slots' : Nat), LwI D cI cL cA cJ s (j + 1) xx xm o H' locs' cells' slots' → W p l e room_1 s m #[Value.ref b] below meth c H' locs' cells' slots' Q (F0 m 1345 jls [])) : W p l e room_1 s m #[Value.ref b] below meth c H locs cells slots Q (F0 m 910 jls []) := by
  obtain ⟨hx, hb, -⟩ := id hC
  have hS := hI.S
  refine lv_aload_n hx hb dL_law_910 rfl (lv_at hl 3 rfl) ?_
  refine lw_two (as := []) (vs := []) (pc1 := 911) (pc2 := 915) hC hj hl.1 hI dL_law_911 vL_109 dL_law_915 vL_112 (fun _ h => by cases h) (Nat.le_of_ble_eq_true rfl) (Nat.le_of_ble_eq_true rfl) dL_law_918 rfl (fun _ => rfl) (fun _ _ _ _ _ _ _ _ _ _ _ _ _ _ hc hS => st_undo hc hS) (fun v H' locs' cells' slots' hS' k => ?_) kk
  refine lv_aload_n hx hb dL_law_914 rfl (lv_at hl 2 rfl) ?_
  exact k
theorem lc_log (hC : LwC l p s m meth c b L xs D cI cL cA cJ xd) (hL : L ≤ 3072) (hl : LwL jls b xx xm o i) (hi : i + 5 < L) (hj : j + 1 ≤ 600) (hI : LwI D cI cL cA cJ s j xx xm o H locs cells slots)
    (kk : ∀ (H' : Heap) (locs' : List Jvm.Loc) (cells' slots' : Nat), LwI D cI cL cA cJ s (j + 1) xx xm o H' locs' cells' slots' → W p l e room_1 s m #[Value.ref b] below meth c H' locs' cells' slots' Q (F0 m 1345 jls [])) : W p l e room_1 s m #[Value.ref b] below meth c H locs cells slots Q (F0 m 923 jls []) := by
  obtain ⟨hx, hb, -⟩ := id hC
  have hS := hI.S
  refine lv_aload_n hx hb dL_law_923 rfl (lv_at hl 3 rfl) ?_
  refine lw_arg (k := 1) hC hL hl hS rfl (by omega) dL_law_924 dL_law_925 dL_law_927 dL_law_928 dL_law_929 ?_
  refine lw_arg (k := 2) hC hL hl hS rfl (by omega) dL_law_930 dL_law_931 dL_law_933 dL_law_934 dL_law_935 ?_
  refine lw_two (as := [aI (xs (i + 1)).toInt, aI (xs (i + 2)).toInt]) (vs := [.int (Int32.ofInt (xs (i + 2)).toInt), .int (Int32.ofInt (xs (i + 1)).toInt)]) (pc1 := 936) (pc2 := 952) hC hj hl.1 hI dL_law_936 vL_113 dL_law_952 vL_116 (List.forall_mem_cons.mpr ⟨ok_i _, List.forall_mem_cons.mpr ⟨ok_i _, fun _ h => by cases h⟩⟩) (Nat.le_of_ble_eq_true rfl) (Nat.le_of_ble_eq_true rfl) dL_law_955 rfl (fun _ => rfl) (fun _ _ _ _ _ _ _ _ _ _ _ _ _ _ hc hS => st_log hc hS) (fun v H' locs' cells' slots' hS' k => ?_) kk
  refine lv_aload_n hx hb dL_law_939 rfl (lv_at hl 2 rfl) ?_
  refine lw_arg (k := 1) hC hL hl hS' rfl (by omega) dL_law_940 dL_law_941 dL_law_943 dL_law_944 dL_law_945 ?_
  refine lw_arg (k := 2) hC hL hl hS' rfl (by omega) dL_law_946 dL_law_947 dL_law_949 dL_law_950 dL_law_951 ?_
  exact k
theorem lc_offer (hC : LwC l p s m meth c b L xs D cI cL cA cJ xd) (hL : L ≤ 3072) (hl : LwL jls b xx xm o i) (hi : i + 5 < L) (hj : j + 1 ≤ 600) (hI : LwI D cI cL cA cJ s j xx xm o H locs cells slots)
    (kk : ∀ (H' : Heap) (locs' : List Jvm.Loc) (cells' slots' : Nat), LwI D cI cL cA cJ s (j + 1) xx xm o H' locs' cells' slots' → W p l e room_1 s m #[Value.ref b] below meth c H' locs' cells' slots' Q (F0 m 1345 jls [])) : W p l e room_1 s m #[Value.ref b] below meth c H locs cells slots Q (F0 m 960 jls []) := by
  obtain ⟨hx, hb, -⟩ := id hC
  have hS := hI.S
  refine lv_aload_n hx hb dL_law_960 rfl (lv_at hl 3 rfl) ?_
  refine lw_arg (k := 1) hC hL hl hS rfl (by omega) dL_law_961 dL_law_962 dL_law_964 dL_law_965 dL_law_966 ?_
  refine lw_arg (k := 2) hC hL hl hS rfl (by omega) dL_law_967 dL_law_968 dL_law_970 dL_law_971 dL_law_972 ?_
  refine lw_arg (k := 3) hC hL hl hS rfl (by omega) dL_law_973 dL_law_974 dL_law_976 dL_law_977 dL_law_978 ?_
  refine lw_arg (k := 4) hC hL hl hS rfl (by omega) dL_law_979 dL_law_980 dL_law_982 dL_law_983 dL_law_984 ?_
  refine lw_two (as := [aI (xs (i + 1)).toInt, aI (xs (i + 2)).toInt, aI (xs (i + 3)).toInt, aI (xs (i + 4)).toInt]) (vs := [.int (Int32.ofInt (xs (i + 4)).toInt), .int (Int32.ofInt (xs (i + 3)).toInt), .int (Int32.ofInt (xs (i + 2)).toInt), .int (Int32.ofInt (xs (i + 1)).toInt)]) (pc1 := 985) (pc2 := 1013) hC hj hl.1 hI dL_law_985 vL_117 dL_law_1013 vL_120 (List.forall_mem_cons.mpr ⟨ok_i _, List.forall_mem_cons.mpr ⟨ok_i _, List.forall_mem_cons.mpr ⟨ok_i _, List.forall_mem_cons.mpr ⟨ok_i _, fun _ h => by cases h⟩⟩⟩⟩) (Nat.le_of_ble_eq_true rfl) (Nat.le_of_ble_eq_true rfl) dL_law_1016 rfl (fun _ => rfl) (fun _ _ _ _ _ _ _ _ _ _ _ _ _ _ hc hS => st_offer hc hS) (fun v H' locs' cells' slots' hS' k => ?_) kk
  refine lv_aload_n hx hb dL_law_988 rfl (lv_at hl 2 rfl) ?_
  refine lw_arg (k := 1) hC hL hl hS' rfl (by omega) dL_law_989 dL_law_990 dL_law_992 dL_law_993 dL_law_994 ?_
  refine lw_arg (k := 2) hC hL hl hS' rfl (by omega) dL_law_995 dL_law_996 dL_law_998 dL_law_999 dL_law_1000 ?_
  refine lw_arg (k := 3) hC hL hl hS' rfl (by omega) dL_law_1001 dL_law_1002 dL_law_1004 dL_law_1005 dL_law_1006 ?_
  refine lw_arg (k := 4) hC hL hl hS' rfl (by omega) dL_law_1007 dL_law_1008 dL_law_1010 dL_law_1011 dL_law_1012 ?_
  exact k
theorem lc_comes (hC : LwC l p s m meth c b L xs D cI cL cA cJ xd) (hL : L ≤ 3072) (hl : LwL jls b xx xm o i) (hi : i + 5 < L) (hj : j + 1 ≤ 600) (hI : LwI D cI cL cA cJ s j xx xm o H locs cells slots)
    (kk : ∀ (H' : Heap) (locs' : List Jvm.Loc) (cells' slots' : Nat), LwI D cI cL cA cJ s (j + 1) xx xm o H' locs' cells' slots' → W p l e room_1 s m #[Value.ref b] below meth c H' locs' cells' slots' Q (F0 m 1345 jls [])) : W p l e room_1 s m #[Value.ref b] below meth c H locs cells slots Q (F0 m 1021 jls []) := by
  obtain ⟨hx, hb, -⟩ := id hC
  have hS := hI.S
  refine lv_aload_n hx hb dL_law_1021 rfl (lv_at hl 3 rfl) ?_
  refine lw_arg (k := 1) hC hL hl hS rfl (by omega) dL_law_1022 dL_law_1023 dL_law_1025 dL_law_1026 dL_law_1027 ?_
  refine lw_arg (k := 2) hC hL hl hS rfl (by omega) dL_law_1028 dL_law_1029 dL_law_1031 dL_law_1032 dL_law_1033 ?_
  refine lw_arg (k := 3) hC hL hl hS rfl (by omega) dL_law_1034 dL_law_1035 dL_law_1037 dL_law_1038 dL_law_1039 ?_
  refine lw_two (as := [aI (xs (i + 1)).toInt, aI (xs (i + 2)).toInt, aI (xs (i + 3)).toInt]) (vs := [.int (Int32.ofInt (xs (i + 3)).toInt), .int (Int32.ofInt (xs (i + 2)).toInt), .int (Int32.ofInt (xs (i + 1)).toInt)]) (pc1 := 1040) (pc2 := 1062) hC hj hl.1 hI dL_law_1040 vL_121 dL_law_1062 vL_124 (List.forall_mem_cons.mpr ⟨ok_i _, List.forall_mem_cons.mpr ⟨ok_i _, List.forall_mem_cons.mpr ⟨ok_i _, fun _ h => by cases h⟩⟩⟩) (Nat.le_of_ble_eq_true rfl) (Nat.le_of_ble_eq_true rfl) dL_law_1065 rfl (fun _ => rfl) (fun _ _ _ _ _ _ _ _ _ _ _ _ _ _ hc hS => st_comes hc hS) (fun v H' locs' cells' slots' hS' k => ?_) kk
  refine lv_aload_n hx hb dL_law_1043 rfl (lv_at hl 2 rfl) ?_
  refine lw_arg (k := 1) hC hL hl hS' rfl (by omega) dL_law_1044 dL_law_1045 dL_law_1047 dL_law_1048 dL_law_1049 ?_
  refine lw_arg (k := 2) hC hL hl hS' rfl (by omega) dL_law_1050 dL_law_1051 dL_law_1053 dL_law_1054 dL_law_1055 ?_
  refine lw_arg (k := 3) hC hL hl hS' rfl (by omega) dL_law_1056 dL_law_1057 dL_law_1059 dL_law_1060 dL_law_1061 ?_
  exact k
theorem lc_agree (hC : LwC l p s m meth c b L xs D cI cL cA cJ xd) (hL : L ≤ 3072) (hl : LwL jls b xx xm o i) (hi : i + 5 < L) (hj : j + 1 ≤ 600) (hI : LwI D cI cL cA cJ s j xx xm o H locs cells slots)
    (kk : ∀ (H' : Heap) (locs' : List Jvm.Loc) (cells' slots' : Nat), LwI D cI cL cA cJ s (j + 1) xx xm o H' locs' cells' slots' → W p l e room_1 s m #[Value.ref b] below meth c H' locs' cells' slots' Q (F0 m 1345 jls [])) : W p l e room_1 s m #[Value.ref b] below meth c H locs cells slots Q (F0 m 1070 jls []) := by
  obtain ⟨hx, hb, -⟩ := id hC
  have hS := hI.S
  refine lv_aload_n hx hb dL_law_1070 rfl (lv_at hl 3 rfl) ?_
  refine lw_arg (k := 1) hC hL hl hS rfl (by omega) dL_law_1071 dL_law_1072 dL_law_1074 dL_law_1075 dL_law_1076 ?_
  refine lw_two (as := [aI (xs (i + 1)).toInt]) (vs := [.int (Int32.ofInt (xs (i + 1)).toInt)]) (pc1 := 1077) (pc2 := 1087) hC hj hl.1 hI dL_law_1077 vL_125 dL_law_1087 vL_128 (List.forall_mem_cons.mpr ⟨ok_i _, fun _ h => by cases h⟩) (Nat.le_of_ble_eq_true rfl) (Nat.le_of_ble_eq_true rfl) dL_law_1090 rfl (fun _ => rfl) (fun _ _ _ _ _ _ _ _ _ _ _ _ _ _ hc hS => st_agree hc hS) (fun v H' locs' cells' slots' hS' k => ?_) kk
  refine lv_aload_n hx hb dL_law_1080 rfl (lv_at hl 2 rfl) ?_
  refine lw_arg (k := 1) hC hL hl hS' rfl (by omega) dL_law_1081 dL_law_1082 dL_law_1084 dL_law_1085 dL_law_1086 ?_
  exact k
theorem lc_healed (hC : LwC l p s m meth c b L xs D cI cL cA cJ xd) (hL : L ≤ 3072) (hl : LwL jls b xx xm o i) (hi : i + 5 < L) (hj : j + 1 ≤ 600) (hI : LwI D cI cL cA cJ s j xx xm o H locs cells slots)
    (kk : ∀ (H' : Heap) (locs' : List Jvm.Loc) (cells' slots' : Nat), LwI D cI cL cA cJ s (j + 1) xx xm o H' locs' cells' slots' → W p l e room_1 s m #[Value.ref b] below meth c H' locs' cells' slots' Q (F0 m 1345 jls [])) : W p l e room_1 s m #[Value.ref b] below meth c H locs cells slots Q (F0 m 1095 jls []) := by
  obtain ⟨hx, hb, -⟩ := id hC
  have hS := hI.S
  refine lv_aload_n hx hb dL_law_1095 rfl (lv_at hl 3 rfl) ?_
  refine lw_two (as := []) (vs := []) (pc1 := 1096) (pc2 := 1100) hC hj hl.1 hI dL_law_1096 vL_129 dL_law_1100 vL_132 (fun _ h => by cases h) (Nat.le_of_ble_eq_true rfl) (Nat.le_of_ble_eq_true rfl) dL_law_1103 rfl (fun _ => rfl) (fun _ _ _ _ _ _ _ _ _ _ _ _ _ _ hc hS => st_healed hc hS) (fun v H' locs' cells' slots' hS' k => ?_) kk
  refine lv_aload_n hx hb dL_law_1099 rfl (lv_at hl 2 rfl) ?_
  exact k
theorem lc_steady (hC : LwC l p s m meth c b L xs D cI cL cA cJ xd) (hL : L ≤ 3072) (hl : LwL jls b xx xm o i) (hi : i + 5 < L) (hj : j + 1 ≤ 600) (hI : LwI D cI cL cA cJ s j xx xm o H locs cells slots)
    (kk : ∀ (H' : Heap) (locs' : List Jvm.Loc) (cells' slots' : Nat), LwI D cI cL cA cJ s (j + 1) xx xm o H' locs' cells' slots' → W p l e room_1 s m #[Value.ref b] below meth c H' locs' cells' slots' Q (F0 m 1345 jls [])) : W p l e room_1 s m #[Value.ref b] below meth c H locs cells slots Q (F0 m 1108 jls []) := by
  obtain ⟨hx, hb, -⟩ := id hC
  have hS := hI.S
  refine lv_aload_n hx hb dL_law_1108 rfl (lv_at hl 3 rfl) ?_
  refine lw_two (as := []) (vs := []) (pc1 := 1109) (pc2 := 1113) hC hj hl.1 hI dL_law_1109 vL_133 dL_law_1113 vL_136 (fun _ h => by cases h) (Nat.le_of_ble_eq_true rfl) (Nat.le_of_ble_eq_true rfl) dL_law_1116 rfl (fun _ => rfl) (fun _ _ _ _ _ _ _ _ _ _ _ _ _ _ hc hS => st_steady hc hS) (fun v H' locs' cells' slots' hS' k => ?_) kk
  refine lv_aload_n hx hb dL_law_1112 rfl (lv_at hl 2 rfl) ?_
  exact k
theorem lc_harm (hC : LwC l p s m meth c b L xs D cI cL cA cJ xd) (hL : L ≤ 3072) (hl : LwL jls b xx xm o i) (hi : i + 5 < L) (hj : j + 1 ≤ 600) (hI : LwI D cI cL cA cJ s j xx xm o H locs cells slots)
    (kk : ∀ (H' : Heap) (locs' : List Jvm.Loc) (cells' slots' : Nat), LwI D cI cL cA cJ s (j + 1) xx xm o H' locs' cells' slots' → W p l e room_1 s m #[Value.ref b] below meth c H' locs' cells' slots' Q (F0 m 1345 jls [])) : W p l e room_1 s m #[Value.ref b] below meth c H locs cells slots Q (F0 m 1121 jls []) := by
  obtain ⟨hx, hb, -⟩ := id hC
  have hS := hI.S
  refine lv_aload_n hx hb dL_law_1121 rfl (lv_at hl 3 rfl) ?_
  refine lw_arg (k := 1) hC hL hl hS rfl (by omega) dL_law_1122 dL_law_1123 dL_law_1125 dL_law_1126 dL_law_1127 ?_
  refine lw_arg (k := 2) hC hL hl hS rfl (by omega) dL_law_1128 dL_law_1129 dL_law_1131 dL_law_1132 dL_law_1133 ?_
  refine lw_two (as := [aI (xs (i + 1)).toInt, aI (xs (i + 2)).toInt]) (vs := [.int (Int32.ofInt (xs (i + 2)).toInt), .int (Int32.ofInt (xs (i + 1)).toInt)]) (pc1 := 1134) (pc2 := 1150) hC hj hl.1 hI dL_law_1134 vL_137 dL_law_1150 vL_140 (List.forall_mem_cons.mpr ⟨ok_i _, List.forall_mem_cons.mpr ⟨ok_i _, fun _ h => by cases h⟩⟩) (Nat.le_of_ble_eq_true rfl) (Nat.le_of_ble_eq_true rfl) dL_law_1153 rfl (fun _ => rfl) (fun _ _ _ _ _ _ _ _ _ _ _ _ _ _ hc hS => st_harm hc hS) (fun v H' locs' cells' slots' hS' k => ?_) kk
  refine lv_aload_n hx hb dL_law_1137 rfl (lv_at hl 2 rfl) ?_
  refine lw_arg (k := 1) hC hL hl hS' rfl (by omega) dL_law_1138 dL_law_1139 dL_law_1141 dL_law_1142 dL_law_1143 ?_
  refine lw_arg (k := 2) hC hL hl hS' rfl (by omega) dL_law_1144 dL_law_1145 dL_law_1147 dL_law_1148 dL_law_1149 ?_
  exact k
theorem lc_odds (hC : LwC l p s m meth c b L xs D cI cL cA cJ xd) (hL : L ≤ 3072) (hl : LwL jls b xx xm o i) (hi : i + 5 < L) (hj : j + 1 ≤ 600) (hI : LwI D cI cL cA cJ s j xx xm o H locs cells slots)
    (kk : ∀ (H' : Heap) (locs' : List Jvm.Loc) (cells' slots' : Nat), LwI D cI cL cA cJ s (j + 1) xx xm o H' locs' cells' slots' → W p l e room_1 s m #[Value.ref b] below meth c H' locs' cells' slots' Q (F0 m 1345 jls [])) : W p l e room_1 s m #[Value.ref b] below meth c H locs cells slots Q (F0 m 1158 jls []) := by
  obtain ⟨hx, hb, -⟩ := id hC
  have hS := hI.S
  refine lv_aload_n hx hb dL_law_1158 rfl (lv_at hl 3 rfl) ?_
  refine lw_arg (k := 1) hC hL hl hS rfl (by omega) dL_law_1159 dL_law_1160 dL_law_1162 dL_law_1163 dL_law_1164 ?_
  refine lw_arg (k := 2) hC hL hl hS rfl (by omega) dL_law_1165 dL_law_1166 dL_law_1168 dL_law_1169 dL_law_1170 ?_
  refine lw_two (as := [aI (xs (i + 1)).toInt, aI (xs (i + 2)).toInt]) (vs := [.int (Int32.ofInt (xs (i + 2)).toInt), .int (Int32.ofInt (xs (i + 1)).toInt)]) (pc1 := 1171) (pc2 := 1187) hC hj hl.1 hI dL_law_1171 vL_141 dL_law_1187 vL_144 (List.forall_mem_cons.mpr ⟨ok_i _, List.forall_mem_cons.mpr ⟨ok_i _, fun _ h => by cases h⟩⟩) (Nat.le_of_ble_eq_true rfl) (Nat.le_of_ble_eq_true rfl) dL_law_1190 rfl (fun _ => rfl) (fun _ _ _ _ _ _ _ _ _ _ _ _ _ _ hc hS => st_odds hc hS) (fun v H' locs' cells' slots' hS' k => ?_) kk
  refine lv_aload_n hx hb dL_law_1174 rfl (lv_at hl 2 rfl) ?_
  refine lw_arg (k := 1) hC hL hl hS' rfl (by omega) dL_law_1175 dL_law_1176 dL_law_1178 dL_law_1179 dL_law_1180 ?_
  refine lw_arg (k := 2) hC hL hl hS' rfl (by omega) dL_law_1181 dL_law_1182 dL_law_1184 dL_law_1185 dL_law_1186 ?_
  exact k
theorem lc_shares (hC : LwC l p s m meth c b L xs D cI cL cA cJ xd) (hL : L ≤ 3072) (hl : LwL jls b xx xm o i) (hi : i + 5 < L) (hj : j + 1 ≤ 600) (hI : LwI D cI cL cA cJ s j xx xm o H locs cells slots)
    (kk : ∀ (H' : Heap) (locs' : List Jvm.Loc) (cells' slots' : Nat), LwI D cI cL cA cJ s (j + 1) xx xm o H' locs' cells' slots' → W p l e room_1 s m #[Value.ref b] below meth c H' locs' cells' slots' Q (F0 m 1345 jls [])) : W p l e room_1 s m #[Value.ref b] below meth c H locs cells slots Q (F0 m 1195 jls []) := by
  obtain ⟨hx, hb, -⟩ := id hC
  have hS := hI.S
  refine lv_aload_n hx hb dL_law_1195 rfl (lv_at hl 3 rfl) ?_
  refine lw_arg (k := 1) hC hL hl hS rfl (by omega) dL_law_1196 dL_law_1197 dL_law_1199 dL_law_1200 dL_law_1201 ?_
  refine lw_arg (k := 2) hC hL hl hS rfl (by omega) dL_law_1202 dL_law_1203 dL_law_1205 dL_law_1206 dL_law_1207 ?_
  refine lw_two (as := [aI (xs (i + 1)).toInt, aI (xs (i + 2)).toInt]) (vs := [.int (Int32.ofInt (xs (i + 2)).toInt), .int (Int32.ofInt (xs (i + 1)).toInt)]) (pc1 := 1208) (pc2 := 1224) hC hj hl.1 hI dL_law_1208 vL_145 dL_law_1224 vL_148 (List.forall_mem_cons.mpr ⟨ok_i _, List.forall_mem_cons.mpr ⟨ok_i _, fun _ h => by cases h⟩⟩) (Nat.le_of_ble_eq_true rfl) (Nat.le_of_ble_eq_true rfl) dL_law_1227 rfl (fun _ => rfl) (fun _ _ _ _ _ _ _ _ _ _ _ _ _ _ hc hS => st_shares hc hS) (fun v H' locs' cells' slots' hS' k => ?_) kk
  refine lv_aload_n hx hb dL_law_1211 rfl (lv_at hl 2 rfl) ?_
  refine lw_arg (k := 1) hC hL hl hS' rfl (by omega) dL_law_1212 dL_law_1213 dL_law_1215 dL_law_1216 dL_law_1217 ?_
  refine lw_arg (k := 2) hC hL hl hS' rfl (by omega) dL_law_1218 dL_law_1219 dL_law_1221 dL_law_1222 dL_law_1223 ?_
  exact k
theorem lc_node (hC : LwC l p s m meth c b L xs D cI cL cA cJ xd) (hL : L ≤ 3072) (hl : LwL jls b xx xm o i) (hi : i + 5 < L) (hj : j + 1 ≤ 600) (hI : LwI D cI cL cA cJ s j xx xm o H locs cells slots)
    (kk : ∀ (H' : Heap) (locs' : List Jvm.Loc) (cells' slots' : Nat), LwI D cI cL cA cJ s (j + 1) xx xm o H' locs' cells' slots' → W p l e room_1 s m #[Value.ref b] below meth c H' locs' cells' slots' Q (F0 m 1345 jls [])) : W p l e room_1 s m #[Value.ref b] below meth c H locs cells slots Q (F0 m 1232 jls []) := by
  obtain ⟨hx, hb, -⟩ := id hC
  have hS := hI.S
  refine lv_aload_n hx hb dL_law_1232 rfl (lv_at hl 3 rfl) ?_
  refine lw_arg (k := 1) hC hL hl hS rfl (by omega) dL_law_1233 dL_law_1234 dL_law_1236 dL_law_1237 dL_law_1238 ?_
  refine lw_arg (k := 2) hC hL hl hS rfl (by omega) dL_law_1239 dL_law_1240 dL_law_1242 dL_law_1243 dL_law_1244 ?_
  refine lw_two (as := [aI (xs (i + 1)).toInt, aI (xs (i + 2)).toInt]) (vs := [.int (Int32.ofInt (xs (i + 2)).toInt), .int (Int32.ofInt (xs (i + 1)).toInt)]) (pc1 := 1245) (pc2 := 1261) hC hj hl.1 hI dL_law_1245 vL_149 dL_law_1261 vL_152 (List.forall_mem_cons.mpr ⟨ok_i _, List.forall_mem_cons.mpr ⟨ok_i _, fun _ h => by cases h⟩⟩) (Nat.le_of_ble_eq_true rfl) (Nat.le_of_ble_eq_true rfl) dL_law_1264 rfl (fun _ => rfl) (fun _ _ _ _ _ _ _ _ _ _ _ _ _ _ hc hS => st_node hc hS) (fun v H' locs' cells' slots' hS' k => ?_) kk
  refine lv_aload_n hx hb dL_law_1248 rfl (lv_at hl 2 rfl) ?_
  refine lw_arg (k := 1) hC hL hl hS' rfl (by omega) dL_law_1249 dL_law_1250 dL_law_1252 dL_law_1253 dL_law_1254 ?_
  refine lw_arg (k := 2) hC hL hl hS' rfl (by omega) dL_law_1255 dL_law_1256 dL_law_1258 dL_law_1259 dL_law_1260 ?_
  exact k
theorem lc_most (hC : LwC l p s m meth c b L xs D cI cL cA cJ xd) (hL : L ≤ 3072) (hl : LwL jls b xx xm o i) (hi : i + 5 < L) (hj : j + 1 ≤ 600) (hI : LwI D cI cL cA cJ s j xx xm o H locs cells slots)
    (kk : ∀ (H' : Heap) (locs' : List Jvm.Loc) (cells' slots' : Nat), LwI D cI cL cA cJ s (j + 1) xx xm o H' locs' cells' slots' → W p l e room_1 s m #[Value.ref b] below meth c H' locs' cells' slots' Q (F0 m 1345 jls [])) : W p l e room_1 s m #[Value.ref b] below meth c H locs cells slots Q (F0 m 1269 jls []) := by
  obtain ⟨hx, hb, -⟩ := id hC
  have hS := hI.S
  refine lv_aload_n hx hb dL_law_1269 rfl (lv_at hl 3 rfl) ?_
  refine lw_arg (k := 1) hC hL hl hS rfl (by omega) dL_law_1270 dL_law_1271 dL_law_1273 dL_law_1274 dL_law_1275 ?_
  refine lw_two (as := [aI (xs (i + 1)).toInt]) (vs := [.int (Int32.ofInt (xs (i + 1)).toInt)]) (pc1 := 1276) (pc2 := 1286) hC hj hl.1 hI dL_law_1276 vL_153 dL_law_1286 vL_156 (List.forall_mem_cons.mpr ⟨ok_i _, fun _ h => by cases h⟩) (Nat.le_of_ble_eq_true rfl) (Nat.le_of_ble_eq_true rfl) dL_law_1289 rfl (fun _ => rfl) (fun _ _ _ _ _ _ _ _ _ _ _ _ _ _ hc hS => st_most hc hS) (fun v H' locs' cells' slots' hS' k => ?_) kk
  refine lv_aload_n hx hb dL_law_1279 rfl (lv_at hl 2 rfl) ?_
  refine lw_arg (k := 1) hC hL hl hS' rfl (by omega) dL_law_1280 dL_law_1281 dL_law_1283 dL_law_1284 dL_law_1285 ?_
  exact k
theorem lc_image (hC : LwC l p s m meth c b L xs D cI cL cA cJ xd) (hL : L ≤ 3072) (hl : LwL jls b xx xm o i) (hi : i + 5 < L) (hj : j + 1 ≤ 600) (hI : LwI D cI cL cA cJ s j xx xm o H locs cells slots)
    (kk : ∀ (H' : Heap) (locs' : List Jvm.Loc) (cells' slots' : Nat), LwI D cI cL cA cJ s (j + 1) xx xm o H' locs' cells' slots' → W p l e room_1 s m #[Value.ref b] below meth c H' locs' cells' slots' Q (F0 m 1345 jls [])) : W p l e room_1 s m #[Value.ref b] below meth c H locs cells slots Q (F0 m 1294 jls []) := by
  obtain ⟨hx, hb, -⟩ := id hC
  have hS := hI.S
  refine lv_aload_n hx hb dL_law_1294 rfl (lv_at hl 3 rfl) ?_
  refine lw_two (as := []) (vs := []) (pc1 := 1295) (pc2 := 1299) hC hj hl.1 hI dL_law_1295 vL_157 dL_law_1299 vL_160 (fun _ h => by cases h) (Nat.le_of_ble_eq_true rfl) (Nat.le_of_ble_eq_true rfl) dL_law_1302 rfl (fun _ => rfl) (fun _ _ _ _ _ _ _ _ _ _ _ _ _ _ hc hS => st_image hc hS) (fun v H' locs' cells' slots' hS' k => ?_) kk
  refine lv_aload_n hx hb dL_law_1298 rfl (lv_at hl 2 rfl) ?_
  exact k
theorem lc_back (hC : LwC l p s m meth c b L xs D cI cL cA cJ xd) (hL : L ≤ 3072) (hl : LwL jls b xx xm o i) (hi : i + 5 < L) (hj : j + 1 ≤ 600) (hI : LwI D cI cL cA cJ s j xx xm o H locs cells slots)
    (kk : ∀ (H' : Heap) (locs' : List Jvm.Loc) (cells' slots' : Nat), LwI D cI cL cA cJ s (j + 1) xx xm o H' locs' cells' slots' → W p l e room_1 s m #[Value.ref b] below meth c H' locs' cells' slots' Q (F0 m 1345 jls [])) : W p l e room_1 s m #[Value.ref b] below meth c H locs cells slots Q (F0 m 1307 jls []) := by
  obtain ⟨hx, hb, -⟩ := id hC
  have hS := hI.S
  refine lv_aload_n hx hb dL_law_1307 rfl (lv_at hl 3 rfl) ?_
  refine lw_two (as := []) (vs := []) (pc1 := 1308) (pc2 := 1312) hC hj hl.1 hI dL_law_1308 vL_161 dL_law_1312 vL_164 (fun _ h => by cases h) (Nat.le_of_ble_eq_true rfl) (Nat.le_of_ble_eq_true rfl) dL_law_1315 rfl (fun _ => rfl) (fun _ _ _ _ _ _ _ _ _ _ _ _ _ _ hc hS => st_back hc hS) (fun v H' locs' cells' slots' hS' k => ?_) kk
  refine lv_aload_n hx hb dL_law_1311 rfl (lv_at hl 2 rfl) ?_
  exact k
theorem lc_count (hC : LwC l p s m meth c b L xs D cI cL cA cJ xd) (hL : L ≤ 3072) (hl : LwL jls b xx xm o i) (hi : i + 5 < L) (hj : j + 1 ≤ 600) (hI : LwI D cI cL cA cJ s j xx xm o H locs cells slots)
    (kk : ∀ (H' : Heap) (locs' : List Jvm.Loc) (cells' slots' : Nat), LwI D cI cL cA cJ s (j + 1) xx xm o H' locs' cells' slots' → W p l e room_1 s m #[Value.ref b] below meth c H' locs' cells' slots' Q (F0 m 1345 jls [])) : W p l e room_1 s m #[Value.ref b] below meth c H locs cells slots Q (F0 m 1320 jls []) := by
  obtain ⟨hx, hb, -⟩ := id hC
  have hS := hI.S
  refine lv_aload_n hx hb dL_law_1320 rfl (lv_at hl 3 rfl) ?_
  refine lw_arg (k := 1) hC hL hl hS rfl (by omega) dL_law_1321 dL_law_1322 dL_law_1324 dL_law_1325 dL_law_1326 ?_
  refine lw_two (as := [aI (xs (i + 1)).toInt]) (vs := [.int (Int32.ofInt (xs (i + 1)).toInt)]) (pc1 := 1327) (pc2 := 1337) hC hj hl.1 hI dL_law_1327 vL_165 dL_law_1337 vL_168 (List.forall_mem_cons.mpr ⟨ok_i _, fun _ h => by cases h⟩) (Nat.le_of_ble_eq_true rfl) (Nat.le_of_ble_eq_true rfl) dL_law_1340 rfl (fun _ => rfl) (fun _ _ _ _ _ _ _ _ _ _ _ _ _ _ hc hS => st_count hc hS) (fun v H' locs' cells' slots' hS' k => ?_) kk
  refine lv_aload_n hx hb dL_law_1330 rfl (lv_at hl 2 rfl) ?_
  refine lw_arg (k := 1) hC hL hl hS' rfl (by omega) dL_law_1331 dL_law_1332 dL_law_1334 dL_law_1335 dL_law_1336 ?_
  exact k
end LC
