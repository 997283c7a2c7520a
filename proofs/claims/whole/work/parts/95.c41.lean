def IV1 : aF := Z0
def RV1 : aP := N0
theorem ci_0 {d : Nat} {R : aPost} (k : wp (d + 6) mX11_init 4 [some (aR 0)] [] [(3, 11)] IV1 Z0 RV1 87 2788 R) : wp (d + 6) mX11_init 0 [some (aR 0)] [] [(3, 11)] Z0 Z0 N0 87 2788 R := by
  refine wp_aload_n dX11_init_0 rfl ?_
  refine wp_obj dX11_init_1 oX11_1 (by omega) (Nat.le_of_ble_eq_true rfl) ?_
  exact k
def IV2 : aF := IV1
def RV2 : aP := (uP (uP RV1 1 0 (some 2)) 0 0 (some 1))
theorem ci_1 {d : Nat} {R : aPost} (k : wp (d + 6) mX11_init 15 [some (aR 0)] [] [(3, 11), (3, 10), (0, 240)] IV2 Z0 RV2 85 2546 R) : wp (d + 6) mX11_init 4 [some (aR 0)] [] [(3, 11)] IV1 Z0 RV1 87 2788 R := by
  refine wp_aload_n dX11_init_4 rfl ?_
  refine wp_new (N := 2) dX11_init_5 wX11_7 rfl (by decide) ?_
  rw [zA (iv := IV1) (fun _ => rfl), zA (iv := Z0) (fun _ => rfl), zQ (rv := RV1) (fun _ => rfl)]
  show wp _ _ _ _ (aR 1 :: _) [(3, 11), (3, 10)] _ _ _ _ _ _
  refine wp_dup dX11_init_8 rfl ?_
  refine wp_callN (as := []) (ls0 := [_]) (kc := 1) (ks := 240) (bc' := 85) (bs' := 2546) dX11_init_9 vX11_9 rfl rfl (Nat.le_of_ble_eq_true rfl) (Nat.le_of_ble_eq_true rfl) (by decide) (by decide) ?_
  refine wp_aload_n dX10_init_0 rfl ?_
  refine wp_obj dX10_init_1 oX10_3 (by omega) (Nat.le_of_ble_eq_true rfl) ?_
  refine wp_aload_n dX10_init_4 rfl ?_
  refine wp_sipush dX10_init_5 ?_
  refine wp_newI (N := 240) dX10_init_8 rfl (by decide) ?_
  rw [zA (iv := IV1) (fun _ => rfl), zA (iv := Z0) (fun _ => rfl), zQ (rv := RV1) (fun _ => rfl)]
  show wp _ _ _ _ (aR 2 :: _) [(3, 11), (3, 10), (0, 240)] _ _ _ _ _ _
  refine wp_putRF dX10_init_10 gX10_11 rfl rfl ?_
  refine wp_return dX10_init_13 rfl ?_
  refine wp_putRF dX11_init_12 gX11_10 rfl rfl ?_
  exact k
def IV3 : aF := IV2
def RV3 : aP := (uP (uP (uP (uP RV2 3 0 (some 4)) 3 1 (some 5)) 3 2 (some 6)) 0 1 (some 3))
theorem ci_2 {d : Nat} {R : aPost} (k : wp (d + 6) mX11_init 26 [some (aR 0)] [] [(3, 11), (3, 10), (0, 240), (3, 7), (0, 5), (0, 24), (0, 16)] IV3 Z0 RV3 81 2496 R) : wp (d + 6) mX11_init 15 [some (aR 0)] [] [(3, 11), (3, 10), (0, 240)] IV2 Z0 RV2 85 2546 R := by
  refine wp_aload_n dX11_init_15 rfl ?_
  refine wp_new (N := 5) dX11_init_16 wX11_16 rfl (by decide) ?_
  rw [zA (iv := IV2) (fun _ => rfl), zA (iv := Z0) (fun _ => rfl), zQ (rv := RV2) (fun _ => rfl)]
  show wp _ _ _ _ (aR 3 :: _) [(3, 11), (3, 10), (0, 240), (3, 7)] _ _ _ _ _ _
  refine wp_dup dX11_init_19 rfl ?_
  refine wp_callN (as := []) (ls0 := [_]) (kc := 3) (ks := 45) (bc' := 81) (bs' := 2496) dX11_init_20 vX11_18 rfl rfl (Nat.le_of_ble_eq_true rfl) (Nat.le_of_ble_eq_true rfl) (by decide) (by decide) ?_
  refine wp_aload_n dX7_init_0 rfl ?_
  refine wp_obj dX7_init_1 oX7_3 (by omega) (Nat.le_of_ble_eq_true rfl) ?_
  refine wp_aload_n dX7_init_4 rfl ?_
  refine wp_iconst dX7_init_5 ?_
  refine wp_newI (N := 5) dX7_init_6 rfl (by decide) ?_
  rw [zA (iv := IV2) (fun _ => rfl), zA (iv := Z0) (fun _ => rfl), zQ (rv := RV2) (fun _ => rfl)]
  show wp _ _ _ _ (aR 4 :: _) [(3, 11), (3, 10), (0, 240), (3, 7), (0, 5)] _ _ _ _ _ _
  refine wp_putRF dX7_init_8 gX7_11 rfl rfl ?_
  refine wp_aload_n dX7_init_11 rfl ?_
  refine wp_bipush dX7_init_12 ?_
  refine wp_newI (N := 24) dX7_init_14 rfl (by decide) ?_
  rw [zA (iv := IV2) (fun _ => rfl), zA (iv := Z0) (fun _ => rfl), zQ (rv := (uP RV2 3 0 (some 4))) (fun _ => rfl)]
  show wp _ _ _ _ (aR 5 :: _) [(3, 11), (3, 10), (0, 240), (3, 7), (0, 5), (0, 24)] _ _ _ _ _ _
  refine wp_putRF dX7_init_16 gX7_15 rfl rfl ?_
  refine wp_aload_n dX7_init_19 rfl ?_
  refine wp_bipush dX7_init_20 ?_
  refine wp_newI (N := 16) dX7_init_22 rfl (by decide) ?_
  rw [zA (iv := IV2) (fun _ => rfl), zA (iv := Z0) (fun _ => rfl), zQ (rv := (uP (uP RV2 3 0 (some 4)) 3 1 (some 5))) (fun _ => rfl)]
  show wp _ _ _ _ (aR 6 :: _) [(3, 11), (3, 10), (0, 240), (3, 7), (0, 5), (0, 24), (0, 16)] _ _ _ _ _ _
  refine wp_putRF dX7_init_24 gX7_18 rfl rfl ?_
  refine wp_return dX7_init_27 rfl ?_
  refine wp_putRF dX11_init_23 gX11_19 rfl rfl ?_
  exact k
def IV4 : aF := IV3
def RV4 : aP := (uP (uP (uP (uP (uP RV3 7 1 (some 8)) 7 2 (some 9)) 7 3 (some 10)) 7 0 (some 1)) 0 2 (some 7))
theorem ci_3 {d : Nat} {R : aPost} (k : wp (d + 6) mX11_init 41 [some (aR 0)] [] [(3, 11), (3, 10), (0, 240), (3, 7), (0, 5), (0, 24), (0, 16), (3, 8), (0, 5), (0, 24), (0, 16)] IV4 Z0 RV4 77 2442 R) : wp (d + 6) mX11_init 26 [some (aR 0)] [] [(3, 11), (3, 10), (0, 240), (3, 7), (0, 5), (0, 24), (0, 16)] IV3 Z0 RV3 81 2496 R := by
  refine wp_aload_n dX11_init_26 rfl ?_
  refine wp_new (N := 9) dX11_init_27 wX11_23 rfl (by decide) ?_
  rw [zA (iv := IV3) (fun _ => rfl), zA (iv := Z0) (fun _ => rfl), zQ (rv := RV3) (fun _ => rfl)]
  show wp _ _ _ _ (aR 7 :: _) [(3, 11), (3, 10), (0, 240), (3, 7), (0, 5), (0, 24), (0, 16), (3, 8)] _ _ _ _ _ _
  refine wp_dup dX11_init_30 rfl ?_
  refine wp_aload_n dX11_init_31 rfl ?_
  refine wp_getR (show RV3 0 0 = some 1 from rfl) dX11_init_32 fX11_10 rfl ?_
  refine wp_callI (as := [_]) (ls0 := [_, _]) (kc := 3) (ks := 45) (bc' := 77) (bs' := 2442) dX11_init_35 vX11_25 rfl rfl (Nat.le_of_ble_eq_true rfl) (Nat.le_of_ble_eq_true rfl) (by decide) (by decide) ?_
  refine wp_aload_n dX8_init_0 rfl ?_
  refine wp_obj dX8_init_1 oX8_3 (by omega) (Nat.le_of_ble_eq_true rfl) ?_
  refine wp_aload_n dX8_init_4 rfl ?_
  refine wp_iconst dX8_init_5 ?_
  refine wp_newI (N := 5) dX8_init_6 rfl (by decide) ?_
  rw [zA (iv := IV3) (fun _ => rfl), zA (iv := Z0) (fun _ => rfl), zQ (rv := RV3) (fun _ => rfl)]
  show wp _ _ _ _ (aR 8 :: _) [(3, 11), (3, 10), (0, 240), (3, 7), (0, 5), (0, 24), (0, 16), (3, 8), (0, 5)] _ _ _ _ _ _
  refine wp_putRF dX8_init_8 gX8_11 rfl rfl ?_
  refine wp_aload_n dX8_init_11 rfl ?_
  refine wp_bipush dX8_init_12 ?_
  refine wp_newI (N := 24) dX8_init_14 rfl (by decide) ?_
  rw [zA (iv := IV3) (fun _ => rfl), zA (iv := Z0) (fun _ => rfl), zQ (rv := (uP RV3 7 1 (some 8))) (fun _ => rfl)]
  show wp _ _ _ _ (aR 9 :: _) [(3, 11), (3, 10), (0, 240), (3, 7), (0, 5), (0, 24), (0, 16), (3, 8), (0, 5), (0, 24)] _ _ _ _ _ _
  refine wp_putRF dX8_init_16 gX8_17 rfl rfl ?_
  refine wp_aload_n dX8_init_19 rfl ?_
  refine wp_bipush dX8_init_20 ?_
  refine wp_newI (N := 16) dX8_init_22 rfl (by decide) ?_
  rw [zA (iv := IV3) (fun _ => rfl), zA (iv := Z0) (fun _ => rfl), zQ (rv := (uP (uP RV3 7 1 (some 8)) 7 2 (some 9))) (fun _ => rfl)]
  show wp _ _ _ _ (aR 10 :: _) [(3, 11), (3, 10), (0, 240), (3, 7), (0, 5), (0, 24), (0, 16), (3, 8), (0, 5), (0, 24), (0, 16)] _ _ _ _ _ _
  refine wp_putRF dX8_init_24 gX8_20 rfl rfl ?_
  refine wp_aload_n dX8_init_27 rfl ?_
  refine wp_aload_n dX8_init_28 rfl ?_
  refine wp_putRF dX8_init_29 gX8_23 rfl rfl ?_
  refine wp_return dX8_init_32 rfl ?_
  refine wp_putRF dX11_init_38 gX11_28 rfl rfl ?_
  exact k
def IV5 : aF := (uI (uI (uI (uI (uI (uI (uI (uI (uI (uI (uI (uI (uI (uI (uI (uI (uI (uI (uI (uI (uI (uI (uI (uI (uI (uI (uI (uI (uI (uI IV4 14 0 (0)) 14 2 ((3) + ((0) * (71)))) 15 1 (((3) + ((0) * (71))) + (4))) 16 1 ((((3) + ((0) * (71))) + (4)) + (28))) 17 1 ((((3) + ((0) * (71))) + (4)) + (56))) 18 0 (0 + 1)) 18 2 ((3) + ((0 + 1) * (71)))) 19 1 (((3) + ((0 + 1) * (71))) + (4))) 20 1 ((((3) + ((0 + 1) * (71))) + (4)) + (28))) 21 1 ((((3) + ((0 + 1) * (71))) + (4)) + (56))) 22 0 (0 + 1 + 1)) 22 2 ((3) + ((0 + 1 + 1) * (71)))) 23 1 (((3) + ((0 + 1 + 1) * (71))) + (4))) 24 1 ((((3) + ((0 + 1 + 1) * (71))) + (4)) + (28))) 25 1 ((((3) + ((0 + 1 + 1) * (71))) + (4)) + (56))) 26 0 (0 + 1 + 1 + 1)) 26 2 ((3) + ((0 + 1 + 1 + 1) * (71)))) 27 1 (((3) + ((0 + 1 + 1 + 1) * (71))) + (4))) 28 1 ((((3) + ((0 + 1 + 1 + 1) * (71))) + (4)) + (28))) 29 1 ((((3) + ((0 + 1 + 1 + 1) * (71))) + (4)) + (56))) 30 0 (0 + 1 + 1 + 1 + 1)) 30 2 ((3) + ((0 + 1 + 1 + 1 + 1) * (71)))) 31 1 (((3) + ((0 + 1 + 1 + 1 + 1) * (71))) + (4))) 32 1 ((((3) + ((0 + 1 + 1 + 1 + 1) * (71))) + (4)) + (28))) 33 1 ((((3) + ((0 + 1 + 1 + 1 + 1) * (71))) + (4)) + (56))) 34 0 (0 + 1 + 1 + 1 + 1 + 1)) 34 2 ((3) + ((0 + 1 + 1 + 1 + 1 + 1) * (71)))) 35 1 (((3) + ((0 + 1 + 1 + 1 + 1 + 1) * (71))) + (4))) 36 1 ((((3) + ((0 + 1 + 1 + 1 + 1 + 1) * (71))) + (4)) + (28))) 37 1 ((((3) + ((0 + 1 + 1 + 1 + 1 + 1) * (71))) + (4)) + (56)))
def RV5 : aP := (uP (uP (uP (uP (uP (uP (uP (uP (uP (uP (uP (uP (uP (uP (uP (uP (uP (uP (uP (uP (uP (uP (uP (uP (uP (uP (uP (uP (uP (uP (uP (uP (uP (uP (uP (uP (uP (uP (uP (uP (uP (uP (uP (uP (uP (uP (uP (uP (uP (uP (uP (uP RV4 11 1 (some 12)) 11 2 (some 13)) 11 0 (some 3)) 14 1 (some 12)) 15 0 (some 12)) 14 3 (some 15)) 16 0 (some 12)) 14 4 (some 16)) 17 0 (some 12)) 14 5 (some 17)) 13 (0) (some 14)) 18 1 (some 12)) 19 0 (some 12)) 18 3 (some 19)) 20 0 (some 12)) 18 4 (some 20)) 21 0 (some 12)) 18 5 (some 21)) 13 (0 + 1) (some 18)) 22 1 (some 12)) 23 0 (some 12)) 22 3 (some 23)) 24 0 (some 12)) 22 4 (some 24)) 25 0 (some 12)) 22 5 (some 25)) 13 (0 + 1 + 1) (some 22)) 26 1 (some 12)) 27 0 (some 12)) 26 3 (some 27)) 28 0 (some 12)) 26 4 (some 28)) 29 0 (some 12)) 26 5 (some 29)) 13 (0 + 1 + 1 + 1) (some 26)) 30 1 (some 12)) 31 0 (some 12)) 30 3 (some 31)) 32 0 (some 12)) 30 4 (some 32)) 33 0 (some 12)) 30 5 (some 33)) 13 (0 + 1 + 1 + 1 + 1) (some 30)) 34 1 (some 12)) 35 0 (some 12)) 34 3 (some 35)) 36 0 (some 12)) 34 4 (some 36)) 37 0 (some 12)) 34 5 (some 37)) 13 (0 + 1 + 1 + 1 + 1 + 1) (some 34)) 0 3 (some 11))
theorem ci_4 {d : Nat} {R : aPost} (k : wp (d + 6) mX11_init 56 [some (aR 0)] [] [(3, 11), (3, 10), (0, 240), (3, 7), (0, 5), (0, 24), (0, 16), (3, 8), (0, 5), (0, 24), (0, 16), (3, 4), (0, 429), (1, 6), (3, 3), (3, 9), (3, 9), (3, 2), (3, 3), (3, 9), (3, 9), (3, 2), (3, 3), (3, 9), (3, 9), (3, 2), (3, 3), (3, 9), (3, 9), (3, 2), (3, 3), (3, 9), (3, 9), (3, 2), (3, 3), (3, 9), (3, 9), (3, 2)] IV5 Z0 RV5 50 1932 R) : wp (d + 6) mX11_init 41 [some (aR 0)] [] [(3, 11), (3, 10), (0, 240), (3, 7), (0, 5), (0, 24), (0, 16), (3, 8), (0, 5), (0, 24), (0, 16)] IV4 Z0 RV4 77 2442 R := by
  refine wp_aload_n dX11_init_41 rfl ?_
  refine wp_new (N := 3) dX11_init_42 wX11_32 rfl (by decide) ?_
  rw [zA (iv := IV4) (fun _ => rfl), zA (iv := Z0) (fun _ => rfl), zQ (rv := RV4) (fun _ => rfl)]
  show wp _ _ _ _ (aR 11 :: _) [(3, 11), (3, 10), (0, 240), (3, 7), (0, 5), (0, 24), (0, 16), (3, 8), (0, 5), (0, 24), (0, 16), (3, 4)] _ _ _ _ _ _
  refine wp_dup dX11_init_45 rfl ?_
  refine wp_aload_n dX11_init_46 rfl ?_
  refine wp_getR (show RV4 0 1 = some 3 from rfl) dX11_init_47 fX11_19 rfl ?_
  refine wp_callI (as := [_]) (ls0 := [_, _, _]) (kc := 26) (ks := 507) (bc' := 50) (bs' := 1932) dX11_init_50 vX11_34 rfl rfl (Nat.le_of_ble_eq_true rfl) (Nat.le_of_ble_eq_true rfl) (by decide) (by decide) ?_
  refine wp_aload_n dX4_init_0 rfl ?_
  refine wp_obj dX4_init_1 oX4_7 (by omega) (Nat.le_of_ble_eq_true rfl) ?_
  refine wp_aload_n dX4_init_4 rfl ?_
  refine wp_sipush dX4_init_5 ?_
  refine wp_newI (N := 429) dX4_init_8 rfl (by decide) ?_
  rw [zA (iv := IV4) (fun _ => rfl), zA (iv := Z0) (fun _ => rfl), zQ (rv := RV4) (fun _ => rfl)]
  show wp _ _ _ _ (aR 12 :: _) [(3, 11), (3, 10), (0, 240), (3, 7), (0, 5), (0, 24), (0, 16), (3, 8), (0, 5), (0, 24), (0, 16), (3, 4), (0, 429)] _ _ _ _ _ _
  refine wp_putRF dX4_init_10 gX4_13 rfl rfl ?_
  refine wp_aload_n dX4_init_13 rfl ?_
  refine wp_bipush dX4_init_14 ?_
  refine wp_newQ (N := 6) dX4_init_16 xX4_3 rfl (by decide) ?_
  rw [zA (iv := IV4) (fun _ => rfl), zA (iv := Z0) (fun _ => rfl), zQ (rv := (uP RV4 11 1 (some 12))) (fun _ => rfl)]
  show wp _ _ _ _ (aR 13 :: _) [(3, 11), (3, 10), (0, 240), (3, 7), (0, 5), (0, 24), (0, 16), (3, 8), (0, 5), (0, 24), (0, 16), (3, 4), (0, 429), (1, 6)] _ _ _ _ _ _
  refine wp_putRF dX4_init_19 gX4_17 rfl rfl ?_
  refine wp_aload_n dX4_init_22 rfl ?_
  refine wp_aload_n dX4_init_23 rfl ?_
  refine wp_putRF dX4_init_24 gX4_21 rfl rfl ?_
  refine wp_iconst dX4_init_27 ?_
  refine wp_istore_n (ls' := [_, _, _]) dX4_init_28 (by decide) rfl rfl ?_
  refine wp_iload_n dX4_init_29 rfl ?_
  refine wp_bipush dX4_init_30 ?_
  refine wp_icmp_ge (tgt := 65) dX4_init_32 rfl (fun q => absurd q (by decide)) (fun _ => ?_)
  refine wp_aload_n dX4_init_35 rfl ?_
  refine wp_getR (show (uP (uP (uP RV4 11 1 (some 12)) 11 2 (some 13)) 11 0 (some 3)) 11 2 = some 13 from rfl) dX4_init_36 fX4_17 rfl ?_
  refine wp_iload_n dX4_init_39 rfl ?_
  refine wp_new (N := 6) dX4_init_40 wX4_3 rfl (by decide) ?_
  rw [zA (iv := IV4) (fun _ => rfl), zA (iv := Z0) (fun _ => rfl), zQ (rv := (uP (uP (uP RV4 11 1 (some 12)) 11 2 (some 13)) 11 0 (some 3))) (fun _ => rfl)]
  show wp _ _ _ _ (aR 14 :: _) [(3, 11), (3, 10), (0, 240), (3, 7), (0, 5), (0, 24), (0, 16), (3, 8), (0, 5), (0, 24), (0, 16), (3, 4), (0, 429), (1, 6), (3, 3)] _ _ _ _ _ _
  refine wp_dup dX4_init_43 rfl ?_
  refine wp_iload_n dX4_init_44 rfl ?_
  refine wp_aload_n dX4_init_45 rfl ?_
  refine wp_getR (show (uP (uP (uP RV4 11 1 (some 12)) 11 2 (some 13)) 11 0 (some 3)) 11 1 = some 12 from rfl) dX4_init_46 fX4_13 rfl ?_
  refine wp_iconst dX4_init_49 ?_
  refine wp_iload_n dX4_init_50 rfl ?_
  refine wp_bipush dX4_init_51 ?_
  refine wp_imul dX4_init_53 ⟨by decide, by decide⟩ ?_
  refine wp_iadd dX4_init_54 ⟨by decide, by decide⟩ ?_
  refine wp_callI (as := [_, _, _]) (ls0 := [_, _, _, _]) (kc := 3) (ks := 6) (bc' := 20) (bs' := 60) dX4_init_55 vX4_25 rfl rfl (Nat.le_of_ble_eq_true rfl) (Nat.le_of_ble_eq_true rfl) (by decide) (by decide) ?_
  refine wp_aload_n dX3_init_0 rfl ?_
  refine wp_obj dX3_init_1 oX3_9 (by omega) (Nat.le_of_ble_eq_true rfl) ?_
  refine wp_aload_n dX3_init_4 rfl ?_
  refine wp_iload_n dX3_init_5 rfl ?_
  refine wp_putIF dX3_init_6 gX3_15 rfl rfl ?_
  refine wp_aload_n dX3_init_9 rfl ?_
  refine wp_aload_n dX3_init_10 rfl ?_
  refine wp_putRF dX3_init_11 gX3_19 rfl rfl ?_
  refine wp_aload_n dX3_init_14 rfl ?_
  refine wp_iload_n dX3_init_15 rfl ?_
  refine wp_putIF dX3_init_16 gX3_23 rfl rfl ?_
  refine wp_aload_n dX3_init_19 rfl ?_
  refine wp_new (N := 2) dX3_init_20 wX3_3 rfl (by decide) ?_
  rw [zA (iv := (uI (uI IV4 14 0 (0)) 14 2 ((3) + ((0) * (71))))) (fun _ => rfl), zA (iv := Z0) (fun _ => rfl), zQ (rv := (uP (uP (uP (uP RV4 11 1 (some 12)) 11 2 (some 13)) 11 0 (some 3)) 14 1 (some 12))) (fun _ => rfl)]
  show wp _ _ _ _ (aR 15 :: _) [(3, 11), (3, 10), (0, 240), (3, 7), (0, 5), (0, 24), (0, 16), (3, 8), (0, 5), (0, 24), (0, 16), (3, 4), (0, 429), (1, 6), (3, 3), (3, 9)] _ _ _ _ _ _
  refine wp_dup dX3_init_23 rfl ?_
  refine wp_aload_n dX3_init_24 rfl ?_
  refine wp_iload_n dX3_init_25 rfl ?_
  refine wp_iconst dX3_init_26 ?_
  refine wp_iadd dX3_init_27 ⟨by decide, by decide⟩ ?_
  refine wp_callI (as := [_, _]) (ls0 := [_, _, _]) (kc := 0) (ks := 0) (bc' := 2) (bs' := 4) dX3_init_28 vX3_26 rfl rfl (Nat.le_of_ble_eq_true rfl) (Nat.le_of_ble_eq_true rfl) (by decide) (by decide) ?_
  refine wp_aload_n dX9_init_0 rfl ?_
  refine wp_obj dX9_init_1 oX9_5 (by omega) (Nat.le_of_ble_eq_true rfl) ?_
  refine wp_aload_n dX9_init_4 rfl ?_
  refine wp_aload_n dX9_init_5 rfl ?_
  refine wp_putRF dX9_init_6 gX9_11 rfl rfl ?_
  refine wp_aload_n dX9_init_9 rfl ?_
  refine wp_iload_n dX9_init_10 rfl ?_
  refine wp_putIF dX9_init_11 gX9_15 rfl rfl ?_
  refine wp_return dX9_init_14 rfl ?_
  refine wp_putRF dX3_init_31 gX3_29 rfl rfl ?_
  refine wp_aload_n dX3_init_34 rfl ?_
  refine wp_new (N := 2) dX3_init_35 wX3_3 rfl (by decide) ?_
  rw [zA (iv := (uI (uI (uI IV4 14 0 (0)) 14 2 ((3) + ((0) * (71)))) 15 1 (((3) + ((0) * (71))) + (4)))) (fun _ => rfl), zA (iv := Z0) (fun _ => rfl), zQ (rv := (uP (uP (uP (uP (uP (uP RV4 11 1 (some 12)) 11 2 (some 13)) 11 0 (some 3)) 14 1 (some 12)) 15 0 (some 12)) 14 3 (some 15))) (fun _ => rfl)]
  show wp _ _ _ _ (aR 16 :: _) [(3, 11), (3, 10), (0, 240), (3, 7), (0, 5), (0, 24), (0, 16), (3, 8), (0, 5), (0, 24), (0, 16), (3, 4), (0, 429), (1, 6), (3, 3), (3, 9), (3, 9)] _ _ _ _ _ _
  refine wp_dup dX3_init_38 rfl ?_
  refine wp_aload_n dX3_init_39 rfl ?_
  refine wp_iload_n dX3_init_40 rfl ?_
  refine wp_iconst dX3_init_41 ?_
  refine wp_iadd dX3_init_42 ⟨by decide, by decide⟩ ?_
  refine wp_bipush dX3_init_43 ?_
  refine wp_iadd dX3_init_45 ⟨by decide, by decide⟩ ?_
  refine wp_callI (as := [_, _]) (ls0 := [_, _, _]) (kc := 0) (ks := 0) (bc' := 1) (bs' := 2) dX3_init_46 vX3_26 rfl rfl (Nat.le_of_ble_eq_true rfl) (Nat.le_of_ble_eq_true rfl) (by decide) (by decide) ?_
  refine wp_aload_n dX9_init_0 rfl ?_
  refine wp_obj dX9_init_1 oX9_5 (by omega) (Nat.le_of_ble_eq_true rfl) ?_
  refine wp_aload_n dX9_init_4 rfl ?_
  refine wp_aload_n dX9_init_5 rfl ?_
  refine wp_putRF dX9_init_6 gX9_11 rfl rfl ?_
  refine wp_aload_n dX9_init_9 rfl ?_
  refine wp_iload_n dX9_init_10 rfl ?_
  refine wp_putIF dX9_init_11 gX9_15 rfl rfl ?_
  refine wp_return dX9_init_14 rfl ?_
  refine wp_putRF dX3_init_49 gX3_33 rfl rfl ?_
  refine wp_aload_n dX3_init_52 rfl ?_
  refine wp_new (N := 2) dX3_init_53 wX3_5 rfl (by decide) ?_
  rw [zA (iv := (uI (uI (uI (uI IV4 14 0 (0)) 14 2 ((3) + ((0) * (71)))) 15 1 (((3) + ((0) * (71))) + (4))) 16 1 ((((3) + ((0) * (71))) + (4)) + (28)))) (fun _ => rfl), zA (iv := Z0) (fun _ => rfl), zQ (rv := (uP (uP (uP (uP (uP (uP (uP (uP RV4 11 1 (some 12)) 11 2 (some 13)) 11 0 (some 3)) 14 1 (some 12)) 15 0 (some 12)) 14 3 (some 15)) 16 0 (some 12)) 14 4 (some 16))) (fun _ => rfl)]
  show wp _ _ _ _ (aR 17 :: _) [(3, 11), (3, 10), (0, 240), (3, 7), (0, 5), (0, 24), (0, 16), (3, 8), (0, 5), (0, 24), (0, 16), (3, 4), (0, 429), (1, 6), (3, 3), (3, 9), (3, 9), (3, 2)] _ _ _ _ _ _
  refine wp_dup dX3_init_56 rfl ?_
  refine wp_aload_n dX3_init_57 rfl ?_
  refine wp_iload_n dX3_init_58 rfl ?_
  refine wp_iconst dX3_init_59 ?_
  refine wp_iadd dX3_init_60 ⟨by decide, by decide⟩ ?_
  refine wp_bipush dX3_init_61 ?_
  refine wp_iadd dX3_init_63 ⟨by decide, by decide⟩ ?_
  refine wp_callI (as := [_, _]) (ls0 := [_, _, _]) (kc := 0) (ks := 0) (bc' := 0) (bs' := 0) dX3_init_64 vX3_36 rfl rfl (Nat.le_of_ble_eq_true rfl) (Nat.le_of_ble_eq_true rfl) (by decide) (by decide) ?_
  refine wp_aload_n dX2_init_0 rfl ?_
  refine wp_obj dX2_init_1 oX2_5 (by omega) (Nat.le_of_ble_eq_true rfl) ?_
  refine wp_aload_n dX2_init_4 rfl ?_
  refine wp_aload_n dX2_init_5 rfl ?_
  refine wp_putRF dX2_init_6 gX2_11 rfl rfl ?_
  refine wp_aload_n dX2_init_9 rfl ?_
  refine wp_iload_n dX2_init_10 rfl ?_
  refine wp_putIF dX2_init_11 gX2_15 rfl rfl ?_
  refine wp_return dX2_init_14 rfl ?_
  refine wp_putRF dX3_init_67 gX3_37 rfl rfl ?_
  refine wp_return dX3_init_70 rfl ?_
  refine wp_aastL dX4_init_58 rfl rfl (by decide) (by decide) ?_
  refine wp_iinc (ls' := [_, _, _]) dX4_init_59 (by decide) rfl rfl ⟨by decide, by decide⟩ rfl ?_
  refine wp_goto (tgt := 29) dX4_init_62 rfl ?_
  refine wp_iload_n dX4_init_29 rfl ?_
  refine wp_bipush dX4_init_30 ?_
  refine wp_icmp_ge (tgt := 65) dX4_init_32 rfl (fun q => absurd q (by decide)) (fun _ => ?_)
  refine wp_aload_n dX4_init_35 rfl ?_
  refine wp_getR (show (uP (uP (uP (uP (uP (uP (uP (uP (uP (uP (uP RV4 11 1 (some 12)) 11 2 (some 13)) 11 0 (some 3)) 14 1 (some 12)) 15 0 (some 12)) 14 3 (some 15)) 16 0 (some 12)) 14 4 (some 16)) 17 0 (some 12)) 14 5 (some 17)) 13 (0) (some 14)) 11 2 = some 13 from rfl) dX4_init_36 fX4_17 rfl ?_
  refine wp_iload_n dX4_init_39 rfl ?_
  refine wp_new (N := 6) dX4_init_40 wX4_3 rfl (by decide) ?_
  rw [zA (iv := (uI (uI (uI (uI (uI IV4 14 0 (0)) 14 2 ((3) + ((0) * (71)))) 15 1 (((3) + ((0) * (71))) + (4))) 16 1 ((((3) + ((0) * (71))) + (4)) + (28))) 17 1 ((((3) + ((0) * (71))) + (4)) + (56)))) (fun _ => rfl), zA (iv := Z0) (fun _ => rfl), zQ (rv := (uP (uP (uP (uP (uP (uP (uP (uP (uP (uP (uP RV4 11 1 (some 12)) 11 2 (some 13)) 11 0 (some 3)) 14 1 (some 12)) 15 0 (some 12)) 14 3 (some 15)) 16 0 (some 12)) 14 4 (some 16)) 17 0 (some 12)) 14 5 (some 17)) 13 (0) (some 14))) (fun _ => rfl)]
  show wp _ _ _ _ (aR 18 :: _) [(3, 11), (3, 10), (0, 240), (3, 7), (0, 5), (0, 24), (0, 16), (3, 8), (0, 5), (0, 24), (0, 16), (3, 4), (0, 429), (1, 6), (3, 3), (3, 9), (3, 9), (3, 2), (3, 3)] _ _ _ _ _ _
  refine wp_dup dX4_init_43 rfl ?_
  refine wp_iload_n dX4_init_44 rfl ?_
  refine wp_aload_n dX4_init_45 rfl ?_
  refine wp_getR (show (uP (uP (uP (uP (uP (uP (uP (uP (uP (uP (uP RV4 11 1 (some 12)) 11 2 (some 13)) 11 0 (some 3)) 14 1 (some 12)) 15 0 (some 12)) 14 3 (some 15)) 16 0 (some 12)) 14 4 (some 16)) 17 0 (some 12)) 14 5 (some 17)) 13 (0) (some 14)) 11 1 = some 12 from rfl) dX4_init_46 fX4_13 rfl ?_
  refine wp_iconst dX4_init_49 ?_
  refine wp_iload_n dX4_init_50 rfl ?_
  refine wp_bipush dX4_init_51 ?_
  refine wp_imul dX4_init_53 ⟨by decide, by decide⟩ ?_
  refine wp_iadd dX4_init_54 ⟨by decide, by decide⟩ ?_
  refine wp_callI (as := [_, _, _]) (ls0 := [_, _, _, _]) (kc := 3) (ks := 6) (bc' := 16) (bs' := 48) dX4_init_55 vX4_25 rfl rfl (Nat.le_of_ble_eq_true rfl) (Nat.le_of_ble_eq_true rfl) (by decide) (by decide) ?_
  refine wp_aload_n dX3_init_0 rfl ?_
  refine wp_obj dX3_init_1 oX3_9 (by omega) (Nat.le_of_ble_eq_true rfl) ?_
  refine wp_aload_n dX3_init_4 rfl ?_
  refine wp_iload_n dX3_init_5 rfl ?_
  refine wp_putIF dX3_init_6 gX3_15 rfl rfl ?_
  refine wp_aload_n dX3_init_9 rfl ?_
  refine wp_aload_n dX3_init_10 rfl ?_
  refine wp_putRF dX3_init_11 gX3_19 rfl rfl ?_
  refine wp_aload_n dX3_init_14 rfl ?_
  refine wp_iload_n dX3_init_15 rfl ?_
  refine wp_putIF dX3_init_16 gX3_23 rfl rfl ?_
  refine wp_aload_n dX3_init_19 rfl ?_
  refine wp_new (N := 2) dX3_init_20 wX3_3 rfl (by decide) ?_
  rw [zA (iv := (uI (uI (uI (uI (uI (uI (uI IV4 14 0 (0)) 14 2 ((3) + ((0) * (71)))) 15 1 (((3) + ((0) * (71))) + (4))) 16 1 ((((3) + ((0) * (71))) + (4)) + (28))) 17 1 ((((3) + ((0) * (71))) + (4)) + (56))) 18 0 (0 + 1)) 18 2 ((3) + ((0 + 1) * (71))))) (fun _ => rfl), zA (iv := Z0) (fun _ => rfl), zQ (rv := (uP (uP (uP (uP (uP (uP (uP (uP (uP (uP (uP (uP RV4 11 1 (some 12)) 11 2 (some 13)) 11 0 (some 3)) 14 1 (some 12)) 15 0 (some 12)) 14 3 (some 15)) 16 0 (some 12)) 14 4 (some 16)) 17 0 (some 12)) 14 5 (some 17)) 13 (0) (some 14)) 18 1 (some 12))) (fun _ => rfl)]
  show wp _ _ _ _ (aR 19 :: _) [(3, 11), (3, 10), (0, 240), (3, 7), (0, 5), (0, 24), (0, 16), (3, 8), (0, 5), (0, 24), (0, 16), (3, 4), (0, 429), (1, 6), (3, 3), (3, 9), (3, 9), (3, 2), (3, 3), (3, 9)] _ _ _ _ _ _
  refine wp_dup dX3_init_23 rfl ?_
  refine wp_aload_n dX3_init_24 rfl ?_
  refine wp_iload_n dX3_init_25 rfl ?_
  refine wp_iconst dX3_init_26 ?_
  refine wp_iadd dX3_init_27 ⟨by decide, by decide⟩ ?_
  refine wp_callI (as := [_, _]) (ls0 := [_, _, _]) (kc := 0) (ks := 0) (bc' := 2) (bs' := 4) dX3_init_28 vX3_26 rfl rfl (Nat.le_of_ble_eq_true rfl) (Nat.le_of_ble_eq_true rfl) (by decide) (by decide) ?_
  refine wp_aload_n dX9_init_0 rfl ?_
  refine wp_obj dX9_init_1 oX9_5 (by omega) (Nat.le_of_ble_eq_true rfl) ?_
  refine wp_aload_n dX9_init_4 rfl ?_
  refine wp_aload_n dX9_init_5 rfl ?_
  refine wp_putRF dX9_init_6 gX9_11 rfl rfl ?_
  refine wp_aload_n dX9_init_9 rfl ?_
  refine wp_iload_n dX9_init_10 rfl ?_
  refine wp_putIF dX9_init_11 gX9_15 rfl rfl ?_
  refine wp_return dX9_init_14 rfl ?_
  refine wp_putRF dX3_init_31 gX3_29 rfl rfl ?_
  refine wp_aload_n dX3_init_34 rfl ?_
  refine wp_new (N := 2) dX3_init_35 wX3_3 rfl (by decide) ?_
  rw [zA (iv := (uI (uI (uI (uI (uI (uI (uI (uI IV4 14 0 (0)) 14 2 ((3) + ((0) * (71)))) 15 1 (((3) + ((0) * (71))) + (4))) 16 1 ((((3) + ((0) * (71))) + (4)) + (28))) 17 1 ((((3) + ((0) * (71))) + (4)) + (56))) 18 0 (0 + 1)) 18 2 ((3) + ((0 + 1) * (71)))) 19 1 (((3) + ((0 + 1) * (71))) + (4)))) (fun _ => rfl), zA (iv := Z0) (fun _ => rfl), zQ (rv := (uP (uP (uP (uP (uP (uP (uP (uP (uP (uP (uP (uP (uP (uP RV4 11 1 (some 12)) 11 2 (some 13)) 11 0 (some 3)) 14 1 (some 12)) 15 0 (some 12)) 14 3 (some 15)) 16 0 (some 12)) 14 4 (some 16)) 17 0 (some 12)) 14 5 (some 17)) 13 (0) (some 14)) 18 1 (some 12)) 19 0 (some 12)) 18 3 (some 19))) (fun _ => rfl)]
  show wp _ _ _ _ (aR 20 :: _) [(3, 11), (3, 10), (0, 240), (3, 7), (0, 5), (0, 24), (0, 16), (3, 8), (0, 5), (0, 24), (0, 16), (3, 4), (0, 429), (1, 6), (3, 3), (3, 9), (3, 9), (3, 2), (3, 3), (3, 9), (3, 9)] _ _ _ _ _ _
  refine wp_dup dX3_init_38 rfl ?_
  refine wp_aload_n dX3_init_39 rfl ?_
  refine wp_iload_n dX3_init_40 rfl ?_
  refine wp_iconst dX3_init_41 ?_
  refine wp_iadd dX3_init_42 ⟨by decide, by decide⟩ ?_
  refine wp_bipush dX3_init_43 ?_
  refine wp_iadd dX3_init_45 ⟨by decide, by decide⟩ ?_
  refine wp_callI (as := [_, _]) (ls0 := [_, _, _]) (kc := 0) (ks := 0) (bc' := 1) (bs' := 2) dX3_init_46 vX3_26 rfl rfl (Nat.le_of_ble_eq_true rfl) (Nat.le_of_ble_eq_true rfl) (by decide) (by decide) ?_
  refine wp_aload_n dX9_init_0 rfl ?_
  refine wp_obj dX9_init_1 oX9_5 (by omega) (Nat.le_of_ble_eq_true rfl) ?_
  refine wp_aload_n dX9_init_4 rfl ?_
  refine wp_aload_n dX9_init_5 rfl ?_
  refine wp_putRF dX9_init_6 gX9_11 rfl rfl ?_
  refine wp_aload_n dX9_init_9 rfl ?_
  refine wp_iload_n dX9_init_10 rfl ?_
  refine wp_putIF dX9_init_11 gX9_15 rfl rfl ?_
  refine wp_return dX9_init_14 rfl ?_
  refine wp_putRF dX3_init_49 gX3_33 rfl rfl ?_
  refine wp_aload_n dX3_init_52 rfl ?_
  refine wp_new (N := 2) dX3_init_53 wX3_5 rfl (by decide) ?_
  rw [zA (iv := (uI (uI (uI (uI (uI (uI (uI (uI (uI IV4 14 0 (0)) 14 2 ((3) + ((0) * (71)))) 15 1 (((3) + ((0) * (71))) + (4))) 16 1 ((((3) + ((0) * (71))) + (4)) + (28))) 17 1 ((((3) + ((0) * (71))) + (4)) + (56))) 18 0 (0 + 1)) 18 2 ((3) + ((0 + 1) * (71)))) 19 1 (((3) + ((0 + 1) * (71))) + (4))) 20 1 ((((3) + ((0 + 1) * (71))) + (4)) + (28)))) (fun _ => rfl), zA (iv := Z0) (fun _ => rfl), zQ (rv := (uP (uP (uP (uP (uP (uP (uP (uP (uP (uP (uP (uP (uP (uP (uP (uP RV4 11 1 (some 12)) 11 2 (some 13)) 11 0 (some 3)) 14 1 (some 12)) 15 0 (some 12)) 14 3 (some 15)) 16 0 (some 12)) 14 4 (some 16)) 17 0 (some 12)) 14 5 (some 17)) 13 (0) (some 14)) 18 1 (some 12)) 19 0 (some 12)) 18 3 (some 19)) 20 0 (some 12)) 18 4 (some 20))) (fun _ => rfl)]
  show wp _ _ _ _ (aR 21 :: _) [(3, 11), (3, 10), (0, 240), (3, 7), (0, 5), (0, 24), (0, 16), (3, 8), (0, 5), (0, 24), (0, 16), (3, 4), (0, 429), (1, 6), (3, 3), (3, 9), (3, 9), (3, 2), (3, 3), (3, 9), (3, 9), (3, 2)] _ _ _ _ _ _
  refine wp_dup dX3_init_56 rfl ?_
  refine wp_aload_n dX3_init_57 rfl ?_
  refine wp_iload_n dX3_init_58 rfl ?_
  refine wp_iconst dX3_init_59 ?_
  refine wp_iadd dX3_init_60 ⟨by decide, by decide⟩ ?_
  refine wp_bipush dX3_init_61 ?_
  refine wp_iadd dX3_init_63 ⟨by decide, by decide⟩ ?_
  refine wp_callI (as := [_, _]) (ls0 := [_, _, _]) (kc := 0) (ks := 0) (bc' := 0) (bs' := 0) dX3_init_64 vX3_36 rfl rfl (Nat.le_of_ble_eq_true rfl) (Nat.le_of_ble_eq_true rfl) (by decide) (by decide) ?_
  refine wp_aload_n dX2_init_0 rfl ?_
  refine wp_obj dX2_init_1 oX2_5 (by omega) (Nat.le_of_ble_eq_true rfl) ?_
  refine wp_aload_n dX2_init_4 rfl ?_
  refine wp_aload_n dX2_init_5 rfl ?_
  refine wp_putRF dX2_init_6 gX2_11 rfl rfl ?_
  refine wp_aload_n dX2_init_9 rfl ?_
  refine wp_iload_n dX2_init_10 rfl ?_
  refine wp_putIF dX2_init_11 gX2_15 rfl rfl ?_
  refine wp_return dX2_init_14 rfl ?_
  refine wp_putRF dX3_init_67 gX3_37 rfl rfl ?_
  refine wp_return dX3_init_70 rfl ?_
  refine wp_aastL dX4_init_58 rfl rfl (by decide) (by decide) ?_
  refine wp_iinc (ls' := [_, _, _]) dX4_init_59 (by decide) rfl rfl ⟨by decide, by decide⟩ rfl ?_
  refine wp_goto (tgt := 29) dX4_init_62 rfl ?_
  refine wp_iload_n dX4_init_29 rfl ?_
  refine wp_bipush dX4_init_30 ?_
  refine wp_icmp_ge (tgt := 65) dX4_init_32 rfl (fun q => absurd q (by decide)) (fun _ => ?_)
  refine wp_aload_n dX4_init_35 rfl ?_
  refine wp_getR (show (uP (uP (uP (uP (uP (uP (uP (uP (uP (uP (uP (uP (uP (uP (uP (uP (uP (uP (uP RV4 11 1 (some 12)) 11 2 (some 13)) 11 0 (some 3)) 14 1 (some 12)) 15 0 (some 12)) 14 3 (some 15)) 16 0 (some 12)) 14 4 (some 16)) 17 0 (some 12)) 14 5 (some 17)) 13 (0) (some 14)) 18 1 (some 12)) 19 0 (some 12)) 18 3 (some 19)) 20 0 (some 12)) 18 4 (some 20)) 21 0 (some 12)) 18 5 (some 21)) 13 (0 + 1) (some 18)) 11 2 = some 13 from rfl) dX4_init_36 fX4_17 rfl ?_
  refine wp_iload_n dX4_init_39 rfl ?_
  refine wp_new (N := 6) dX4_init_40 wX4_3 rfl (by decide) ?_
  rw [zA (iv := (uI (uI (uI (uI (uI (uI (uI (uI (uI (uI IV4 14 0 (0)) 14 2 ((3) + ((0) * (71)))) 15 1 (((3) + ((0) * (71))) + (4))) 16 1 ((((3) + ((0) * (71))) + (4)) + (28))) 17 1 ((((3) + ((0) * (71))) + (4)) + (56))) 18 0 (0 + 1)) 18 2 ((3) + ((0 + 1) * (71)))) 19 1 (((3) + ((0 + 1) * (71))) + (4))) 20 1 ((((3) + ((0 + 1) * (71))) + (4)) + (28))) 21 1 ((((3) + ((0 + 1) * (71))) + (4)) + (56)))) (fun _ => rfl), zA (iv := Z0) (fun _ => rfl), zQ (rv := (uP (uP (uP (uP (uP (uP (uP (uP (uP (uP (uP (uP (uP (uP (uP (uP (uP (uP (uP RV4 11 1 (some 12)) 11 2 (some 13)) 11 0 (some 3)) 14 1 (some 12)) 15 0 (some 12)) 14 3 (some 15)) 16 0 (some 12)) 14 4 (some 16)) 17 0 (some 12)) 14 5 (some 17)) 13 (0) (some 14)) 18 1 (some 12)) 19 0 (some 12)) 18 3 (some 19)) 20 0 (some 12)) 18 4 (some 20)) 21 0 (some 12)) 18 5 (some 21)) 13 (0 + 1) (some 18))) (fun _ => rfl)]
  show wp _ _ _ _ (aR 22 :: _) [(3, 11), (3, 10), (0, 240), (3, 7), (0, 5), (0, 24), (0, 16), (3, 8), (0, 5), (0, 24), (0, 16), (3, 4), (0, 429), (1, 6), (3, 3), (3, 9), (3, 9), (3, 2), (3, 3), (3, 9), (3, 9), (3, 2), (3, 3)] _ _ _ _ _ _
  refine wp_dup dX4_init_43 rfl ?_
  refine wp_iload_n dX4_init_44 rfl ?_
  refine wp_aload_n dX4_init_45 rfl ?_
  refine wp_getR (show (uP (uP (uP (uP (uP (uP (uP (uP (uP (uP (uP (uP (uP (uP (uP (uP (uP (uP (uP RV4 11 1 (some 12)) 11 2 (some 13)) 11 0 (some 3)) 14 1 (some 12)) 15 0 (some 12)) 14 3 (some 15)) 16 0 (some 12)) 14 4 (some 16)) 17 0 (some 12)) 14 5 (some 17)) 13 (0) (some 14)) 18 1 (some 12)) 19 0 (some 12)) 18 3 (some 19)) 20 0 (some 12)) 18 4 (some 20)) 21 0 (some 12)) 18 5 (some 21)) 13 (0 + 1) (some 18)) 11 1 = some 12 from rfl) dX4_init_46 fX4_13 rfl ?_
  refine wp_iconst dX4_init_49 ?_
  refine wp_iload_n dX4_init_50 rfl ?_
  refine wp_bipush dX4_init_51 ?_
  refine wp_imul dX4_init_53 ⟨by decide, by decide⟩ ?_
  refine wp_iadd dX4_init_54 ⟨by decide, by decide⟩ ?_
  refine wp_callI (as := [_, _, _]) (ls0 := [_, _, _, _]) (kc := 3) (ks := 6) (bc' := 12) (bs' := 36) dX4_init_55 vX4_25 rfl rfl (Nat.le_of_ble_eq_true rfl) (Nat.le_of_ble_eq_true rfl) (by decide) (by decide) ?_
  refine wp_aload_n dX3_init_0 rfl ?_
  refine wp_obj dX3_init_1 oX3_9 (by omega) (Nat.le_of_ble_eq_true rfl) ?_
  refine wp_aload_n dX3_init_4 rfl ?_
  refine wp_iload_n dX3_init_5 rfl ?_
  refine wp_putIF dX3_init_6 gX3_15 rfl rfl ?_
  refine wp_aload_n dX3_init_9 rfl ?_
  refine wp_aload_n dX3_init_10 rfl ?_
  refine wp_putRF dX3_init_11 gX3_19 rfl rfl ?_
  refine wp_aload_n dX3_init_14 rfl ?_
  refine wp_iload_n dX3_init_15 rfl ?_
  refine wp_putIF dX3_init_16 gX3_23 rfl rfl ?_
  refine wp_aload_n dX3_init_19 rfl ?_
  refine wp_new (N := 2) dX3_init_20 wX3_3 rfl (by decide) ?_
  rw [zA (iv := (uI (uI (uI (uI (uI (uI (uI (uI (uI (uI (uI (uI IV4 14 0 (0)) 14 2 ((3) + ((0) * (71)))) 15 1 (((3) + ((0) * (71))) + (4))) 16 1 ((((3) + ((0) * (71))) + (4)) + (28))) 17 1 ((((3) + ((0) * (71))) + (4)) + (56))) 18 0 (0 + 1)) 18 2 ((3) + ((0 + 1) * (71)))) 19 1 (((3) + ((0 + 1) * (71))) + (4))) 20 1 ((((3) + ((0 + 1) * (71))) + (4)) + (28))) 21 1 ((((3) + ((0 + 1) * (71))) + (4)) + (56))) 22 0 (0 + 1 + 1)) 22 2 ((3) + ((0 + 1 + 1) * (71))))) (fun _ => rfl), zA (iv := Z0) (fun _ => rfl), zQ (rv := (uP (uP (uP (uP (uP (uP (uP (uP (uP (uP (uP (uP (uP (uP (uP (uP (uP (uP (uP (uP RV4 11 1 (some 12)) 11 2 (some 13)) 11 0 (some 3)) 14 1 (some 12)) 15 0 (some 12)) 14 3 (some 15)) 16 0 (some 12)) 14 4 (some 16)) 17 0 (some 12)) 14 5 (some 17)) 13 (0) (some 14)) 18 1 (some 12)) 19 0 (some 12)) 18 3 (some 19)) 20 0 (some 12)) 18 4 (some 20)) 21 0 (some 12)) 18 5 (some 21)) 13 (0 + 1) (some 18)) 22 1 (some 12))) (fun _ => rfl)]
  show wp _ _ _ _ (aR 23 :: _) [(3, 11), (3, 10), (0, 240), (3, 7), (0, 5), (0, 24), (0, 16), (3, 8), (0, 5), (0, 24), (0, 16), (3, 4), (0, 429), (1, 6), (3, 3), (3, 9), (3, 9), (3, 2), (3, 3), (3, 9), (3, 9), (3, 2), (3, 3), (3, 9)] _ _ _ _ _ _
  refine wp_dup dX3_init_23 rfl ?_
  refine wp_aload_n dX3_init_24 rfl ?_
  refine wp_iload_n dX3_init_25 rfl ?_
  refine wp_iconst dX3_init_26 ?_
  refine wp_iadd dX3_init_27 ⟨by decide, by decide⟩ ?_
  refine wp_callI (as := [_, _]) (ls0 := [_, _, _]) (kc := 0) (ks := 0) (bc' := 2) (bs' := 4) dX3_init_28 vX3_26 rfl rfl (Nat.le_of_ble_eq_true rfl) (Nat.le_of_ble_eq_true rfl) (by decide) (by decide) ?_
  refine wp_aload_n dX9_init_0 rfl ?_
  refine wp_obj dX9_init_1 oX9_5 (by omega) (Nat.le_of_ble_eq_true rfl) ?_
  refine wp_aload_n dX9_init_4 rfl ?_
  refine wp_aload_n dX9_init_5 rfl ?_
  refine wp_putRF dX9_init_6 gX9_11 rfl rfl ?_
  refine wp_aload_n dX9_init_9 rfl ?_
  refine wp_iload_n dX9_init_10 rfl ?_
  refine wp_putIF dX9_init_11 gX9_15 rfl rfl ?_
  refine wp_return dX9_init_14 rfl ?_
  refine wp_putRF dX3_init_31 gX3_29 rfl rfl ?_
  refine wp_aload_n dX3_init_34 rfl ?_
  refine wp_new (N := 2) dX3_init_35 wX3_3 rfl (by decide) ?_
  rw [zA (iv := (uI (uI (uI (uI (uI (uI (uI (uI (uI (uI (uI (uI (uI IV4 14 0 (0)) 14 2 ((3) + ((0) * (71)))) 15 1 (((3) + ((0) * (71))) + (4))) 16 1 ((((3) + ((0) * (71))) + (4)) + (28))) 17 1 ((((3) + ((0) * (71))) + (4)) + (56))) 18 0 (0 + 1)) 18 2 ((3) + ((0 + 1) * (71)))) 19 1 (((3) + ((0 + 1) * (71))) + (4))) 20 1 ((((3) + ((0 + 1) * (71))) + (4)) + (28))) 21 1 ((((3) + ((0 + 1) * (71))) + (4)) + (56))) 22 0 (0 + 1 + 1)) 22 2 ((3) + ((0 + 1 + 1) * (71)))) 23 1 (((3) + ((0 + 1 + 1) * (71))) + (4)))) (fun _ => rfl), zA (iv := Z0) (fun _ => rfl), zQ (rv := (uP (uP (uP (uP (uP (uP (uP (uP (uP (uP (uP (uP (uP (uP (uP (uP (uP (uP (uP (uP (uP (uP RV4 11 1 (some 12)) 11 2 (some 13)) 11 0 (some 3)) 14 1 (some 12)) 15 0 (some 12)) 14 3 (some 15)) 16 0 (some 12)) 14 4 (some 16)) 17 0 (some 12)) 14 5 (some 17)) 13 (0) (some 14)) 18 1 (some 12)) 19 0 (some 12)) 18 3 (some 19)) 20 0 (some 12)) 18 4 (some 20)) 21 0 (some 12)) 18 5 (some 21)) 13 (0 + 1) (some 18)) 22 1 (some 12)) 23 0 (some 12)) 22 3 (some 23))) (fun _ => rfl)]
  show wp _ _ _ _ (aR 24 :: _) [(3, 11), (3, 10), (0, 240), (3, 7), (0, 5), (0, 24), (0, 16), (3, 8), (0, 5), (0, 24), (0, 16), (3, 4), (0, 429), (1, 6), (3, 3), (3, 9), (3, 9), (3, 2), (3, 3), (3, 9), (3, 9), (3, 2), (3, 3), (3, 9), (3, 9)] _ _ _ _ _ _
  refine wp_dup dX3_init_38 rfl ?_
  refine wp_aload_n dX3_init_39 rfl ?_
  refine wp_iload_n dX3_init_40 rfl ?_
  refine wp_iconst dX3_init_41 ?_
  refine wp_iadd dX3_init_42 ⟨by decide, by decide⟩ ?_
  refine wp_bipush dX3_init_43 ?_
  refine wp_iadd dX3_init_45 ⟨by decide, by decide⟩ ?_
  refine wp_callI (as := [_, _]) (ls0 := [_, _, _]) (kc := 0) (ks := 0) (bc' := 1) (bs' := 2) dX3_init_46 vX3_26 rfl rfl (Nat.le_of_ble_eq_true rfl) (Nat.le_of_ble_eq_true rfl) (by decide) (by decide) ?_
  refine wp_aload_n dX9_init_0 rfl ?_
  refine wp_obj dX9_init_1 oX9_5 (by omega) (Nat.le_of_ble_eq_true rfl) ?_
  refine wp_aload_n dX9_init_4 rfl ?_
  refine wp_aload_n dX9_init_5 rfl ?_
  refine wp_putRF dX9_init_6 gX9_11 rfl rfl ?_
  refine wp_aload_n dX9_init_9 rfl ?_
  refine wp_iload_n dX9_init_10 rfl ?_
  refine wp_putIF dX9_init_11 gX9_15 rfl rfl ?_
  refine wp_return dX9_init_14 rfl ?_
  refine wp_putRF dX3_init_49 gX3_33 rfl rfl ?_
  refine wp_aload_n dX3_init_52 rfl ?_
  refine wp_new (N := 2) dX3_init_53 wX3_5 rfl (by decide) ?_
  rw [zA (iv := (uI (uI (uI (uI (uI (uI (uI (uI (uI (uI (uI (uI (uI (uI IV4 14 0 (0)) 14 2 ((3) + ((0) * (71)))) 15 1 (((3) + ((0) * (71))) + (4))) 16 1 ((((3) + ((0) * (71))) + (4)) + (28))) 17 1 ((((3) + ((0) * (71))) + (4)) + (56))) 18 0 (0 + 1)) 18 2 ((3) + ((0 + 1) * (71)))) 19 1 (((3) + ((0 + 1) * (71))) + (4))) 20 1 ((((3) + ((0 + 1) * (71))) + (4)) + (28))) 21 1 ((((3) + ((0 + 1) * (71))) + (4)) + (56))) 22 0 (0 + 1 + 1)) 22 2 ((3) + ((0 + 1 + 1) * (71)))) 23 1 (((3) + ((0 + 1 + 1) * (71))) + (4))) 24 1 ((((3) + ((0 + 1 + 1) * (71))) + (4)) + (28)))) (fun _ => rfl), zA (iv := Z0) (fun _ => rfl), zQ (rv := (uP (uP (uP (uP (uP (uP (uP (uP (uP (uP (uP (uP (uP (uP (uP (uP (uP (uP (uP (uP (uP (uP (uP (uP RV4 11 1 (some 12)) 11 2 (some 13)) 11 0 (some 3)) 14 1 (some 12)) 15 0 (some 12)) 14 3 (some 15)) 16 0 (some 12)) 14 4 (some 16)) 17 0 (some 12)) 14 5 (some 17)) 13 (0) (some 14)) 18 1 (some 12)) 19 0 (some 12)) 18 3 (some 19)) 20 0 (some 12)) 18 4 (some 20)) 21 0 (some 12)) 18 5 (some 21)) 13 (0 + 1) (some 18)) 22 1 (some 12)) 23 0 (some 12)) 22 3 (some 23)) 24 0 (some 12)) 22 4 (some 24))) (fun _ => rfl)]
  show wp _ _ _ _ (aR 25 :: _) [(3, 11), (3, 10), (0, 240), (3, 7), (0, 5), (0, 24), (0, 16), (3, 8), (0, 5), (0, 24), (0, 16), (3, 4), (0, 429), (1, 6), (3, 3), (3, 9), (3, 9), (3, 2), (3, 3), (3, 9), (3, 9), (3, 2), (3, 3), (3, 9), (3, 9), (3, 2)] _ _ _ _ _ _
  refine wp_dup dX3_init_56 rfl ?_
  refine wp_aload_n dX3_init_57 rfl ?_
  refine wp_iload_n dX3_init_58 rfl ?_
  refine wp_iconst dX3_init_59 ?_
  refine wp_iadd dX3_init_60 ⟨by decide, by decide⟩ ?_
  refine wp_bipush dX3_init_61 ?_
  refine wp_iadd dX3_init_63 ⟨by decide, by decide⟩ ?_
  refine wp_callI (as := [_, _]) (ls0 := [_, _, _]) (kc := 0) (ks := 0) (bc' := 0) (bs' := 0) dX3_init_64 vX3_36 rfl rfl (Nat.le_of_ble_eq_true rfl) (Nat.le_of_ble_eq_true rfl) (by decide) (by decide) ?_
  refine wp_aload_n dX2_init_0 rfl ?_
  refine wp_obj dX2_init_1 oX2_5 (by omega) (Nat.le_of_ble_eq_true rfl) ?_
  refine wp_aload_n dX2_init_4 rfl ?_
  refine wp_aload_n dX2_init_5 rfl ?_
  refine wp_putRF dX2_init_6 gX2_11 rfl rfl ?_
  refine wp_aload_n dX2_init_9 rfl ?_
  refine wp_iload_n dX2_init_10 rfl ?_
  refine wp_putIF dX2_init_11 gX2_15 rfl rfl ?_
  refine wp_return dX2_init_14 rfl ?_
  refine wp_putRF dX3_init_67 gX3_37 rfl rfl ?_
  refine wp_return dX3_init_70 rfl ?_
  refine wp_aastL dX4_init_58 rfl rfl (by decide) (by decide) ?_
  refine wp_iinc (ls' := [_, _, _]) dX4_init_59 (by decide) rfl rfl ⟨by decide, by decide⟩ rfl ?_
  refine wp_goto (tgt := 29) dX4_init_62 rfl ?_
  refine wp_iload_n dX4_init_29 rfl ?_
  refine wp_bipush dX4_init_30 ?_
  refine wp_icmp_ge (tgt := 65) dX4_init_32 rfl (fun q => absurd q (by decide)) (fun _ => ?_)
  refine wp_aload_n dX4_init_35 rfl ?_
  refine wp_getR (show (uP (uP (uP (uP (uP (uP (uP (uP (uP (uP (uP (uP (uP (uP (uP (uP (uP (uP (uP (uP (uP (uP (uP (uP (uP (uP (uP RV4 11 1 (some 12)) 11 2 (some 13)) 11 0 (some 3)) 14 1 (some 12)) 15 0 (some 12)) 14 3 (some 15)) 16 0 (some 12)) 14 4 (some 16)) 17 0 (some 12)) 14 5 (some 17)) 13 (0) (some 14)) 18 1 (some 12)) 19 0 (some 12)) 18 3 (some 19)) 20 0 (some 12)) 18 4 (some 20)) 21 0 (some 12)) 18 5 (some 21)) 13 (0 + 1) (some 18)) 22 1 (some 12)) 23 0 (some 12)) 22 3 (some 23)) 24 0 (some 12)) 22 4 (some 24)) 25 0 (some 12)) 22 5 (some 25)) 13 (0 + 1 + 1) (some 22)) 11 2 = some 13 from rfl) dX4_init_36 fX4_17 rfl ?_
  refine wp_iload_n dX4_init_39 rfl ?_
  refine wp_new (N := 6) dX4_init_40 wX4_3 rfl (by decide) ?_
  rw [zA (iv := (uI (uI (uI (uI (uI (uI (uI (uI (uI (uI (uI (uI (uI (uI (uI IV4 14 0 (0)) 14 2 ((3) + ((0) * (71)))) 15 1 (((3) + ((0) * (71))) + (4))) 16 1 ((((3) + ((0) * (71))) + (4)) + (28))) 17 1 ((((3) + ((0) * (71))) + (4)) + (56))) 18 0 (0 + 1)) 18 2 ((3) + ((0 + 1) * (71)))) 19 1 (((3) + ((0 + 1) * (71))) + (4))) 20 1 ((((3) + ((0 + 1) * (71))) + (4)) + (28))) 21 1 ((((3) + ((0 + 1) * (71))) + (4)) + (56))) 22 0 (0 + 1 + 1)) 22 2 ((3) + ((0 + 1 + 1) * (71)))) 23 1 (((3) + ((0 + 1 + 1) * (71))) + (4))) 24 1 ((((3) + ((0 + 1 + 1) * (71))) + (4)) + (28))) 25 1 ((((3) + ((0 + 1 + 1) * (71))) + (4)) + (56)))) (fun _ => rfl), zA (iv := Z0) (fun _ => rfl), zQ (rv := (uP (uP (uP (uP (uP (uP (uP (uP (uP (uP (uP (uP (uP (uP (uP (uP (uP (uP (uP (uP (uP (uP (uP (uP (uP (uP (uP RV4 11 1 (some 12)) 11 2 (some 13)) 11 0 (some 3)) 14 1 (some 12)) 15 0 (some 12)) 14 3 (some 15)) 16 0 (some 12)) 14 4 (some 16)) 17 0 (some 12)) 14 5 (some 17)) 13 (0) (some 14)) 18 1 (some 12)) 19 0 (some 12)) 18 3 (some 19)) 20 0 (some 12)) 18 4 (some 20)) 21 0 (some 12)) 18 5 (some 21)) 13 (0 + 1) (some 18)) 22 1 (some 12)) 23 0 (some 12)) 22 3 (some 23)) 24 0 (some 12)) 22 4 (some 24)) 25 0 (some 12)) 22 5 (some 25)) 13 (0 + 1 + 1) (some 22))) (fun _ => rfl)]
  show wp _ _ _ _ (aR 26 :: _) [(3, 11), (3, 10), (0, 240), (3, 7), (0, 5), (0, 24), (0, 16), (3, 8), (0, 5), (0, 24), (0, 16), (3, 4), (0, 429), (1, 6), (3, 3), (3, 9), (3, 9), (3, 2), (3, 3), (3, 9), (3, 9), (3, 2), (3, 3), (3, 9), (3, 9), (3, 2), (3, 3)] _ _ _ _ _ _
  refine wp_dup dX4_init_43 rfl ?_
  refine wp_iload_n dX4_init_44 rfl ?_
  refine wp_aload_n dX4_init_45 rfl ?_
  refine wp_getR (show (uP (uP (uP (uP (uP (uP (uP (uP (uP (uP (uP (uP (uP (uP (uP (uP (uP (uP (uP (uP (uP (uP (uP (uP (uP (uP (uP RV4 11 1 (some 12)) 11 2 (some 13)) 11 0 (some 3)) 14 1 (some 12)) 15 0 (some 12)) 14 3 (some 15)) 16 0 (some 12)) 14 4 (some 16)) 17 0 (some 12)) 14 5 (some 17)) 13 (0) (some 14)) 18 1 (some 12)) 19 0 (some 12)) 18 3 (some 19)) 20 0 (some 12)) 18 4 (some 20)) 21 0 (some 12)) 18 5 (some 21)) 13 (0 + 1) (some 18)) 22 1 (some 12)) 23 0 (some 12)) 22 3 (some 23)) 24 0 (some 12)) 22 4 (some 24)) 25 0 (some 12)) 22 5 (some 25)) 13 (0 + 1 + 1) (some 22)) 11 1 = some 12 from rfl) dX4_init_46 fX4_13 rfl ?_
  refine wp_iconst dX4_init_49 ?_
  refine wp_iload_n dX4_init_50 rfl ?_
  refine wp_bipush dX4_init_51 ?_
  refine wp_imul dX4_init_53 ⟨by decide, by decide⟩ ?_
  refine wp_iadd dX4_init_54 ⟨by decide, by decide⟩ ?_
  refine wp_callI (as := [_, _, _]) (ls0 := [_, _, _, _]) (kc := 3) (ks := 6) (bc' := 8) (bs' := 24) dX4_init_55 vX4_25 rfl rfl (Nat.le_of_ble_eq_true rfl) (Nat.le_of_ble_eq_true rfl) (by decide) (by decide) ?_
  refine wp_aload_n dX3_init_0 rfl ?_
  refine wp_obj dX3_init_1 oX3_9 (by omega) (Nat.le_of_ble_eq_true rfl) ?_
  refine wp_aload_n dX3_init_4 rfl ?_
  refine wp_iload_n dX3_init_5 rfl ?_
  refine wp_putIF dX3_init_6 gX3_15 rfl rfl ?_
  refine wp_aload_n dX3_init_9 rfl ?_
  refine wp_aload_n dX3_init_10 rfl ?_
  refine wp_putRF dX3_init_11 gX3_19 rfl rfl ?_
  refine wp_aload_n dX3_init_14 rfl ?_
  refine wp_iload_n dX3_init_15 rfl ?_
  refine wp_putIF dX3_init_16 gX3_23 rfl rfl ?_
  refine wp_aload_n dX3_init_19 rfl ?_
  refine wp_new (N := 2) dX3_init_20 wX3_3 rfl (by decide) ?_
  rw [zA (iv := (uI (uI (uI (uI (uI (uI (uI (uI (uI (uI (uI (uI (uI (uI (uI (uI (uI IV4 14 0 (0)) 14 2 ((3) + ((0) * (71)))) 15 1 (((3) + ((0) * (71))) + (4))) 16 1 ((((3) + ((0) * (71))) + (4)) + (28))) 17 1 ((((3) + ((0) * (71))) + (4)) + (56))) 18 0 (0 + 1)) 18 2 ((3) + ((0 + 1) * (71)))) 19 1 (((3) + ((0 + 1) * (71))) + (4))) 20 1 ((((3) + ((0 + 1) * (71))) + (4)) + (28))) 21 1 ((((3) + ((0 + 1) * (71))) + (4)) + (56))) 22 0 (0 + 1 + 1)) 22 2 ((3) + ((0 + 1 + 1) * (71)))) 23 1 (((3) + ((0 + 1 + 1) * (71))) + (4))) 24 1 ((((3) + ((0 + 1 + 1) * (71))) + (4)) + (28))) 25 1 ((((3) + ((0 + 1 + 1) * (71))) + (4)) + (56))) 26 0 (0 + 1 + 1 + 1)) 26 2 ((3) + ((0 + 1 + 1 + 1) * (71))))) (fun _ => rfl), zA (iv := Z0) (fun _ => rfl), zQ (rv := (uP (uP (uP (uP (uP (uP (uP (uP (uP (uP (uP (uP (uP (uP (uP (uP (uP (uP (uP (uP (uP (uP (uP (uP (uP (uP (uP (uP RV4 11 1 (some 12)) 11 2 (some 13)) 11 0 (some 3)) 14 1 (some 12)) 15 0 (some 12)) 14 3 (some 15)) 16 0 (some 12)) 14 4 (some 16)) 17 0 (some 12)) 14 5 (some 17)) 13 (0) (some 14)) 18 1 (some 12)) 19 0 (some 12)) 18 3 (some 19)) 20 0 (some 12)) 18 4 (some 20)) 21 0 (some 12)) 18 5 (some 21)) 13 (0 + 1) (some 18)) 22 1 (some 12)) 23 0 (some 12)) 22 3 (some 23)) 24 0 (some 12)) 22 4 (some 24)) 25 0 (some 12)) 22 5 (some 25)) 13 (0 + 1 + 1) (some 22)) 26 1 (some 12))) (fun _ => rfl)]
  show wp _ _ _ _ (aR 27 :: _) [(3, 11), (3, 10), (0, 240), (3, 7), (0, 5), (0, 24), (0, 16), (3, 8), (0, 5), (0, 24), (0, 16), (3, 4), (0, 429), (1, 6), (3, 3), (3, 9), (3, 9), (3, 2), (3, 3), (3, 9), (3, 9), (3, 2), (3, 3), (3, 9), (3, 9), (3, 2), (3, 3), (3, 9)] _ _ _ _ _ _
  refine wp_dup dX3_init_23 rfl ?_
  refine wp_aload_n dX3_init_24 rfl ?_
  refine wp_iload_n dX3_init_25 rfl ?_
  refine wp_iconst dX3_init_26 ?_
  refine wp_iadd dX3_init_27 ⟨by decide, by decide⟩ ?_
  refine wp_callI (as := [_, _]) (ls0 := [_, _, _]) (kc := 0) (ks := 0) (bc' := 2) (bs' := 4) dX3_init_28 vX3_26 rfl rfl (Nat.le_of_ble_eq_true rfl) (Nat.le_of_ble_eq_true rfl) (by decide) (by decide) ?_
  refine wp_aload_n dX9_init_0 rfl ?_
  refine wp_obj dX9_init_1 oX9_5 (by omega) (Nat.le_of_ble_eq_true rfl) ?_
  refine wp_aload_n dX9_init_4 rfl ?_
  refine wp_aload_n dX9_init_5 rfl ?_
  refine wp_putRF dX9_init_6 gX9_11 rfl rfl ?_
  refine wp_aload_n dX9_init_9 rfl ?_
  refine wp_iload_n dX9_init_10 rfl ?_
  refine wp_putIF dX9_init_11 gX9_15 rfl rfl ?_
  refine wp_return dX9_init_14 rfl ?_
  refine wp_putRF dX3_init_31 gX3_29 rfl rfl ?_
  refine wp_aload_n dX3_init_34 rfl ?_
  refine wp_new (N := 2) dX3_init_35 wX3_3 rfl (by decide) ?_
  rw [zA (iv := (uI (uI (uI (uI (uI (uI (uI (uI (uI (uI (uI (uI (uI (uI (uI (uI (uI (uI IV4 14 0 (0)) 14 2 ((3) + ((0) * (71)))) 15 1 (((3) + ((0) * (71))) + (4))) 16 1 ((((3) + ((0) * (71))) + (4)) + (28))) 17 1 ((((3) + ((0) * (71))) + (4)) + (56))) 18 0 (0 + 1)) 18 2 ((3) + ((0 + 1) * (71)))) 19 1 (((3) + ((0 + 1) * (71))) + (4))) 20 1 ((((3) + ((0 + 1) * (71))) + (4)) + (28))) 21 1 ((((3) + ((0 + 1) * (71))) + (4)) + (56))) 22 0 (0 + 1 + 1)) 22 2 ((3) + ((0 + 1 + 1) * (71)))) 23 1 (((3) + ((0 + 1 + 1) * (71))) + (4))) 24 1 ((((3) + ((0 + 1 + 1) * (71))) + (4)) + (28))) 25 1 ((((3) + ((0 + 1 + 1) * (71))) + (4)) + (56))) 26 0 (0 + 1 + 1 + 1)) 26 2 ((3) + ((0 + 1 + 1 + 1) * (71)))) 27 1 (((3) + ((0 + 1 + 1 + 1) * (71))) + (4)))) (fun _ => rfl), zA (iv := Z0) (fun _ => rfl), zQ (rv := (uP (uP (uP (uP (uP (uP (uP (uP (uP (uP (uP (uP (uP (uP (uP (uP (uP (uP (uP (uP (uP (uP (uP (uP (uP (uP (uP (uP (uP (uP RV4 11 1 (some 12)) 11 2 (some 13)) 11 0 (some 3)) 14 1 (some 12)) 15 0 (some 12)) 14 3 (some 15)) 16 0 (some 12)) 14 4 (some 16)) 17 0 (some 12)) 14 5 (some 17)) 13 (0) (some 14)) 18 1 (some 12)) 19 0 (some 12)) 18 3 (some 19)) 20 0 (some 12)) 18 4 (some 20)) 21 0 (some 12)) 18 5 (some 21)) 13 (0 + 1) (some 18)) 22 1 (some 12)) 23 0 (some 12)) 22 3 (some 23)) 24 0 (some 12)) 22 4 (some 24)) 25 0 (some 12)) 22 5 (some 25)) 13 (0 + 1 + 1) (some 22)) 26 1 (some 12)) 27 0 (some 12)) 26 3 (some 27))) (fun _ => rfl)]
  show wp _ _ _ _ (aR 28 :: _) [(3, 11), (3, 10), (0, 240), (3, 7), (0, 5), (0, 24), (0, 16), (3, 8), (0, 5), (0, 24), (0, 16), (3, 4), (0, 429), (1, 6), (3, 3), (3, 9), (3, 9), (3, 2), (3, 3), (3, 9), (3, 9), (3, 2), (3, 3), (3, 9), (3, 9), (3, 2), (3, 3), (3, 9), (3, 9)] _ _ _ _ _ _
  refine wp_dup dX3_init_38 rfl ?_
  refine wp_aload_n dX3_init_39 rfl ?_
  refine wp_iload_n dX3_init_40 rfl ?_
  refine wp_iconst dX3_init_41 ?_
  refine wp_iadd dX3_init_42 ⟨by decide, by decide⟩ ?_
  refine wp_bipush dX3_init_43 ?_
  refine wp_iadd dX3_init_45 ⟨by decide, by decide⟩ ?_
  refine wp_callI (as := [_, _]) (ls0 := [_, _, _]) (kc := 0) (ks := 0) (bc' := 1) (bs' := 2) dX3_init_46 vX3_26 rfl rfl (Nat.le_of_ble_eq_true rfl) (Nat.le_of_ble_eq_true rfl) (by decide) (by decide) ?_
  refine wp_aload_n dX9_init_0 rfl ?_
  refine wp_obj dX9_init_1 oX9_5 (by omega) (Nat.le_of_ble_eq_true rfl) ?_
  refine wp_aload_n dX9_init_4 rfl ?_
  refine wp_aload_n dX9_init_5 rfl ?_
  refine wp_putRF dX9_init_6 gX9_11 rfl rfl ?_
  refine wp_aload_n dX9_init_9 rfl ?_
  refine wp_iload_n dX9_init_10 rfl ?_
  refine wp_putIF dX9_init_11 gX9_15 rfl rfl ?_
  refine wp_return dX9_init_14 rfl ?_
  refine wp_putRF dX3_init_49 gX3_33 rfl rfl ?_
  refine wp_aload_n dX3_init_52 rfl ?_
  refine wp_new (N := 2) dX3_init_53 wX3_5 rfl (by decide) ?_
  rw [zA (iv := (uI (uI (uI (uI (uI (uI (uI (uI (uI (uI (uI (uI (uI (uI (uI (uI (uI (uI (uI IV4 14 0 (0)) 14 2 ((3) + ((0) * (71)))) 15 1 (((3) + ((0) * (71))) + (4))) 16 1 ((((3) + ((0) * (71))) + (4)) + (28))) 17 1 ((((3) + ((0) * (71))) + (4)) + (56))) 18 0 (0 + 1)) 18 2 ((3) + ((0 + 1) * (71)))) 19 1 (((3) + ((0 + 1) * (71))) + (4))) 20 1 ((((3) + ((0 + 1) * (71))) + (4)) + (28))) 21 1 ((((3) + ((0 + 1) * (71))) + (4)) + (56))) 22 0 (0 + 1 + 1)) 22 2 ((3) + ((0 + 1 + 1) * (71)))) 23 1 (((3) + ((0 + 1 + 1) * (71))) + (4))) 24 1 ((((3) + ((0 + 1 + 1) * (71))) + (4)) + (28))) 25 1 ((((3) + ((0 + 1 + 1) * (71))) + (4)) + (56))) 26 0 (0 + 1 + 1 + 1)) 26 2 ((3) + ((0 + 1 + 1 + 1) * (71)))) 27 1 (((3) + ((0 + 1 + 1 + 1) * (71))) + (4))) 28 1 ((((3) + ((0 + 1 + 1 + 1) * (71))) + (4)) + (28)))) (fun _ => rfl), zA (iv := Z0) (fun _ => rfl), zQ (rv := (uP (uP (uP (uP (uP (uP (uP (uP (uP (uP (uP (uP (uP (uP (uP (uP (uP (uP (uP (uP (uP (uP (uP (uP (uP (uP (uP (uP (uP (uP (uP (uP RV4 11 1 (some 12)) 11 2 (some 13)) 11 0 (some 3)) 14 1 (some 12)) 15 0 (some 12)) 14 3 (some 15)) 16 0 (some 12)) 14 4 (some 16)) 17 0 (some 12)) 14 5 (some 17)) 13 (0) (some 14)) 18 1 (some 12)) 19 0 (some 12)) 18 3 (some 19)) 20 0 (some 12)) 18 4 (some 20)) 21 0 (some 12)) 18 5 (some 21)) 13 (0 + 1) (some 18)) 22 1 (some 12)) 23 0 (some 12)) 22 3 (some 23)) 24 0 (some 12)) 22 4 (some 24)) 25 0 (some 12)) 22 5 (some 25)) 13 (0 + 1 + 1) (some 22)) 26 1 (some 12)) 27 0 (some 12)) 26 3 (some 27)) 28 0 (some 12)) 26 4 (some 28))) (fun _ => rfl)]
  show wp _ _ _ _ (aR 29 :: _) [(3, 11), (3, 10), (0, 240), (3, 7), (0, 5), (0, 24), (0, 16), (3, 8), (0, 5), (0, 24), (0, 16), (3, 4), (0, 429), (1, 6), (3, 3), (3, 9), (3, 9), (3, 2), (3, 3), (3, 9), (3, 9), (3, 2), (3, 3), (3, 9), (3, 9), (3, 2), (3, 3), (3, 9), (3, 9), (3, 2)] _ _ _ _ _ _
  refine wp_dup dX3_init_56 rfl ?_
  refine wp_aload_n dX3_init_57 rfl ?_
  refine wp_iload_n dX3_init_58 rfl ?_
  refine wp_iconst dX3_init_59 ?_
  refine wp_iadd dX3_init_60 ⟨by decide, by decide⟩ ?_
  refine wp_bipush dX3_init_61 ?_
  refine wp_iadd dX3_init_63 ⟨by decide, by decide⟩ ?_
  refine wp_callI (as := [_, _]) (ls0 := [_, _, _]) (kc := 0) (ks := 0) (bc' := 0) (bs' := 0) dX3_init_64 vX3_36 rfl rfl (Nat.le_of_ble_eq_true rfl) (Nat.le_of_ble_eq_true rfl) (by decide) (by decide) ?_
  refine wp_aload_n dX2_init_0 rfl ?_
  refine wp_obj dX2_init_1 oX2_5 (by omega) (Nat.le_of_ble_eq_true rfl) ?_
  refine wp_aload_n dX2_init_4 rfl ?_
  refine wp_aload_n dX2_init_5 rfl ?_
  refine wp_putRF dX2_init_6 gX2_11 rfl rfl ?_
  refine wp_aload_n dX2_init_9 rfl ?_
  refine wp_iload_n dX2_init_10 rfl ?_
  refine wp_putIF dX2_init_11 gX2_15 rfl rfl ?_
  refine wp_return dX2_init_14 rfl ?_
  refine wp_putRF dX3_init_67 gX3_37 rfl rfl ?_
  refine wp_return dX3_init_70 rfl ?_
  refine wp_aastL dX4_init_58 rfl rfl (by decide) (by decide) ?_
  refine wp_iinc (ls' := [_, _, _]) dX4_init_59 (by decide) rfl rfl ⟨by decide, by decide⟩ rfl ?_
  refine wp_goto (tgt := 29) dX4_init_62 rfl ?_
  refine wp_iload_n dX4_init_29 rfl ?_
  refine wp_bipush dX4_init_30 ?_
  refine wp_icmp_ge (tgt := 65) dX4_init_32 rfl (fun q => absurd q (by decide)) (fun _ => ?_)
  refine wp_aload_n dX4_init_35 rfl ?_
  refine wp_getR (show (uP (uP (uP (uP (uP (uP (uP (uP (uP (uP (uP (uP (uP (uP (uP (uP (uP (uP (uP (uP (uP (uP (uP (uP (uP (uP (uP (uP (uP (uP (uP (uP (uP (uP (uP RV4 11 1 (some 12)) 11 2 (some 13)) 11 0 (some 3)) 14 1 (some 12)) 15 0 (some 12)) 14 3 (some 15)) 16 0 (some 12)) 14 4 (some 16)) 17 0 (some 12)) 14 5 (some 17)) 13 (0) (some 14)) 18 1 (some 12)) 19 0 (some 12)) 18 3 (some 19)) 20 0 (some 12)) 18 4 (some 20)) 21 0 (some 12)) 18 5 (some 21)) 13 (0 + 1) (some 18)) 22 1 (some 12)) 23 0 (some 12)) 22 3 (some 23)) 24 0 (some 12)) 22 4 (some 24)) 25 0 (some 12)) 22 5 (some 25)) 13 (0 + 1 + 1) (some 22)) 26 1 (some 12)) 27 0 (some 12)) 26 3 (some 27)) 28 0 (some 12)) 26 4 (some 28)) 29 0 (some 12)) 26 5 (some 29)) 13 (0 + 1 + 1 + 1) (some 26)) 11 2 = some 13 from rfl) dX4_init_36 fX4_17 rfl ?_
  refine wp_iload_n dX4_init_39 rfl ?_
  refine wp_new (N := 6) dX4_init_40 wX4_3 rfl (by decide) ?_
  rw [zA (iv := (uI (uI (uI (uI (uI (uI (uI (uI (uI (uI (uI (uI (uI (uI (uI (uI (uI (uI (uI (uI IV4 14 0 (0)) 14 2 ((3) + ((0) * (71)))) 15 1 (((3) + ((0) * (71))) + (4))) 16 1 ((((3) + ((0) * (71))) + (4)) + (28))) 17 1 ((((3) + ((0) * (71))) + (4)) + (56))) 18 0 (0 + 1)) 18 2 ((3) + ((0 + 1) * (71)))) 19 1 (((3) + ((0 + 1) * (71))) + (4))) 20 1 ((((3) + ((0 + 1) * (71))) + (4)) + (28))) 21 1 ((((3) + ((0 + 1) * (71))) + (4)) + (56))) 22 0 (0 + 1 + 1)) 22 2 ((3) + ((0 + 1 + 1) * (71)))) 23 1 (((3) + ((0 + 1 + 1) * (71))) + (4))) 24 1 ((((3) + ((0 + 1 + 1) * (71))) + (4)) + (28))) 25 1 ((((3) + ((0 + 1 + 1) * (71))) + (4)) + (56))) 26 0 (0 + 1 + 1 + 1)) 26 2 ((3) + ((0 + 1 + 1 + 1) * (71)))) 27 1 (((3) + ((0 + 1 + 1 + 1) * (71))) + (4))) 28 1 ((((3) + ((0 + 1 + 1 + 1) * (71))) + (4)) + (28))) 29 1 ((((3) + ((0 + 1 + 1 + 1) * (71))) + (4)) + (56)))) (fun _ => rfl), zA (iv := Z0) (fun _ => rfl), zQ (rv := (uP (uP (uP (uP (uP (uP (uP (uP (uP (uP (uP (uP (uP (uP (uP (uP (uP (uP (uP (uP (uP (uP (uP (uP (uP (uP (uP (uP (uP (uP (uP (uP (uP (uP (uP RV4 11 1 (some 12)) 11 2 (some 13)) 11 0 (some 3)) 14 1 (some 12)) 15 0 (some 12)) 14 3 (some 15)) 16 0 (some 12)) 14 4 (some 16)) 17 0 (some 12)) 14 5 (some 17)) 13 (0) (some 14)) 18 1 (some 12)) 19 0 (some 12)) 18 3 (some 19)) 20 0 (some 12)) 18 4 (some 20)) 21 0 (some 12)) 18 5 (some 21)) 13 (0 + 1) (some 18)) 22 1 (some 12)) 23 0 (some 12)) 22 3 (some 23)) 24 0 (some 12)) 22 4 (some 24)) 25 0 (some 12)) 22 5 (some 25)) 13 (0 + 1 + 1) (some 22)) 26 1 (some 12)) 27 0 (some 12)) 26 3 (some 27)) 28 0 (some 12)) 26 4 (some 28)) 29 0 (some 12)) 26 5 (some 29)) 13 (0 + 1 + 1 + 1) (some 26))) (fun _ => rfl)]
  show wp _ _ _ _ (aR 30 :: _) [(3, 11), (3, 10), (0, 240), (3, 7), (0, 5), (0, 24), (0, 16), (3, 8), (0, 5), (0, 24), (0, 16), (3, 4), (0, 429), (1, 6), (3, 3), (3, 9), (3, 9), (3, 2), (3, 3), (3, 9), (3, 9), (3, 2), (3, 3), (3, 9), (3, 9), (3, 2), (3, 3), (3, 9), (3, 9), (3, 2), (3, 3)] _ _ _ _ _ _
  refine wp_dup dX4_init_43 rfl ?_
  refine wp_iload_n dX4_init_44 rfl ?_
  refine wp_aload_n dX4_init_45 rfl ?_
  refine wp_getR (show (uP (uP (uP (uP (uP (uP (uP (uP (uP (uP (uP (uP (uP (uP (uP (uP (uP (uP (uP (uP (uP (uP (uP (uP (uP (uP (uP (uP (uP (uP (uP (uP (uP (uP (uP RV4 11 1 (some 12)) 11 2 (some 13)) 11 0 (some 3)) 14 1 (some 12)) 15 0 (some 12)) 14 3 (some 15)) 16 0 (some 12)) 14 4 (some 16)) 17 0 (some 12)) 14 5 (some 17)) 13 (0) (some 14)) 18 1 (some 12)) 19 0 (some 12)) 18 3 (some 19)) 20 0 (some 12)) 18 4 (some 20)) 21 0 (some 12)) 18 5 (some 21)) 13 (0 + 1) (some 18)) 22 1 (some 12)) 23 0 (some 12)) 22 3 (some 23)) 24 0 (some 12)) 22 4 (some 24)) 25 0 (some 12)) 22 5 (some 25)) 13 (0 + 1 + 1) (some 22)) 26 1 (some 12)) 27 0 (some 12)) 26 3 (some 27)) 28 0 (some 12)) 26 4 (some 28)) 29 0 (some 12)) 26 5 (some 29)) 13 (0 + 1 + 1 + 1) (some 26)) 11 1 = some 12 from rfl) dX4_init_46 fX4_13 rfl ?_
  refine wp_iconst dX4_init_49 ?_
  refine wp_iload_n dX4_init_50 rfl ?_
  refine wp_bipush dX4_init_51 ?_
  refine wp_imul dX4_init_53 ⟨by decide, by decide⟩ ?_
  refine wp_iadd dX4_init_54 ⟨by decide, by decide⟩ ?_
  refine wp_callI (as := [_, _, _]) (ls0 := [_, _, _, _]) (kc := 3) (ks := 6) (bc' := 4) (bs' := 12) dX4_init_55 vX4_25 rfl rfl (Nat.le_of_ble_eq_true rfl) (Nat.le_of_ble_eq_true rfl) (by decide) (by decide) ?_
  refine wp_aload_n dX3_init_0 rfl ?_
  refine wp_obj dX3_init_1 oX3_9 (by omega) (Nat.le_of_ble_eq_true rfl) ?_
  refine wp_aload_n dX3_init_4 rfl ?_
  refine wp_iload_n dX3_init_5 rfl ?_
  refine wp_putIF dX3_init_6 gX3_15 rfl rfl ?_
  refine wp_aload_n dX3_init_9 rfl ?_
  refine wp_aload_n dX3_init_10 rfl ?_
  refine wp_putRF dX3_init_11 gX3_19 rfl rfl ?_
  refine wp_aload_n dX3_init_14 rfl ?_
  refine wp_iload_n dX3_init_15 rfl ?_
  refine wp_putIF dX3_init_16 gX3_23 rfl rfl ?_
  refine wp_aload_n dX3_init_19 rfl ?_
  refine wp_new (N := 2) dX3_init_20 wX3_3 rfl (by decide) ?_
  rw [zA (iv := (uI (uI (uI (uI (uI (uI (uI (uI (uI (uI (uI (uI (uI (uI (uI (uI (uI (uI (uI (uI (uI (uI IV4 14 0 (0)) 14 2 ((3) + ((0) * (71)))) 15 1 (((3) + ((0) * (71))) + (4))) 16 1 ((((3) + ((0) * (71))) + (4)) + (28))) 17 1 ((((3) + ((0) * (71))) + (4)) + (56))) 18 0 (0 + 1)) 18 2 ((3) + ((0 + 1) * (71)))) 19 1 (((3) + ((0 + 1) * (71))) + (4))) 20 1 ((((3) + ((0 + 1) * (71))) + (4)) + (28))) 21 1 ((((3) + ((0 + 1) * (71))) + (4)) + (56))) 22 0 (0 + 1 + 1)) 22 2 ((3) + ((0 + 1 + 1) * (71)))) 23 1 (((3) + ((0 + 1 + 1) * (71))) + (4))) 24 1 ((((3) + ((0 + 1 + 1) * (71))) + (4)) + (28))) 25 1 ((((3) + ((0 + 1 + 1) * (71))) + (4)) + (56))) 26 0 (0 + 1 + 1 + 1)) 26 2 ((3) + ((0 + 1 + 1 + 1) * (71)))) 27 1 (((3) + ((0 + 1 + 1 + 1) * (71))) + (4))) 28 1 ((((3) + ((0 + 1 + 1 + 1) * (71))) + (4)) + (28))) 29 1 ((((3) + ((0 + 1 + 1 + 1) * (71))) + (4)) + (56))) 30 0 (0 + 1 + 1 + 1 + 1)) 30 2 ((3) + ((0 + 1 + 1 + 1 + 1) * (71))))) (fun _ => rfl), zA (iv := Z0) (fun _ => rfl), zQ (rv := (uP (uP (uP (uP (uP (uP (uP (uP (uP (uP (uP (uP (uP (uP (uP (uP (uP (uP (uP (uP (uP (uP (uP (uP (uP (uP (uP (uP (uP (uP (uP (uP (uP (uP (uP (uP RV4 11 1 (some 12)) 11 2 (some 13)) 11 0 (some 3)) 14 1 (some 12)) 15 0 (some 12)) 14 3 (some 15)) 16 0 (some 12)) 14 4 (some 16)) 17 0 (some 12)) 14 5 (some 17)) 13 (0) (some 14)) 18 1 (some 12)) 19 0 (some 12)) 18 3 (some 19)) 20 0 (some 12)) 18 4 (some 20)) 21 0 (some 12)) 18 5 (some 21)) 13 (0 + 1) (some 18)) 22 1 (some 12)) 23 0 (some 12)) 22 3 (some 23)) 24 0 (some 12)) 22 4 (some 24)) 25 0 (some 12)) 22 5 (some 25)) 13 (0 + 1 + 1) (some 22)) 26 1 (some 12)) 27 0 (some 12)) 26 3 (some 27)) 28 0 (some 12)) 26 4 (some 28)) 29 0 (some 12)) 26 5 (some 29)) 13 (0 + 1 + 1 + 1) (some 26)) 30 1 (some 12))) (fun _ => rfl)]
  show wp _ _ _ _ (aR 31 :: _) [(3, 11), (3, 10), (0, 240), (3, 7), (0, 5), (0, 24), (0, 16), (3, 8), (0, 5), (0, 24), (0, 16), (3, 4), (0, 429), (1, 6), (3, 3), (3, 9), (3, 9), (3, 2), (3, 3), (3, 9), (3, 9), (3, 2), (3, 3), (3, 9), (3, 9), (3, 2), (3, 3), (3, 9), (3, 9), (3, 2), (3, 3), (3, 9)] _ _ _ _ _ _
  refine wp_dup dX3_init_23 rfl ?_
  refine wp_aload_n dX3_init_24 rfl ?_
  refine wp_iload_n dX3_init_25 rfl ?_
  refine wp_iconst dX3_init_26 ?_
  refine wp_iadd dX3_init_27 ⟨by decide, by decide⟩ ?_
  refine wp_callI (as := [_, _]) (ls0 := [_, _, _]) (kc := 0) (ks := 0) (bc' := 2) (bs' := 4) dX3_init_28 vX3_26 rfl rfl (Nat.le_of_ble_eq_true rfl) (Nat.le_of_ble_eq_true rfl) (by decide) (by decide) ?_
  refine wp_aload_n dX9_init_0 rfl ?_
  refine wp_obj dX9_init_1 oX9_5 (by omega) (Nat.le_of_ble_eq_true rfl) ?_
  refine wp_aload_n dX9_init_4 rfl ?_
  refine wp_aload_n dX9_init_5 rfl ?_
  refine wp_putRF dX9_init_6 gX9_11 rfl rfl ?_
  refine wp_aload_n dX9_init_9 rfl ?_
  refine wp_iload_n dX9_init_10 rfl ?_
  refine wp_putIF dX9_init_11 gX9_15 rfl rfl ?_
  refine wp_return dX9_init_14 rfl ?_
  refine wp_putRF dX3_init_31 gX3_29 rfl rfl ?_
  refine wp_aload_n dX3_init_34 rfl ?_
  refine wp_new (N := 2) dX3_init_35 wX3_3 rfl (by decide) ?_
  rw [zA (iv := (uI (uI (uI (uI (uI (uI (uI (uI (uI (uI (uI (uI (uI (uI (uI (uI (uI (uI (uI (uI (uI (uI (uI IV4 14 0 (0)) 14 2 ((3) + ((0) * (71)))) 15 1 (((3) + ((0) * (71))) + (4))) 16 1 ((((3) + ((0) * (71))) + (4)) + (28))) 17 1 ((((3) + ((0) * (71))) + (4)) + (56))) 18 0 (0 + 1)) 18 2 ((3) + ((0 + 1) * (71)))) 19 1 (((3) + ((0 + 1) * (71))) + (4))) 20 1 ((((3) + ((0 + 1) * (71))) + (4)) + (28))) 21 1 ((((3) + ((0 + 1) * (71))) + (4)) + (56))) 22 0 (0 + 1 + 1)) 22 2 ((3) + ((0 + 1 + 1) * (71)))) 23 1 (((3) + ((0 + 1 + 1) * (71))) + (4))) 24 1 ((((3) + ((0 + 1 + 1) * (71))) + (4)) + (28))) 25 1 ((((3) + ((0 + 1 + 1) * (71))) + (4)) + (56))) 26 0 (0 + 1 + 1 + 1)) 26 2 ((3) + ((0 + 1 + 1 + 1) * (71)))) 27 1 (((3) + ((0 + 1 + 1 + 1) * (71))) + (4))) 28 1 ((((3) + ((0 + 1 + 1 + 1) * (71))) + (4)) + (28))) 29 1 ((((3) + ((0 + 1 + 1 + 1) * (71))) + (4)) + (56))) 30 0 (0 + 1 + 1 + 1 + 1)) 30 2 ((3) + ((0 + 1 + 1 + 1 + 1) * (71)))) 31 1 (((3) + ((0 + 1 + 1 + 1 + 1) * (71))) + (4)))) (fun _ => rfl), zA (iv := Z0) (fun _ => rfl), zQ (rv := (uP (uP (uP (uP (uP (uP (uP (uP (uP (uP (uP (uP (uP (uP (uP (uP (uP (uP (uP (uP (uP (uP (uP (uP (uP (uP (uP (uP (uP (uP (uP (uP (uP (uP (uP (uP (uP (uP RV4 11 1 (some 12)) 11 2 (some 13)) 11 0 (some 3)) 14 1 (some 12)) 15 0 (some 12)) 14 3 (some 15)) 16 0 (some 12)) 14 4 (some 16)) 17 0 (some 12)) 14 5 (some 17)) 13 (0) (some 14)) 18 1 (some 12)) 19 0 (some 12)) 18 3 (some 19)) 20 0 (some 12)) 18 4 (some 20)) 21 0 (some 12)) 18 5 (some 21)) 13 (0 + 1) (some 18)) 22 1 (some 12)) 23 0 (some 12)) 22 3 (some 23)) 24 0 (some 12)) 22 4 (some 24)) 25 0 (some 12)) 22 5 (some 25)) 13 (0 + 1 + 1) (some 22)) 26 1 (some 12)) 27 0 (some 12)) 26 3 (some 27)) 28 0 (some 12)) 26 4 (some 28)) 29 0 (some 12)) 26 5 (some 29)) 13 (0 + 1 + 1 + 1) (some 26)) 30 1 (some 12)) 31 0 (some 12)) 30 3 (some 31))) (fun _ => rfl)]
  show wp _ _ _ _ (aR 32 :: _) [(3, 11), (3, 10), (0, 240), (3, 7), (0, 5), (0, 24), (0, 16), (3, 8), (0, 5), (0, 24), (0, 16), (3, 4), (0, 429), (1, 6), (3, 3), (3, 9), (3, 9), (3, 2), (3, 3), (3, 9), (3, 9), (3, 2), (3, 3), (3, 9), (3, 9), (3, 2), (3, 3), (3, 9), (3, 9), (3, 2), (3, 3), (3, 9), (3, 9)] _ _ _ _ _ _
  refine wp_dup dX3_init_38 rfl ?_
  refine wp_aload_n dX3_init_39 rfl ?_
  refine wp_iload_n dX3_init_40 rfl ?_
  refine wp_iconst dX3_init_41 ?_
  refine wp_iadd dX3_init_42 ⟨by decide, by decide⟩ ?_
  refine wp_bipush dX3_init_43 ?_
  refine wp_iadd dX3_init_45 ⟨by decide, by decide⟩ ?_
  refine wp_callI (as := [_, _]) (ls0 := [_, _, _]) (kc := 0) (ks := 0) (bc' := 1) (bs' := 2) dX3_init_46 vX3_26 rfl rfl (Nat.le_of_ble_eq_true rfl) (Nat.le_of_ble_eq_true rfl) (by decide) (by decide) ?_
  refine wp_aload_n dX9_init_0 rfl ?_
  refine wp_obj dX9_init_1 oX9_5 (by omega) (Nat.le_of_ble_eq_true rfl) ?_
  refine wp_aload_n dX9_init_4 rfl ?_
  refine wp_aload_n dX9_init_5 rfl ?_
  refine wp_putRF dX9_init_6 gX9_11 rfl rfl ?_
  refine wp_aload_n dX9_init_9 rfl ?_
  refine wp_iload_n dX9_init_10 rfl ?_
  refine wp_putIF dX9_init_11 gX9_15 rfl rfl ?_
  refine wp_return dX9_init_14 rfl ?_
  refine wp_putRF dX3_init_49 gX3_33 rfl rfl ?_
  refine wp_aload_n dX3_init_52 rfl ?_
  refine wp_new (N := 2) dX3_init_53 wX3_5 rfl (by decide) ?_
  rw [zA (iv := (uI (uI (uI (uI (uI (uI (uI (uI (uI (uI (uI (uI (uI (uI (uI (uI (uI (uI (uI (uI (uI (uI (uI (uI IV4 14 0 (0)) 14 2 ((3) + ((0) * (71)))) 15 1 (((3) + ((0) * (71))) + (4))) 16 1 ((((3) + ((0) * (71))) + (4)) + (28))) 17 1 ((((3) + ((0) * (71))) + (4)) + (56))) 18 0 (0 + 1)) 18 2 ((3) + ((0 + 1) * (71)))) 19 1 (((3) + ((0 + 1) * (71))) + (4))) 20 1 ((((3) + ((0 + 1) * (71))) + (4)) + (28))) 21 1 ((((3) + ((0 + 1) * (71))) + (4)) + (56))) 22 0 (0 + 1 + 1)) 22 2 ((3) + ((0 + 1 + 1) * (71)))) 23 1 (((3) + ((0 + 1 + 1) * (71))) + (4))) 24 1 ((((3) + ((0 + 1 + 1) * (71))) + (4)) + (28))) 25 1 ((((3) + ((0 + 1 + 1) * (71))) + (4)) + (56))) 26 0 (0 + 1 + 1 + 1)) 26 2 ((3) + ((0 + 1 + 1 + 1) * (71)))) 27 1 (((3) + ((0 + 1 + 1 + 1) * (71))) + (4))) 28 1 ((((3) + ((0 + 1 + 1 + 1) * (71))) + (4)) + (28))) 29 1 ((((3) + ((0 + 1 + 1 + 1) * (71))) + (4)) + (56))) 30 0 (0 + 1 + 1 + 1 + 1)) 30 2 ((3) + ((0 + 1 + 1 + 1 + 1) * (71)))) 31 1 (((3) + ((0 + 1 + 1 + 1 + 1) * (71))) + (4))) 32 1 ((((3) + ((0 + 1 + 1 + 1 + 1) * (71))) + (4)) + (28)))) (fun _ => rfl), zA (iv := Z0) (fun _ => rfl), zQ (rv := (uP (uP (uP (uP (uP (uP (uP (uP (uP (uP (uP (uP (uP (uP (uP (uP (uP (uP (uP (uP (uP (uP (uP (uP (uP (uP (uP (uP (uP (uP (uP (uP (uP (uP (uP (uP (uP (uP (uP (uP RV4 11 1 (some 12)) 11 2 (some 13)) 11 0 (some 3)) 14 1 (some 12)) 15 0 (some 12)) 14 3 (some 15)) 16 0 (some 12)) 14 4 (some 16)) 17 0 (some 12)) 14 5 (some 17)) 13 (0) (some 14)) 18 1 (some 12)) 19 0 (some 12)) 18 3 (some 19)) 20 0 (some 12)) 18 4 (some 20)) 21 0 (some 12)) 18 5 (some 21)) 13 (0 + 1) (some 18)) 22 1 (some 12)) 23 0 (some 12)) 22 3 (some 23)) 24 0 (some 12)) 22 4 (some 24)) 25 0 (some 12)) 22 5 (some 25)) 13 (0 + 1 + 1) (some 22)) 26 1 (some 12)) 27 0 (some 12)) 26 3 (some 27)) 28 0 (some 12)) 26 4 (some 28)) 29 0 (some 12)) 26 5 (some 29)) 13 (0 + 1 + 1 + 1) (some 26)) 30 1 (some 12)) 31 0 (some 12)) 30 3 (some 31)) 32 0 (some 12)) 30 4 (some 32))) (fun _ => rfl)]
  show wp _ _ _ _ (aR 33 :: _) [(3, 11), (3, 10), (0, 240), (3, 7), (0, 5), (0, 24), (0, 16), (3, 8), (0, 5), (0, 24), (0, 16), (3, 4), (0, 429), (1, 6), (3, 3), (3, 9), (3, 9), (3, 2), (3, 3), (3, 9), (3, 9), (3, 2), (3, 3), (3, 9), (3, 9), (3, 2), (3, 3), (3, 9), (3, 9), (3, 2), (3, 3), (3, 9), (3, 9), (3, 2)] _ _ _ _ _ _
  refine wp_dup dX3_init_56 rfl ?_
  refine wp_aload_n dX3_init_57 rfl ?_
  refine wp_iload_n dX3_init_58 rfl ?_
  refine wp_iconst dX3_init_59 ?_
  refine wp_iadd dX3_init_60 ⟨by decide, by decide⟩ ?_
  refine wp_bipush dX3_init_61 ?_
  refine wp_iadd dX3_init_63 ⟨by decide, by decide⟩ ?_
  refine wp_callI (as := [_, _]) (ls0 := [_, _, _]) (kc := 0) (ks := 0) (bc' := 0) (bs' := 0) dX3_init_64 vX3_36 rfl rfl (Nat.le_of_ble_eq_true rfl) (Nat.le_of_ble_eq_true rfl) (by decide) (by decide) ?_
  refine wp_aload_n dX2_init_0 rfl ?_
  refine wp_obj dX2_init_1 oX2_5 (by omega) (Nat.le_of_ble_eq_true rfl) ?_
  refine wp_aload_n dX2_init_4 rfl ?_
  refine wp_aload_n dX2_init_5 rfl ?_
  refine wp_putRF dX2_init_6 gX2_11 rfl rfl ?_
  refine wp_aload_n dX2_init_9 rfl ?_
  refine wp_iload_n dX2_init_10 rfl ?_
  refine wp_putIF dX2_init_11 gX2_15 rfl rfl ?_
  refine wp_return dX2_init_14 rfl ?_
  refine wp_putRF dX3_init_67 gX3_37 rfl rfl ?_
  refine wp_return dX3_init_70 rfl ?_
  refine wp_aastL dX4_init_58 rfl rfl (by decide) (by decide) ?_
  refine wp_iinc (ls' := [_, _, _]) dX4_init_59 (by decide) rfl rfl ⟨by decide, by decide⟩ rfl ?_
  refine wp_goto (tgt := 29) dX4_init_62 rfl ?_
  refine wp_iload_n dX4_init_29 rfl ?_
  refine wp_bipush dX4_init_30 ?_
  refine wp_icmp_ge (tgt := 65) dX4_init_32 rfl (fun q => absurd q (by decide)) (fun _ => ?_)
  refine wp_aload_n dX4_init_35 rfl ?_
  refine wp_getR (show (uP (uP (uP (uP (uP (uP (uP (uP (uP (uP (uP (uP (uP (uP (uP (uP (uP (uP (uP (uP (uP (uP (uP (uP (uP (uP (uP (uP (uP (uP (uP (uP (uP (uP (uP (uP (uP (uP (uP (uP (uP (uP (uP RV4 11 1 (some 12)) 11 2 (some 13)) 11 0 (some 3)) 14 1 (some 12)) 15 0 (some 12)) 14 3 (some 15)) 16 0 (some 12)) 14 4 (some 16)) 17 0 (some 12)) 14 5 (some 17)) 13 (0) (some 14)) 18 1 (some 12)) 19 0 (some 12)) 18 3 (some 19)) 20 0 (some 12)) 18 4 (some 20)) 21 0 (some 12)) 18 5 (some 21)) 13 (0 + 1) (some 18)) 22 1 (some 12)) 23 0 (some 12)) 22 3 (some 23)) 24 0 (some 12)) 22 4 (some 24)) 25 0 (some 12)) 22 5 (some 25)) 13 (0 + 1 + 1) (some 22)) 26 1 (some 12)) 27 0 (some 12)) 26 3 (some 27)) 28 0 (some 12)) 26 4 (some 28)) 29 0 (some 12)) 26 5 (some 29)) 13 (0 + 1 + 1 + 1) (some 26)) 30 1 (some 12)) 31 0 (some 12)) 30 3 (some 31)) 32 0 (some 12)) 30 4 (some 32)) 33 0 (some 12)) 30 5 (some 33)) 13 (0 + 1 + 1 + 1 + 1) (some 30)) 11 2 = some 13 from rfl) dX4_init_36 fX4_17 rfl ?_
  refine wp_iload_n dX4_init_39 rfl ?_
  refine wp_new (N := 6) dX4_init_40 wX4_3 rfl (by decide) ?_
  rw [zA (iv := (uI (uI (uI (uI (uI (uI (uI (uI (uI (uI (uI (uI (uI (uI (uI (uI (uI (uI (uI (uI (uI (uI (uI (uI (uI IV4 14 0 (0)) 14 2 ((3) + ((0) * (71)))) 15 1 (((3) + ((0) * (71))) + (4))) 16 1 ((((3) + ((0) * (71))) + (4)) + (28))) 17 1 ((((3) + ((0) * (71))) + (4)) + (56))) 18 0 (0 + 1)) 18 2 ((3) + ((0 + 1) * (71)))) 19 1 (((3) + ((0 + 1) * (71))) + (4))) 20 1 ((((3) + ((0 + 1) * (71))) + (4)) + (28))) 21 1 ((((3) + ((0 + 1) * (71))) + (4)) + (56))) 22 0 (0 + 1 + 1)) 22 2 ((3) + ((0 + 1 + 1) * (71)))) 23 1 (((3) + ((0 + 1 + 1) * (71))) + (4))) 24 1 ((((3) + ((0 + 1 + 1) * (71))) + (4)) + (28))) 25 1 ((((3) + ((0 + 1 + 1) * (71))) + (4)) + (56))) 26 0 (0 + 1 + 1 + 1)) 26 2 ((3) + ((0 + 1 + 1 + 1) * (71)))) 27 1 (((3) + ((0 + 1 + 1 + 1) * (71))) + (4))) 28 1 ((((3) + ((0 + 1 + 1 + 1) * (71))) + (4)) + (28))) 29 1 ((((3) + ((0 + 1 + 1 + 1) * (71))) + (4)) + (56))) 30 0 (0 + 1 + 1 + 1 + 1)) 30 2 ((3) + ((0 + 1 + 1 + 1 + 1) * (71)))) 31 1 (((3) + ((0 + 1 + 1 + 1 + 1) * (71))) + (4))) 32 1 ((((3) + ((0 + 1 + 1 + 1 + 1) * (71))) + (4)) + (28))) 33 1 ((((3) + ((0 + 1 + 1 + 1 + 1) * (71))) + (4)) + (56)))) (fun _ => rfl), zA (iv := Z0) (fun _ => rfl), zQ (rv := (uP (uP (uP (uP (uP (uP (uP (uP (uP (uP (uP (uP (uP (uP (uP (uP (uP (uP (uP (uP (uP (uP (uP (uP (uP (uP (uP (uP (uP (uP (uP (uP (uP (uP (uP (uP (uP (uP (uP (uP (uP (uP (uP RV4 11 1 (some 12)) 11 2 (some 13)) 11 0 (some 3)) 14 1 (some 12)) 15 0 (some 12)) 14 3 (some 15)) 16 0 (some 12)) 14 4 (some 16)) 17 0 (some 12)) 14 5 (some 17)) 13 (0) (some 14)) 18 1 (some 12)) 19 0 (some 12)) 18 3 (some 19)) 20 0 (some 12)) 18 4 (some 20)) 21 0 (some 12)) 18 5 (some 21)) 13 (0 + 1) (some 18)) 22 1 (some 12)) 23 0 (some 12)) 22 3 (some 23)) 24 0 (some 12)) 22 4 (some 24)) 25 0 (some 12)) 22 5 (some 25)) 13 (0 + 1 + 1) (some 22)) 26 1 (some 12)) 27 0 (some 12)) 26 3 (some 27)) 28 0 (some 12)) 26 4 (some 28)) 29 0 (some 12)) 26 5 (some 29)) 13 (0 + 1 + 1 + 1) (some 26)) 30 1 (some 12)) 31 0 (some 12)) 30 3 (some 31)) 32 0 (some 12)) 30 4 (some 32)) 33 0 (some 12)) 30 5 (some 33)) 13 (0 + 1 + 1 + 1 + 1) (some 30))) (fun _ => rfl)]
  show wp _ _ _ _ (aR 34 :: _) [(3, 11), (3, 10), (0, 240), (3, 7), (0, 5), (0, 24), (0, 16), (3, 8), (0, 5), (0, 24), (0, 16), (3, 4), (0, 429), (1, 6), (3, 3), (3, 9), (3, 9), (3, 2), (3, 3), (3, 9), (3, 9), (3, 2), (3, 3), (3, 9), (3, 9), (3, 2), (3, 3), (3, 9), (3, 9), (3, 2), (3, 3), (3, 9), (3, 9), (3, 2), (3, 3)] _ _ _ _ _ _
  refine wp_dup dX4_init_43 rfl ?_
  refine wp_iload_n dX4_init_44 rfl ?_
  refine wp_aload_n dX4_init_45 rfl ?_
  refine wp_getR (show (uP (uP (uP (uP (uP (uP (uP (uP (uP (uP (uP (uP (uP (uP (uP (uP (uP (uP (uP (uP (uP (uP (uP (uP (uP (uP (uP (uP (uP (uP (uP (uP (uP (uP (uP (uP (uP (uP (uP (uP (uP (uP (uP RV4 11 1 (some 12)) 11 2 (some 13)) 11 0 (some 3)) 14 1 (some 12)) 15 0 (some 12)) 14 3 (some 15)) 16 0 (some 12)) 14 4 (some 16)) 17 0 (some 12)) 14 5 (some 17)) 13 (0) (some 14)) 18 1 (some 12)) 19 0 (some 12)) 18 3 (some 19)) 20 0 (some 12)) 18 4 (some 20)) 21 0 (some 12)) 18 5 (some 21)) 13 (0 + 1) (some 18)) 22 1 (some 12)) 23 0 (some 12)) 22 3 (some 23)) 24 0 (some 12)) 22 4 (some 24)) 25 0 (some 12)) 22 5 (some 25)) 13 (0 + 1 + 1) (some 22)) 26 1 (some 12)) 27 0 (some 12)) 26 3 (some 27)) 28 0 (some 12)) 26 4 (some 28)) 29 0 (some 12)) 26 5 (some 29)) 13 (0 + 1 + 1 + 1) (some 26)) 30 1 (some 12)) 31 0 (some 12)) 30 3 (some 31)) 32 0 (some 12)) 30 4 (some 32)) 33 0 (some 12)) 30 5 (some 33)) 13 (0 + 1 + 1 + 1 + 1) (some 30)) 11 1 = some 12 from rfl) dX4_init_46 fX4_13 rfl ?_
  refine wp_iconst dX4_init_49 ?_
  refine wp_iload_n dX4_init_50 rfl ?_
  refine wp_bipush dX4_init_51 ?_
  refine wp_imul dX4_init_53 ⟨by decide, by decide⟩ ?_
  refine wp_iadd dX4_init_54 ⟨by decide, by decide⟩ ?_
  refine wp_callI (as := [_, _, _]) (ls0 := [_, _, _, _]) (kc := 3) (ks := 6) (bc' := 0) (bs' := 0) dX4_init_55 vX4_25 rfl rfl (Nat.le_of_ble_eq_true rfl) (Nat.le_of_ble_eq_true rfl) (by decide) (by decide) ?_
  refine wp_aload_n dX3_init_0 rfl ?_
  refine wp_obj dX3_init_1 oX3_9 (by omega) (Nat.le_of_ble_eq_true rfl) ?_
  refine wp_aload_n dX3_init_4 rfl ?_
  refine wp_iload_n dX3_init_5 rfl ?_
  refine wp_putIF dX3_init_6 gX3_15 rfl rfl ?_
  refine wp_aload_n dX3_init_9 rfl ?_
  refine wp_aload_n dX3_init_10 rfl ?_
  refine wp_putRF dX3_init_11 gX3_19 rfl rfl ?_
  refine wp_aload_n dX3_init_14 rfl ?_
  refine wp_iload_n dX3_init_15 rfl ?_
  refine wp_putIF dX3_init_16 gX3_23 rfl rfl ?_
  refine wp_aload_n dX3_init_19 rfl ?_
  refine wp_new (N := 2) dX3_init_20 wX3_3 rfl (by decide) ?_
  rw [zA (iv := (uI (uI (uI (uI (uI (uI (uI (uI (uI (uI (uI (uI (uI (uI (uI (uI (uI (uI (uI (uI (uI (uI (uI (uI (uI (uI (uI IV4 14 0 (0)) 14 2 ((3) + ((0) * (71)))) 15 1 (((3) + ((0) * (71))) + (4))) 16 1 ((((3) + ((0) * (71))) + (4)) + (28))) 17 1 ((((3) + ((0) * (71))) + (4)) + (56))) 18 0 (0 + 1)) 18 2 ((3) + ((0 + 1) * (71)))) 19 1 (((3) + ((0 + 1) * (71))) + (4))) 20 1 ((((3) + ((0 + 1) * (71))) + (4)) + (28))) 21 1 ((((3) + ((0 + 1) * (71))) + (4)) + (56))) 22 0 (0 + 1 + 1)) 22 2 ((3) + ((0 + 1 + 1) * (71)))) 23 1 (((3) + ((0 + 1 + 1) * (71))) + (4))) 24 1 ((((3) + ((0 + 1 + 1) * (71))) + (4)) + (28))) 25 1 ((((3) + ((0 + 1 + 1) * (71))) + (4)) + (56))) 26 0 (0 + 1 + 1 + 1)) 26 2 ((3) + ((0 + 1 + 1 + 1) * (71)))) 27 1 (((3) + ((0 + 1 + 1 + 1) * (71))) + (4))) 28 1 ((((3) + ((0 + 1 + 1 + 1) * (71))) + (4)) + (28))) 29 1 ((((3) + ((0 + 1 + 1 + 1) * (71))) + (4)) + (56))) 30 0 (0 + 1 + 1 + 1 + 1)) 30 2 ((3) + ((0 + 1 + 1 + 1 + 1) * (71)))) 31 1 (((3) + ((0 + 1 + 1 + 1 + 1) * (71))) + (4))) 32 1 ((((3) + ((0 + 1 + 1 + 1 + 1) * (71))) + (4)) + (28))) 33 1 ((((3) + ((0 + 1 + 1 + 1 + 1) * (71))) + (4)) + (56))) 34 0 (0 + 1 + 1 + 1 + 1 + 1)) 34 2 ((3) + ((0 + 1 + 1 + 1 + 1 + 1) * (71))))) (fun _ => rfl), zA (iv := Z0) (fun _ => rfl), zQ (rv := (uP (uP (uP (uP (uP (uP (uP (uP (uP (uP (uP (uP (uP (uP (uP (uP (uP (uP (uP (uP (uP (uP (uP (uP (uP (uP (uP (uP (uP (uP (uP (uP (uP (uP (uP (uP (uP (uP (uP (uP (uP (uP (uP (uP RV4 11 1 (some 12)) 11 2 (some 13)) 11 0 (some 3)) 14 1 (some 12)) 15 0 (some 12)) 14 3 (some 15)) 16 0 (some 12)) 14 4 (some 16)) 17 0 (some 12)) 14 5 (some 17)) 13 (0) (some 14)) 18 1 (some 12)) 19 0 (some 12)) 18 3 (some 19)) 20 0 (some 12)) 18 4 (some 20)) 21 0 (some 12)) 18 5 (some 21)) 13 (0 + 1) (some 18)) 22 1 (some 12)) 23 0 (some 12)) 22 3 (some 23)) 24 0 (some 12)) 22 4 (some 24)) 25 0 (some 12)) 22 5 (some 25)) 13 (0 + 1 + 1) (some 22)) 26 1 (some 12)) 27 0 (some 12)) 26 3 (some 27)) 28 0 (some 12)) 26 4 (some 28)) 29 0 (some 12)) 26 5 (some 29)) 13 (0 + 1 + 1 + 1) (some 26)) 30 1 (some 12)) 31 0 (some 12)) 30 3 (some 31)) 32 0 (some 12)) 30 4 (some 32)) 33 0 (some 12)) 30 5 (some 33)) 13 (0 + 1 + 1 + 1 + 1) (some 30)) 34 1 (some 12))) (fun _ => rfl)]
  show wp _ _ _ _ (aR 35 :: _) [(3, 11), (3, 10), (0, 240), (3, 7), (0, 5), (0, 24), (0, 16), (3, 8), (0, 5), (0, 24), (0, 16), (3, 4), (0, 429), (1, 6), (3, 3), (3, 9), (3, 9), (3, 2), (3, 3), (3, 9), (3, 9), (3, 2), (3, 3), (3, 9), (3, 9), (3, 2), (3, 3), (3, 9), (3, 9), (3, 2), (3, 3), (3, 9), (3, 9), (3, 2), (3, 3), (3, 9)] _ _ _ _ _ _
  refine wp_dup dX3_init_23 rfl ?_
  refine wp_aload_n dX3_init_24 rfl ?_
  refine wp_iload_n dX3_init_25 rfl ?_
  refine wp_iconst dX3_init_26 ?_
  refine wp_iadd dX3_init_27 ⟨by decide, by decide⟩ ?_
  refine wp_callI (as := [_, _]) (ls0 := [_, _, _]) (kc := 0) (ks := 0) (bc' := 2) (bs' := 4) dX3_init_28 vX3_26 rfl rfl (Nat.le_of_ble_eq_true rfl) (Nat.le_of_ble_eq_true rfl) (by decide) (by decide) ?_
  refine wp_aload_n dX9_init_0 rfl ?_
  refine wp_obj dX9_init_1 oX9_5 (by omega) (Nat.le_of_ble_eq_true rfl) ?_
  refine wp_aload_n dX9_init_4 rfl ?_
  refine wp_aload_n dX9_init_5 rfl ?_
  refine wp_putRF dX9_init_6 gX9_11 rfl rfl ?_
  refine wp_aload_n dX9_init_9 rfl ?_
  refine wp_iload_n dX9_init_10 rfl ?_
  refine wp_putIF dX9_init_11 gX9_15 rfl rfl ?_
  refine wp_return dX9_init_14 rfl ?_
  refine wp_putRF dX3_init_31 gX3_29 rfl rfl ?_
  refine wp_aload_n dX3_init_34 rfl ?_
  refine wp_new (N := 2) dX3_init_35 wX3_3 rfl (by decide) ?_
  rw [zA (iv := (uI (uI (uI (uI (uI (uI (uI (uI (uI (uI (uI (uI (uI (uI (uI (uI (uI (uI (uI (uI (uI (uI (uI (uI (uI (uI (uI (uI IV4 14 0 (0)) 14 2 ((3) + ((0) * (71)))) 15 1 (((3) + ((0) * (71))) + (4))) 16 1 ((((3) + ((0) * (71))) + (4)) + (28))) 17 1 ((((3) + ((0) * (71))) + (4)) + (56))) 18 0 (0 + 1)) 18 2 ((3) + ((0 + 1) * (71)))) 19 1 (((3) + ((0 + 1) * (71))) + (4))) 20 1 ((((3) + ((0 + 1) * (71))) + (4)) + (28))) 21 1 ((((3) + ((0 + 1) * (71))) + (4)) + (56))) 22 0 (0 + 1 + 1)) 22 2 ((3) + ((0 + 1 + 1) * (71)))) 23 1 (((3) + ((0 + 1 + 1) * (71))) + (4))) 24 1 ((((3) + ((0 + 1 + 1) * (71))) + (4)) + (28))) 25 1 ((((3) + ((0 + 1 + 1) * (71))) + (4)) + (56))) 26 0 (0 + 1 + 1 + 1)) 26 2 ((3) + ((0 + 1 + 1 + 1) * (71)))) 27 1 (((3) + ((0 + 1 + 1 + 1) * (71))) + (4))) 28 1 ((((3) + ((0 + 1 + 1 + 1) * (71))) + (4)) + (28))) 29 1 ((((3) + ((0 + 1 + 1 + 1) * (71))) + (4)) + (56))) 30 0 (0 + 1 + 1 + 1 + 1)) 30 2 ((3) + ((0 + 1 + 1 + 1 + 1) * (71)))) 31 1 (((3) + ((0 + 1 + 1 + 1 + 1) * (71))) + (4))) 32 1 ((((3) + ((0 + 1 + 1 + 1 + 1) * (71))) + (4)) + (28))) 33 1 ((((3) + ((0 + 1 + 1 + 1 + 1) * (71))) + (4)) + (56))) 34 0 (0 + 1 + 1 + 1 + 1 + 1)) 34 2 ((3) + ((0 + 1 + 1 + 1 + 1 + 1) * (71)))) 35 1 (((3) + ((0 + 1 + 1 + 1 + 1 + 1) * (71))) + (4)))) (fun _ => rfl), zA (iv := Z0) (fun _ => rfl), zQ (rv := (uP (uP (uP (uP (uP (uP (uP (uP (uP (uP (uP (uP (uP (uP (uP (uP (uP (uP (uP (uP (uP (uP (uP (uP (uP (uP (uP (uP (uP (uP (uP (uP (uP (uP (uP (uP (uP (uP (uP (uP (uP (uP (uP (uP (uP (uP RV4 11 1 (some 12)) 11 2 (some 13)) 11 0 (some 3)) 14 1 (some 12)) 15 0 (some 12)) 14 3 (some 15)) 16 0 (some 12)) 14 4 (some 16)) 17 0 (some 12)) 14 5 (some 17)) 13 (0) (some 14)) 18 1 (some 12)) 19 0 (some 12)) 18 3 (some 19)) 20 0 (some 12)) 18 4 (some 20)) 21 0 (some 12)) 18 5 (some 21)) 13 (0 + 1) (some 18)) 22 1 (some 12)) 23 0 (some 12)) 22 3 (some 23)) 24 0 (some 12)) 22 4 (some 24)) 25 0 (some 12)) 22 5 (some 25)) 13 (0 + 1 + 1) (some 22)) 26 1 (some 12)) 27 0 (some 12)) 26 3 (some 27)) 28 0 (some 12)) 26 4 (some 28)) 29 0 (some 12)) 26 5 (some 29)) 13 (0 + 1 + 1 + 1) (some 26)) 30 1 (some 12)) 31 0 (some 12)) 30 3 (some 31)) 32 0 (some 12)) 30 4 (some 32)) 33 0 (some 12)) 30 5 (some 33)) 13 (0 + 1 + 1 + 1 + 1) (some 30)) 34 1 (some 12)) 35 0 (some 12)) 34 3 (some 35))) (fun _ => rfl)]
  show wp _ _ _ _ (aR 36 :: _) [(3, 11), (3, 10), (0, 240), (3, 7), (0, 5), (0, 24), (0, 16), (3, 8), (0, 5), (0, 24), (0, 16), (3, 4), (0, 429), (1, 6), (3, 3), (3, 9), (3, 9), (3, 2), (3, 3), (3, 9), (3, 9), (3, 2), (3, 3), (3, 9), (3, 9), (3, 2), (3, 3), (3, 9), (3, 9), (3, 2), (3, 3), (3, 9), (3, 9), (3, 2), (3, 3), (3, 9), (3, 9)] _ _ _ _ _ _
  refine wp_dup dX3_init_38 rfl ?_
  refine wp_aload_n dX3_init_39 rfl ?_
  refine wp_iload_n dX3_init_40 rfl ?_
  refine wp_iconst dX3_init_41 ?_
  refine wp_iadd dX3_init_42 ⟨by decide, by decide⟩ ?_
  refine wp_bipush dX3_init_43 ?_
  refine wp_iadd dX3_init_45 ⟨by decide, by decide⟩ ?_
  refine wp_callI (as := [_, _]) (ls0 := [_, _, _]) (kc := 0) (ks := 0) (bc' := 1) (bs' := 2) dX3_init_46 vX3_26 rfl rfl (Nat.le_of_ble_eq_true rfl) (Nat.le_of_ble_eq_true rfl) (by decide) (by decide) ?_
  refine wp_aload_n dX9_init_0 rfl ?_
  refine wp_obj dX9_init_1 oX9_5 (by omega) (Nat.le_of_ble_eq_true rfl) ?_
  refine wp_aload_n dX9_init_4 rfl ?_
  refine wp_aload_n dX9_init_5 rfl ?_
  refine wp_putRF dX9_init_6 gX9_11 rfl rfl ?_
  refine wp_aload_n dX9_init_9 rfl ?_
  refine wp_iload_n dX9_init_10 rfl ?_
  refine wp_putIF dX9_init_11 gX9_15 rfl rfl ?_
  refine wp_return dX9_init_14 rfl ?_
  refine wp_putRF dX3_init_49 gX3_33 rfl rfl ?_
  refine wp_aload_n dX3_init_52 rfl ?_
  refine wp_new (N := 2) dX3_init_53 wX3_5 rfl (by decide) ?_
  rw [zA (iv := (uI (uI (uI (uI (uI (uI (uI (uI (uI (uI (uI (uI (uI (uI (uI (uI (uI (uI (uI (uI (uI (uI (uI (uI (uI (uI (uI (uI (uI IV4 14 0 (0)) 14 2 ((3) + ((0) * (71)))) 15 1 (((3) + ((0) * (71))) + (4))) 16 1 ((((3) + ((0) * (71))) + (4)) + (28))) 17 1 ((((3) + ((0) * (71))) + (4)) + (56))) 18 0 (0 + 1)) 18 2 ((3) + ((0 + 1) * (71)))) 19 1 (((3) + ((0 + 1) * (71))) + (4))) 20 1 ((((3) + ((0 + 1) * (71))) + (4)) + (28))) 21 1 ((((3) + ((0 + 1) * (71))) + (4)) + (56))) 22 0 (0 + 1 + 1)) 22 2 ((3) + ((0 + 1 + 1) * (71)))) 23 1 (((3) + ((0 + 1 + 1) * (71))) + (4))) 24 1 ((((3) + ((0 + 1 + 1) * (71))) + (4)) + (28))) 25 1 ((((3) + ((0 + 1 + 1) * (71))) + (4)) + (56))) 26 0 (0 + 1 + 1 + 1)) 26 2 ((3) + ((0 + 1 + 1 + 1) * (71)))) 27 1 (((3) + ((0 + 1 + 1 + 1) * (71))) + (4))) 28 1 ((((3) + ((0 + 1 + 1 + 1) * (71))) + (4)) + (28))) 29 1 ((((3) + ((0 + 1 + 1 + 1) * (71))) + (4)) + (56))) 30 0 (0 + 1 + 1 + 1 + 1)) 30 2 ((3) + ((0 + 1 + 1 + 1 + 1) * (71)))) 31 1 (((3) + ((0 + 1 + 1 + 1 + 1) * (71))) + (4))) 32 1 ((((3) + ((0 + 1 + 1 + 1 + 1) * (71))) + (4)) + (28))) 33 1 ((((3) + ((0 + 1 + 1 + 1 + 1) * (71))) + (4)) + (56))) 34 0 (0 + 1 + 1 + 1 + 1 + 1)) 34 2 ((3) + ((0 + 1 + 1 + 1 + 1 + 1) * (71)))) 35 1 (((3) + ((0 + 1 + 1 + 1 + 1 + 1) * (71))) + (4))) 36 1 ((((3) + ((0 + 1 + 1 + 1 + 1 + 1) * (71))) + (4)) + (28)))) (fun _ => rfl), zA (iv := Z0) (fun _ => rfl), zQ (rv := (uP (uP (uP (uP (uP (uP (uP (uP (uP (uP (uP (uP (uP (uP (uP (uP (uP (uP (uP (uP (uP (uP (uP (uP (uP (uP (uP (uP (uP (uP (uP (uP (uP (uP (uP (uP (uP (uP (uP (uP (uP (uP (uP (uP (uP (uP (uP (uP RV4 11 1 (some 12)) 11 2 (some 13)) 11 0 (some 3)) 14 1 (some 12)) 15 0 (some 12)) 14 3 (some 15)) 16 0 (some 12)) 14 4 (some 16)) 17 0 (some 12)) 14 5 (some 17)) 13 (0) (some 14)) 18 1 (some 12)) 19 0 (some 12)) 18 3 (some 19)) 20 0 (some 12)) 18 4 (some 20)) 21 0 (some 12)) 18 5 (some 21)) 13 (0 + 1) (some 18)) 22 1 (some 12)) 23 0 (some 12)) 22 3 (some 23)) 24 0 (some 12)) 22 4 (some 24)) 25 0 (some 12)) 22 5 (some 25)) 13 (0 + 1 + 1) (some 22)) 26 1 (some 12)) 27 0 (some 12)) 26 3 (some 27)) 28 0 (some 12)) 26 4 (some 28)) 29 0 (some 12)) 26 5 (some 29)) 13 (0 + 1 + 1 + 1) (some 26)) 30 1 (some 12)) 31 0 (some 12)) 30 3 (some 31)) 32 0 (some 12)) 30 4 (some 32)) 33 0 (some 12)) 30 5 (some 33)) 13 (0 + 1 + 1 + 1 + 1) (some 30)) 34 1 (some 12)) 35 0 (some 12)) 34 3 (some 35)) 36 0 (some 12)) 34 4 (some 36))) (fun _ => rfl)]
  show wp _ _ _ _ (aR 37 :: _) [(3, 11), (3, 10), (0, 240), (3, 7), (0, 5), (0, 24), (0, 16), (3, 8), (0, 5), (0, 24), (0, 16), (3, 4), (0, 429), (1, 6), (3, 3), (3, 9), (3, 9), (3, 2), (3, 3), (3, 9), (3, 9), (3, 2), (3, 3), (3, 9), (3, 9), (3, 2), (3, 3), (3, 9), (3, 9), (3, 2), (3, 3), (3, 9), (3, 9), (3, 2), (3, 3), (3, 9), (3, 9), (3, 2)] _ _ _ _ _ _
  refine wp_dup dX3_init_56 rfl ?_
  refine wp_aload_n dX3_init_57 rfl ?_
  refine wp_iload_n dX3_init_58 rfl ?_
  refine wp_iconst dX3_init_59 ?_
  refine wp_iadd dX3_init_60 ⟨by decide, by decide⟩ ?_
  refine wp_bipush dX3_init_61 ?_
  refine wp_iadd dX3_init_63 ⟨by decide, by decide⟩ ?_
  refine wp_callI (as := [_, _]) (ls0 := [_, _, _]) (kc := 0) (ks := 0) (bc' := 0) (bs' := 0) dX3_init_64 vX3_36 rfl rfl (Nat.le_of_ble_eq_true rfl) (Nat.le_of_ble_eq_true rfl) (by decide) (by decide) ?_
  refine wp_aload_n dX2_init_0 rfl ?_
  refine wp_obj dX2_init_1 oX2_5 (by omega) (Nat.le_of_ble_eq_true rfl) ?_
  refine wp_aload_n dX2_init_4 rfl ?_
  refine wp_aload_n dX2_init_5 rfl ?_
  refine wp_putRF dX2_init_6 gX2_11 rfl rfl ?_
  refine wp_aload_n dX2_init_9 rfl ?_
  refine wp_iload_n dX2_init_10 rfl ?_
  refine wp_putIF dX2_init_11 gX2_15 rfl rfl ?_
  refine wp_return dX2_init_14 rfl ?_
  refine wp_putRF dX3_init_67 gX3_37 rfl rfl ?_
  refine wp_return dX3_init_70 rfl ?_
  refine wp_aastL dX4_init_58 rfl rfl (by decide) (by decide) ?_
  refine wp_iinc (ls' := [_, _, _]) dX4_init_59 (by decide) rfl rfl ⟨by decide, by decide⟩ rfl ?_
  refine wp_goto (tgt := 29) dX4_init_62 rfl ?_
  refine wp_iload_n dX4_init_29 rfl ?_
  refine wp_bipush dX4_init_30 ?_
  refine wp_icmp_ge (tgt := 65) dX4_init_32 rfl (fun _ => ?_) (fun q => absurd q (by decide))
  refine wp_return dX4_init_65 rfl ?_
  refine wp_putRF dX11_init_53 gX11_37 rfl rfl ?_
  exact k
def IV6 : aF := IV5
def RV6 : aP := (uP (uP (uP (uP (uP RV5 38 2 (some 39)) 38 3 (some 40)) 38 0 (some 11)) 38 1 (some 3)) 0 4 (some 38))
theorem ci_5 {d : Nat} {R : aPost} (k : wp (d + 6) mX11_init 71 [some (aR 0)] [] [(3, 11), (3, 10), (0, 240), (3, 7), (0, 5), (0, 24), (0, 16), (3, 8), (0, 5), (0, 24), (0, 16), (3, 4), (0, 429), (1, 6), (3, 3), (3, 9), (3, 9), (3, 2), (3, 3), (3, 9), (3, 9), (3, 2), (3, 3), (3, 9), (3, 9), (3, 2), (3, 3), (3, 9), (3, 9), (3, 2), (3, 3), (3, 9), (3, 9), (3, 2), (3, 3), (3, 9), (3, 9), (3, 2), (3, 1), (0, 16), (0, 4)] IV6 Z0 RV6 47 1906 R) : wp (d + 6) mX11_init 56 [some (aR 0)] [] [(3, 11), (3, 10), (0, 240), (3, 7), (0, 5), (0, 24), (0, 16), (3, 8), (0, 5), (0, 24), (0, 16), (3, 4), (0, 429), (1, 6), (3, 3), (3, 9), (3, 9), (3, 2), (3, 3), (3, 9), (3, 9), (3, 2), (3, 3), (3, 9), (3, 9), (3, 2), (3, 3), (3, 9), (3, 9), (3, 2), (3, 3), (3, 9), (3, 9), (3, 2), (3, 3), (3, 9), (3, 9), (3, 2)] IV5 Z0 RV5 50 1932 R := by
  refine wp_aload_n dX11_init_56 rfl ?_
  refine wp_new (N := 6) dX11_init_57 wX11_41 rfl (by decide) ?_
  rw [zA (iv := IV5) (fun _ => rfl), zA (iv := Z0) (fun _ => rfl), zQ (rv := RV5) (fun _ => rfl)]
  show wp _ _ _ _ (aR 38 :: _) [(3, 11), (3, 10), (0, 240), (3, 7), (0, 5), (0, 24), (0, 16), (3, 8), (0, 5), (0, 24), (0, 16), (3, 4), (0, 429), (1, 6), (3, 3), (3, 9), (3, 9), (3, 2), (3, 3), (3, 9), (3, 9), (3, 2), (3, 3), (3, 9), (3, 9), (3, 2), (3, 3), (3, 9), (3, 9), (3, 2), (3, 3), (3, 9), (3, 9), (3, 2), (3, 3), (3, 9), (3, 9), (3, 2), (3, 1)] _ _ _ _ _ _
  refine wp_dup dX11_init_60 rfl ?_
  refine wp_aload_n dX11_init_61 rfl ?_
  refine wp_getR (show RV5 0 3 = some 11 from rfl) dX11_init_62 fX11_37 rfl ?_
  refine wp_callI (as := [_]) (ls0 := [_, _]) (kc := 2) (ks := 20) (bc' := 47) (bs' := 1906) dX11_init_65 vX11_43 rfl rfl (Nat.le_of_ble_eq_true rfl) (Nat.le_of_ble_eq_true rfl) (by decide) (by decide) ?_
  refine wp_aload_n dX1_init_0 rfl ?_
  refine wp_obj dX1_init_1 oX1_3 (by omega) (Nat.le_of_ble_eq_true rfl) ?_
  refine wp_aload_n dX1_init_4 rfl ?_
  refine wp_bipush dX1_init_5 ?_
  refine wp_newI (N := 16) dX1_init_7 rfl (by decide) ?_
  rw [zA (iv := IV5) (fun _ => rfl), zA (iv := Z0) (fun _ => rfl), zQ (rv := RV5) (fun _ => rfl)]
  show wp _ _ _ _ (aR 39 :: _) [(3, 11), (3, 10), (0, 240), (3, 7), (0, 5), (0, 24), (0, 16), (3, 8), (0, 5), (0, 24), (0, 16), (3, 4), (0, 429), (1, 6), (3, 3), (3, 9), (3, 9), (3, 2), (3, 3), (3, 9), (3, 9), (3, 2), (3, 3), (3, 9), (3, 9), (3, 2), (3, 3), (3, 9), (3, 9), (3, 2), (3, 3), (3, 9), (3, 9), (3, 2), (3, 3), (3, 9), (3, 9), (3, 2), (3, 1), (0, 16)] _ _ _ _ _ _
  refine wp_putRF dX1_init_9 gX1_9 rfl rfl ?_
  refine wp_aload_n dX1_init_12 rfl ?_
  refine wp_iconst dX1_init_13 ?_
  refine wp_newI (N := 4) dX1_init_14 rfl (by decide) ?_
  rw [zA (iv := IV5) (fun _ => rfl), zA (iv := Z0) (fun _ => rfl), zQ (rv := (uP RV5 38 2 (some 39))) (fun _ => rfl)]
  show wp _ _ _ _ (aR 40 :: _) [(3, 11), (3, 10), (0, 240), (3, 7), (0, 5), (0, 24), (0, 16), (3, 8), (0, 5), (0, 24), (0, 16), (3, 4), (0, 429), (1, 6), (3, 3), (3, 9), (3, 9), (3, 2), (3, 3), (3, 9), (3, 9), (3, 2), (3, 3), (3, 9), (3, 9), (3, 2), (3, 3), (3, 9), (3, 9), (3, 2), (3, 3), (3, 9), (3, 9), (3, 2), (3, 3), (3, 9), (3, 9), (3, 2), (3, 1), (0, 16), (0, 4)] _ _ _ _ _ _
  refine wp_putRF dX1_init_16 gX1_17 rfl rfl ?_
  refine wp_aload_n dX1_init_19 rfl ?_
  refine wp_aload_n dX1_init_20 rfl ?_
  refine wp_putRF dX1_init_21 gX1_20 rfl rfl ?_
  refine wp_aload_n dX1_init_24 rfl ?_
  refine wp_aload_n dX1_init_25 rfl ?_
  refine wp_getR (show (uP (uP (uP RV5 38 2 (some 39)) 38 3 (some 40)) 38 0 (some 11)) 11 0 = some 3 from rfl) dX1_init_26 fX1_24 rfl ?_
  refine wp_putRF dX1_init_29 gX1_30 rfl rfl ?_
  refine wp_return dX1_init_32 rfl ?_
  refine wp_putRF dX11_init_68 gX11_46 rfl rfl ?_
  exact k
def IV7 : aF := IV6
def RV7 : aP := (uP (uP (uP (uP (uP (uP (uP RV6 41 3 (some 42)) 41 4 (some 43)) 41 5 (some 44)) 41 0 (some 11)) 41 1 (some 3)) 41 2 (some 38)) 0 5 (some 41))
theorem ci_6 {d : Nat} {R : aPost} (k : wp (d + 6) mX11_init 90 [some (aR 0)] [] [(3, 11), (3, 10), (0, 240), (3, 7), (0, 5), (0, 24), (0, 16), (3, 8), (0, 5), (0, 24), (0, 16), (3, 4), (0, 429), (1, 6), (3, 3), (3, 9), (3, 9), (3, 2), (3, 3), (3, 9), (3, 9), (3, 2), (3, 3), (3, 9), (3, 9), (3, 2), (3, 3), (3, 9), (3, 9), (3, 2), (3, 3), (3, 9), (3, 9), (3, 2), (3, 3), (3, 9), (3, 9), (3, 2), (3, 1), (0, 16), (0, 4), (3, 0), (0, 160), (0, 6), (0, 6)] IV7 Z0 RV7 43 1728 R) : wp (d + 6) mX11_init 71 [some (aR 0)] [] [(3, 11), (3, 10), (0, 240), (3, 7), (0, 5), (0, 24), (0, 16), (3, 8), (0, 5), (0, 24), (0, 16), (3, 4), (0, 429), (1, 6), (3, 3), (3, 9), (3, 9), (3, 2), (3, 3), (3, 9), (3, 9), (3, 2), (3, 3), (3, 9), (3, 9), (3, 2), (3, 3), (3, 9), (3, 9), (3, 2), (3, 3), (3, 9), (3, 9), (3, 2), (3, 3), (3, 9), (3, 9), (3, 2), (3, 1), (0, 16), (0, 4)] IV6 Z0 RV6 47 1906 R := by
  refine wp_aload_n dX11_init_71 rfl ?_
  refine wp_new (N := 6) dX11_init_72 wX11_50 rfl (by decide) ?_
  rw [zA (iv := IV6) (fun _ => rfl), zA (iv := Z0) (fun _ => rfl), zQ (rv := RV6) (fun _ => rfl)]
  show wp _ _ _ _ (aR 41 :: _) [(3, 11), (3, 10), (0, 240), (3, 7), (0, 5), (0, 24), (0, 16), (3, 8), (0, 5), (0, 24), (0, 16), (3, 4), (0, 429), (1, 6), (3, 3), (3, 9), (3, 9), (3, 2), (3, 3), (3, 9), (3, 9), (3, 2), (3, 3), (3, 9), (3, 9), (3, 2), (3, 3), (3, 9), (3, 9), (3, 2), (3, 3), (3, 9), (3, 9), (3, 2), (3, 3), (3, 9), (3, 9), (3, 2), (3, 1), (0, 16), (0, 4), (3, 0)] _ _ _ _ _ _
  refine wp_dup dX11_init_75 rfl ?_
  refine wp_aload_n dX11_init_76 rfl ?_
  refine wp_getR (show RV6 0 3 = some 11 from rfl) dX11_init_77 fX11_37 rfl ?_
  refine wp_aload_n dX11_init_80 rfl ?_
  refine wp_getR (show RV6 0 4 = some 38 from rfl) dX11_init_81 fX11_46 rfl ?_
  refine wp_callI (as := [_, _]) (ls0 := [_, _, _]) (kc := 3) (ks := 172) (bc' := 43) (bs' := 1728) dX11_init_84 vX11_52 rfl rfl (Nat.le_of_ble_eq_true rfl) (Nat.le_of_ble_eq_true rfl) (by decide) (by decide) ?_
  refine wp_aload_n dX0_init_0 rfl ?_
  refine wp_obj dX0_init_1 oX0_3 (by omega) (Nat.le_of_ble_eq_true rfl) ?_
  refine wp_aload_n dX0_init_4 rfl ?_
  refine wp_sipush dX0_init_5 ?_
  refine wp_newI (N := 160) dX0_init_8 rfl (by decide) ?_
  rw [zA (iv := IV6) (fun _ => rfl), zA (iv := Z0) (fun _ => rfl), zQ (rv := RV6) (fun _ => rfl)]
  show wp _ _ _ _ (aR 42 :: _) [(3, 11), (3, 10), (0, 240), (3, 7), (0, 5), (0, 24), (0, 16), (3, 8), (0, 5), (0, 24), (0, 16), (3, 4), (0, 429), (1, 6), (3, 3), (3, 9), (3, 9), (3, 2), (3, 3), (3, 9), (3, 9), (3, 2), (3, 3), (3, 9), (3, 9), (3, 2), (3, 3), (3, 9), (3, 9), (3, 2), (3, 3), (3, 9), (3, 9), (3, 2), (3, 3), (3, 9), (3, 9), (3, 2), (3, 1), (0, 16), (0, 4), (3, 0), (0, 160)] _ _ _ _ _ _
  refine wp_putRF dX0_init_10 gX0_11 rfl rfl ?_
  refine wp_aload_n dX0_init_13 rfl ?_
  refine wp_bipush dX0_init_14 ?_
  refine wp_newI (N := 6) dX0_init_16 rfl (by decide) ?_
  rw [zA (iv := IV6) (fun _ => rfl), zA (iv := Z0) (fun _ => rfl), zQ (rv := (uP RV6 41 3 (some 42))) (fun _ => rfl)]
  show wp _ _ _ _ (aR 43 :: _) [(3, 11), (3, 10), (0, 240), (3, 7), (0, 5), (0, 24), (0, 16), (3, 8), (0, 5), (0, 24), (0, 16), (3, 4), (0, 429), (1, 6), (3, 3), (3, 9), (3, 9), (3, 2), (3, 3), (3, 9), (3, 9), (3, 2), (3, 3), (3, 9), (3, 9), (3, 2), (3, 3), (3, 9), (3, 9), (3, 2), (3, 3), (3, 9), (3, 9), (3, 2), (3, 3), (3, 9), (3, 9), (3, 2), (3, 1), (0, 16), (0, 4), (3, 0), (0, 160), (0, 6)] _ _ _ _ _ _
  refine wp_putRF dX0_init_18 gX0_15 rfl rfl ?_
  refine wp_aload_n dX0_init_21 rfl ?_
  refine wp_bipush dX0_init_22 ?_
  refine wp_newI (N := 6) dX0_init_24 rfl (by decide) ?_
  rw [zA (iv := IV6) (fun _ => rfl), zA (iv := Z0) (fun _ => rfl), zQ (rv := (uP (uP RV6 41 3 (some 42)) 41 4 (some 43))) (fun _ => rfl)]
  show wp _ _ _ _ (aR 44 :: _) [(3, 11), (3, 10), (0, 240), (3, 7), (0, 5), (0, 24), (0, 16), (3, 8), (0, 5), (0, 24), (0, 16), (3, 4), (0, 429), (1, 6), (3, 3), (3, 9), (3, 9), (3, 2), (3, 3), (3, 9), (3, 9), (3, 2), (3, 3), (3, 9), (3, 9), (3, 2), (3, 3), (3, 9), (3, 9), (3, 2), (3, 3), (3, 9), (3, 9), (3, 2), (3, 3), (3, 9), (3, 9), (3, 2), (3, 1), (0, 16), (0, 4), (3, 0), (0, 160), (0, 6), (0, 6)] _ _ _ _ _ _
  refine wp_putRF dX0_init_26 gX0_18 rfl rfl ?_
  refine wp_aload_n dX0_init_29 rfl ?_
  refine wp_aload_n dX0_init_30 rfl ?_
  refine wp_putRF dX0_init_31 gX0_21 rfl rfl ?_
  refine wp_aload_n dX0_init_34 rfl ?_
  refine wp_aload_n dX0_init_35 rfl ?_
  refine wp_getR (show (uP (uP (uP (uP RV6 41 3 (some 42)) 41 4 (some 43)) 41 5 (some 44)) 41 0 (some 11)) 11 0 = some 3 from rfl) dX0_init_36 fX0_25 rfl ?_
  refine wp_putRF dX0_init_39 gX0_31 rfl rfl ?_
  refine wp_aload_n dX0_init_42 rfl ?_
  refine wp_aload_n dX0_init_43 rfl ?_
  refine wp_putRF dX0_init_44 gX0_32 rfl rfl ?_
  refine wp_return dX0_init_47 rfl ?_
  refine wp_putRF dX11_init_87 gX11_55 rfl rfl ?_
  exact k
def IV8 : aF := IV7
def RV8 : aP := (uP (uP (uP (uP (uP (uP RV7 45 0 (some 46)) 45 2 (some 47)) 45 3 (some 48)) 45 6 (some 49)) 45 7 (some 50)) 0 6 (some 45))
theorem ci_7 {d : Nat} {R : aPost} (k : wp (d + 6) mX11_init 101 [some (aR 0)] [] [(3, 11), (3, 10), (0, 240), (3, 7), (0, 5), (0, 24), (0, 16), (3, 8), (0, 5), (0, 24), (0, 16), (3, 4), (0, 429), (1, 6), (3, 3), (3, 9), (3, 9), (3, 2), (3, 3), (3, 9), (3, 9), (3, 2), (3, 3), (3, 9), (3, 9), (3, 2), (3, 3), (3, 9), (3, 9), (3, 2), (3, 3), (3, 9), (3, 9), (3, 2), (3, 3), (3, 9), (3, 9), (3, 2), (3, 1), (0, 16), (0, 4), (3, 0), (0, 160), (0, 6), (0, 6), (3, 6), (0, 300), (2, 40), (0, 40), (0, 429), (0, 180)] IV8 Z0 RV8 37 729 R) : wp (d + 6) mX11_init 90 [some (aR 0)] [] [(3, 11), (3, 10), (0, 240), (3, 7), (0, 5), (0, 24), (0, 16), (3, 8), (0, 5), (0, 24), (0, 16), (3, 4), (0, 429), (1, 6), (3, 3), (3, 9), (3, 9), (3, 2), (3, 3), (3, 9), (3, 9), (3, 2), (3, 3), (3, 9), (3, 9), (3, 2), (3, 3), (3, 9), (3, 9), (3, 2), (3, 3), (3, 9), (3, 9), (3, 2), (3, 3), (3, 9), (3, 9), (3, 2), (3, 1), (0, 16), (0, 4), (3, 0), (0, 160), (0, 6), (0, 6)] IV7 Z0 RV7 43 1728 R := by
  refine wp_aload_n dX11_init_90 rfl ?_
  refine wp_new (N := 10) dX11_init_91 wX11_59 rfl (by decide) ?_
  rw [zA (iv := IV7) (fun _ => rfl), zA (iv := Z0) (fun _ => rfl), zQ (rv := RV7) (fun _ => rfl)]
  show wp _ _ _ _ (aR 45 :: _) [(3, 11), (3, 10), (0, 240), (3, 7), (0, 5), (0, 24), (0, 16), (3, 8), (0, 5), (0, 24), (0, 16), (3, 4), (0, 429), (1, 6), (3, 3), (3, 9), (3, 9), (3, 2), (3, 3), (3, 9), (3, 9), (3, 2), (3, 3), (3, 9), (3, 9), (3, 2), (3, 3), (3, 9), (3, 9), (3, 2), (3, 3), (3, 9), (3, 9), (3, 2), (3, 3), (3, 9), (3, 9), (3, 2), (3, 1), (0, 16), (0, 4), (3, 0), (0, 160), (0, 6), (0, 6), (3, 6)] _ _ _ _ _ _
  refine wp_dup dX11_init_94 rfl ?_
  refine wp_callN (as := []) (ls0 := [_]) (kc := 5) (ks := 989) (bc' := 37) (bs' := 729) dX11_init_95 vX11_61 rfl rfl (Nat.le_of_ble_eq_true rfl) (Nat.le_of_ble_eq_true rfl) (by decide) (by decide) ?_
  refine wp_aload_n dX6_init_0 rfl ?_
  refine wp_obj dX6_init_1 oX6_5 (by omega) (Nat.le_of_ble_eq_true rfl) ?_
  refine wp_aload_n dX6_init_4 rfl ?_
  refine wp_sipush dX6_init_5 ?_
  refine wp_newI (N := 300) dX6_init_8 rfl (by decide) ?_
  rw [zA (iv := IV7) (fun _ => rfl), zA (iv := Z0) (fun _ => rfl), zQ (rv := RV7) (fun _ => rfl)]
  show wp _ _ _ _ (aR 46 :: _) [(3, 11), (3, 10), (0, 240), (3, 7), (0, 5), (0, 24), (0, 16), (3, 8), (0, 5), (0, 24), (0, 16), (3, 4), (0, 429), (1, 6), (3, 3), (3, 9), (3, 9), (3, 2), (3, 3), (3, 9), (3, 9), (3, 2), (3, 3), (3, 9), (3, 9), (3, 2), (3, 3), (3, 9), (3, 9), (3, 2), (3, 3), (3, 9), (3, 9), (3, 2), (3, 3), (3, 9), (3, 9), (3, 2), (3, 1), (0, 16), (0, 4), (3, 0), (0, 160), (0, 6), (0, 6), (3, 6), (0, 300)] _ _ _ _ _ _
  refine wp_putRF dX6_init_10 gX6_11 rfl rfl ?_
  refine wp_aload_n dX6_init_13 rfl ?_
  refine wp_bipush dX6_init_14 ?_
  refine wp_newA (N := 40) dX6_init_16 xX6_15 rfl (by decide) ?_
  rw [zA (iv := IV7) (fun _ => rfl), zA (iv := Z0) (fun _ => rfl), zQ (rv := (uP RV7 45 0 (some 46))) (fun _ => rfl)]
  show wp _ _ _ _ (aR 47 :: _) [(3, 11), (3, 10), (0, 240), (3, 7), (0, 5), (0, 24), (0, 16), (3, 8), (0, 5), (0, 24), (0, 16), (3, 4), (0, 429), (1, 6), (3, 3), (3, 9), (3, 9), (3, 2), (3, 3), (3, 9), (3, 9), (3, 2), (3, 3), (3, 9), (3, 9), (3, 2), (3, 3), (3, 9), (3, 9), (3, 2), (3, 3), (3, 9), (3, 9), (3, 2), (3, 3), (3, 9), (3, 9), (3, 2), (3, 1), (0, 16), (0, 4), (3, 0), (0, 160), (0, 6), (0, 6), (3, 6), (0, 300), (2, 40)] _ _ _ _ _ _
  refine wp_putRF dX6_init_19 gX6_16 rfl rfl ?_
  refine wp_aload_n dX6_init_22 rfl ?_
  refine wp_bipush dX6_init_23 ?_
  refine wp_newI (N := 40) dX6_init_25 rfl (by decide) ?_
  rw [zA (iv := IV7) (fun _ => rfl), zA (iv := Z0) (fun _ => rfl), zQ (rv := (uP (uP RV7 45 0 (some 46)) 45 2 (some 47))) (fun _ => rfl)]
  show wp _ _ _ _ (aR 48 :: _) [(3, 11), (3, 10), (0, 240), (3, 7), (0, 5), (0, 24), (0, 16), (3, 8), (0, 5), (0, 24), (0, 16), (3, 4), (0, 429), (1, 6), (3, 3), (3, 9), (3, 9), (3, 2), (3, 3), (3, 9), (3, 9), (3, 2), (3, 3), (3, 9), (3, 9), (3, 2), (3, 3), (3, 9), (3, 9), (3, 2), (3, 3), (3, 9), (3, 9), (3, 2), (3, 3), (3, 9), (3, 9), (3, 2), (3, 1), (0, 16), (0, 4), (3, 0), (0, 160), (0, 6), (0, 6), (3, 6), (0, 300), (2, 40), (0, 40)] _ _ _ _ _ _
  refine wp_putRF dX6_init_27 gX6_20 rfl rfl ?_
  refine wp_aload_n dX6_init_30 rfl ?_
  refine wp_sipush dX6_init_31 ?_
  refine wp_newI (N := 429) dX6_init_34 rfl (by decide) ?_
  rw [zA (iv := IV7) (fun _ => rfl), zA (iv := Z0) (fun _ => rfl), zQ (rv := (uP (uP (uP RV7 45 0 (some 46)) 45 2 (some 47)) 45 3 (some 48))) (fun _ => rfl)]
  show wp _ _ _ _ (aR 49 :: _) [(3, 11), (3, 10), (0, 240), (3, 7), (0, 5), (0, 24), (0, 16), (3, 8), (0, 5), (0, 24), (0, 16), (3, 4), (0, 429), (1, 6), (3, 3), (3, 9), (3, 9), (3, 2), (3, 3), (3, 9), (3, 9), (3, 2), (3, 3), (3, 9), (3, 9), (3, 2), (3, 3), (3, 9), (3, 9), (3, 2), (3, 3), (3, 9), (3, 9), (3, 2), (3, 3), (3, 9), (3, 9), (3, 2), (3, 1), (0, 16), (0, 4), (3, 0), (0, 160), (0, 6), (0, 6), (3, 6), (0, 300), (2, 40), (0, 40), (0, 429)] _ _ _ _ _ _
  refine wp_putRF dX6_init_36 gX6_25 rfl rfl ?_
  refine wp_aload_n dX6_init_39 rfl ?_
  refine wp_sipush dX6_init_40 ?_
  refine wp_newI (N := 180) dX6_init_43 rfl (by decide) ?_
  rw [zA (iv := IV7) (fun _ => rfl), zA (iv := Z0) (fun _ => rfl), zQ (rv := (uP (uP (uP (uP RV7 45 0 (some 46)) 45 2 (some 47)) 45 3 (some 48)) 45 6 (some 49))) (fun _ => rfl)]
  show wp _ _ _ _ (aR 50 :: _) [(3, 11), (3, 10), (0, 240), (3, 7), (0, 5), (0, 24), (0, 16), (3, 8), (0, 5), (0, 24), (0, 16), (3, 4), (0, 429), (1, 6), (3, 3), (3, 9), (3, 9), (3, 2), (3, 3), (3, 9), (3, 9), (3, 2), (3, 3), (3, 9), (3, 9), (3, 2), (3, 3), (3, 9), (3, 9), (3, 2), (3, 3), (3, 9), (3, 9), (3, 2), (3, 3), (3, 9), (3, 9), (3, 2), (3, 1), (0, 16), (0, 4), (3, 0), (0, 160), (0, 6), (0, 6), (3, 6), (0, 300), (2, 40), (0, 40), (0, 429), (0, 180)] _ _ _ _ _ _
  refine wp_putRF dX6_init_45 gX6_28 rfl rfl ?_
  refine wp_return dX6_init_48 rfl ?_
  refine wp_putRF dX11_init_98 gX11_62 rfl rfl ?_
  exact k
def IV9 : aF := (uI (uI (uI (uI (uI (uI (uI (uI (uI (uI (uI (uI (uI (uI (uI (uI (uI (uI (uI (uI (uI (uI (uI (uI (uI (uI (uI (uI (uI (uI IV8 56 0 (0)) 56 2 ((3) + ((0) * (71)))) 57 1 (((3) + ((0) * (71))) + (4))) 58 1 ((((3) + ((0) * (71))) + (4)) + (28))) 59 1 ((((3) + ((0) * (71))) + (4)) + (56))) 60 0 (0 + 1)) 60 2 ((3) + ((0 + 1) * (71)))) 61 1 (((3) + ((0 + 1) * (71))) + (4))) 62 1 ((((3) + ((0 + 1) * (71))) + (4)) + (28))) 63 1 ((((3) + ((0 + 1) * (71))) + (4)) + (56))) 64 0 (0 + 1 + 1)) 64 2 ((3) + ((0 + 1 + 1) * (71)))) 65 1 (((3) + ((0 + 1 + 1) * (71))) + (4))) 66 1 ((((3) + ((0 + 1 + 1) * (71))) + (4)) + (28))) 67 1 ((((3) + ((0 + 1 + 1) * (71))) + (4)) + (56))) 68 0 (0 + 1 + 1 + 1)) 68 2 ((3) + ((0 + 1 + 1 + 1) * (71)))) 69 1 (((3) + ((0 + 1 + 1 + 1) * (71))) + (4))) 70 1 ((((3) + ((0 + 1 + 1 + 1) * (71))) + (4)) + (28))) 71 1 ((((3) + ((0 + 1 + 1 + 1) * (71))) + (4)) + (56))) 72 0 (0 + 1 + 1 + 1 + 1)) 72 2 ((3) + ((0 + 1 + 1 + 1 + 1) * (71)))) 73 1 (((3) + ((0 + 1 + 1 + 1 + 1) * (71))) + (4))) 74 1 ((((3) + ((0 + 1 + 1 + 1 + 1) * (71))) + (4)) + (28))) 75 1 ((((3) + ((0 + 1 + 1 + 1 + 1) * (71))) + (4)) + (56))) 76 0 (0 + 1 + 1 + 1 + 1 + 1)) 76 2 ((3) + ((0 + 1 + 1 + 1 + 1 + 1) * (71)))) 77 1 (((3) + ((0 + 1 + 1 + 1 + 1 + 1) * (71))) + (4))) 78 1 ((((3) + ((0 + 1 + 1 + 1 + 1 + 1) * (71))) + (4)) + (28))) 79 1 ((((3) + ((0 + 1 + 1 + 1 + 1 + 1) * (71))) + (4)) + (56)))
def RV9 : aP := (uP (uP (uP (uP (uP (uP (uP (uP (uP (uP (uP (uP (uP (uP (uP (uP (uP (uP (uP (uP (uP (uP (uP (uP (uP (uP (uP (uP (uP (uP (uP (uP (uP (uP (uP (uP (uP (uP (uP (uP (uP (uP (uP (uP (uP (uP (uP (uP (uP (uP (uP (uP (uP (uP (uP (uP (uP (uP (uP (uP (uP (uP (uP (uP (uP (uP RV8 51 3 (some 52)) 51 0 (some 11)) 53 1 (some 54)) 53 2 (some 55)) 53 0 (some 3)) 56 1 (some 54)) 57 0 (some 54)) 56 3 (some 57)) 58 0 (some 54)) 56 4 (some 58)) 59 0 (some 54)) 56 5 (some 59)) 55 (0) (some 56)) 60 1 (some 54)) 61 0 (some 54)) 60 3 (some 61)) 62 0 (some 54)) 60 4 (some 62)) 63 0 (some 54)) 60 5 (some 63)) 55 (0 + 1) (some 60)) 64 1 (some 54)) 65 0 (some 54)) 64 3 (some 65)) 66 0 (some 54)) 64 4 (some 66)) 67 0 (some 54)) 64 5 (some 67)) 55 (0 + 1 + 1) (some 64)) 68 1 (some 54)) 69 0 (some 54)) 68 3 (some 69)) 70 0 (some 54)) 68 4 (some 70)) 71 0 (some 54)) 68 5 (some 71)) 55 (0 + 1 + 1 + 1) (some 68)) 72 1 (some 54)) 73 0 (some 54)) 72 3 (some 73)) 74 0 (some 54)) 72 4 (some 74)) 75 0 (some 54)) 72 5 (some 75)) 55 (0 + 1 + 1 + 1 + 1) (some 72)) 76 1 (some 54)) 77 0 (some 54)) 76 3 (some 77)) 78 0 (some 54)) 76 4 (some 78)) 79 0 (some 54)) 76 5 (some 79)) 55 (0 + 1 + 1 + 1 + 1 + 1) (some 76)) 51 1 (some 53)) 81 2 (some 82)) 81 3 (some 83)) 81 0 (some 53)) 81 1 (some 3)) 80 3 (some 84)) 80 4 (some 85)) 80 5 (some 86)) 80 0 (some 53)) 80 1 (some 3)) 80 2 (some 81)) 51 2 (some 80)) 0 7 (some 51))
theorem ci_8 {d : Nat} {R : aPost} (k : wp (d + 6) mX11_init 116 [some (aR 0)] [] [(3, 11), (3, 10), (0, 240), (3, 7), (0, 5), (0, 24), (0, 16), (3, 8), (0, 5), (0, 24), (0, 16), (3, 4), (0, 429), (1, 6), (3, 3), (3, 9), (3, 9), (3, 2), (3, 3), (3, 9), (3, 9), (3, 2), (3, 3), (3, 9), (3, 9), (3, 2), (3, 3), (3, 9), (3, 9), (3, 2), (3, 3), (3, 9), (3, 9), (3, 2), (3, 3), (3, 9), (3, 9), (3, 2), (3, 1), (0, 16), (0, 4), (3, 0), (0, 160), (0, 6), (0, 6), (3, 6), (0, 300), (2, 40), (0, 40), (0, 429), (0, 180), (3, 5), (0, 6), (3, 4), (0, 429), (1, 6), (3, 3), (3, 9), (3, 9), (3, 2), (3, 3), (3, 9), (3, 9), (3, 2), (3, 3), (3, 9), (3, 9), (3, 2), (3, 3), (3, 9), (3, 9), (3, 2), (3, 3), (3, 9), (3, 9), (3, 2), (3, 3), (3, 9), (3, 9), (3, 2), (3, 0), (3, 1), (0, 16), (0, 4), (0, 160), (0, 6), (0, 6)] IV9 Z0 RV9 1 5 R) : wp (d + 6) mX11_init 101 [some (aR 0)] [] [(3, 11), (3, 10), (0, 240), (3, 7), (0, 5), (0, 24), (0, 16), (3, 8), (0, 5), (0, 24), (0, 16), (3, 4), (0, 429), (1, 6), (3, 3), (3, 9), (3, 9), (3, 2), (3, 3), (3, 9), (3, 9), (3, 2), (3, 3), (3, 9), (3, 9), (3, 2), (3, 3), (3, 9), (3, 9), (3, 2), (3, 3), (3, 9), (3, 9), (3, 2), (3, 3), (3, 9), (3, 9), (3, 2), (3, 1), (0, 16), (0, 4), (3, 0), (0, 160), (0, 6), (0, 6), (3, 6), (0, 300), (2, 40), (0, 40), (0, 429), (0, 180)] IV8 Z0 RV8 37 729 R := by
  refine wp_aload_n dX11_init_101 rfl ?_
  refine wp_new (N := 4) dX11_init_102 wX11_66 rfl (by decide) ?_
  rw [zA (iv := IV8) (fun _ => rfl), zA (iv := Z0) (fun _ => rfl), zQ (rv := RV8) (fun _ => rfl)]
  show wp _ _ _ _ (aR 51 :: _) [(3, 11), (3, 10), (0, 240), (3, 7), (0, 5), (0, 24), (0, 16), (3, 8), (0, 5), (0, 24), (0, 16), (3, 4), (0, 429), (1, 6), (3, 3), (3, 9), (3, 9), (3, 2), (3, 3), (3, 9), (3, 9), (3, 2), (3, 3), (3, 9), (3, 9), (3, 2), (3, 3), (3, 9), (3, 9), (3, 2), (3, 3), (3, 9), (3, 9), (3, 2), (3, 3), (3, 9), (3, 9), (3, 2), (3, 1), (0, 16), (0, 4), (3, 0), (0, 160), (0, 6), (0, 6), (3, 6), (0, 300), (2, 40), (0, 40), (0, 429), (0, 180), (3, 5)] _ _ _ _ _ _
  refine wp_dup dX11_init_105 rfl ?_
  refine wp_aload_n dX11_init_106 rfl ?_
  refine wp_getR (show RV8 0 3 = some 11 from rfl) dX11_init_107 fX11_37 rfl ?_
  refine wp_callI (as := [_]) (ls0 := [_, _]) (kc := 35) (ks := 720) (bc' := 1) (bs' := 5) dX11_init_110 vX11_68 rfl rfl (Nat.le_of_ble_eq_true rfl) (Nat.le_of_ble_eq_true rfl) (by decide) (by decide) ?_
  refine wp_aload_n dX5_init_0 rfl ?_
  refine wp_obj dX5_init_1 oX5_3 (by omega) (Nat.le_of_ble_eq_true rfl) ?_
  refine wp_aload_n dX5_init_4 rfl ?_
  refine wp_bipush dX5_init_5 ?_
  refine wp_newI (N := 6) dX5_init_7 rfl (by decide) ?_
  rw [zA (iv := IV8) (fun _ => rfl), zA (iv := Z0) (fun _ => rfl), zQ (rv := RV8) (fun _ => rfl)]
  show wp _ _ _ _ (aR 52 :: _) [(3, 11), (3, 10), (0, 240), (3, 7), (0, 5), (0, 24), (0, 16), (3, 8), (0, 5), (0, 24), (0, 16), (3, 4), (0, 429), (1, 6), (3, 3), (3, 9), (3, 9), (3, 2), (3, 3), (3, 9), (3, 9), (3, 2), (3, 3), (3, 9), (3, 9), (3, 2), (3, 3), (3, 9), (3, 9), (3, 2), (3, 3), (3, 9), (3, 9), (3, 2), (3, 3), (3, 9), (3, 9), (3, 2), (3, 1), (0, 16), (0, 4), (3, 0), (0, 160), (0, 6), (0, 6), (3, 6), (0, 300), (2, 40), (0, 40), (0, 429), (0, 180), (3, 5), (0, 6)] _ _ _ _ _ _
  refine wp_putRF dX5_init_9 gX5_9 rfl rfl ?_
  refine wp_aload_n dX5_init_12 rfl ?_
  refine wp_aload_n dX5_init_13 rfl ?_
  refine wp_putRF dX5_init_14 gX5_15 rfl rfl ?_
  refine wp_aload_n dX5_init_17 rfl ?_
  refine wp_new (N := 3) dX5_init_18 wX5_19 rfl (by decide) ?_
  rw [zA (iv := IV8) (fun _ => rfl), zA (iv := Z0) (fun _ => rfl), zQ (rv := (uP (uP RV8 51 3 (some 52)) 51 0 (some 11))) (fun _ => rfl)]
  show wp _ _ _ _ (aR 53 :: _) [(3, 11), (3, 10), (0, 240), (3, 7), (0, 5), (0, 24), (0, 16), (3, 8), (0, 5), (0, 24), (0, 16), (3, 4), (0, 429), (1, 6), (3, 3), (3, 9), (3, 9), (3, 2), (3, 3), (3, 9), (3, 9), (3, 2), (3, 3), (3, 9), (3, 9), (3, 2), (3, 3), (3, 9), (3, 9), (3, 2), (3, 3), (3, 9), (3, 9), (3, 2), (3, 3), (3, 9), (3, 9), (3, 2), (3, 1), (0, 16), (0, 4), (3, 0), (0, 160), (0, 6), (0, 6), (3, 6), (0, 300), (2, 40), (0, 40), (0, 429), (0, 180), (3, 5), (0, 6), (3, 4)] _ _ _ _ _ _
  refine wp_dup dX5_init_21 rfl ?_
  refine wp_aload_n dX5_init_22 rfl ?_
  refine wp_getR (show (uP (uP RV8 51 3 (some 52)) 51 0 (some 11)) 11 0 = some 3 from rfl) dX5_init_23 fX5_21 rfl ?_
  refine wp_callI (as := [_]) (ls0 := [_, _, _]) (kc := 26) (ks := 507) (bc' := 7) (bs' := 204) dX5_init_26 vX5_25 rfl rfl (Nat.le_of_ble_eq_true rfl) (Nat.le_of_ble_eq_true rfl) (by decide) (by decide) ?_
  refine wp_aload_n dX4_init_0 rfl ?_
  refine wp_obj dX4_init_1 oX4_7 (by omega) (Nat.le_of_ble_eq_true rfl) ?_
  refine wp_aload_n dX4_init_4 rfl ?_
  refine wp_sipush dX4_init_5 ?_
  refine wp_newI (N := 429) dX4_init_8 rfl (by decide) ?_
  rw [zA (iv := IV8) (fun _ => rfl), zA (iv := Z0) (fun _ => rfl), zQ (rv := (uP (uP RV8 51 3 (some 52)) 51 0 (some 11))) (fun _ => rfl)]
  show wp _ _ _ _ (aR 54 :: _) [(3, 11), (3, 10), (0, 240), (3, 7), (0, 5), (0, 24), (0, 16), (3, 8), (0, 5), (0, 24), (0, 16), (3, 4), (0, 429), (1, 6), (3, 3), (3, 9), (3, 9), (3, 2), (3, 3), (3, 9), (3, 9), (3, 2), (3, 3), (3, 9), (3, 9), (3, 2), (3, 3), (3, 9), (3, 9), (3, 2), (3, 3), (3, 9), (3, 9), (3, 2), (3, 3), (3, 9), (3, 9), (3, 2), (3, 1), (0, 16), (0, 4), (3, 0), (0, 160), (0, 6), (0, 6), (3, 6), (0, 300), (2, 40), (0, 40), (0, 429), (0, 180), (3, 5), (0, 6), (3, 4), (0, 429)] _ _ _ _ _ _
  refine wp_putRF dX4_init_10 gX4_13 rfl rfl ?_
  refine wp_aload_n dX4_init_13 rfl ?_
  refine wp_bipush dX4_init_14 ?_
  refine wp_newQ (N := 6) dX4_init_16 xX4_3 rfl (by decide) ?_
  rw [zA (iv := IV8) (fun _ => rfl), zA (iv := Z0) (fun _ => rfl), zQ (rv := (uP (uP (uP RV8 51 3 (some 52)) 51 0 (some 11)) 53 1 (some 54))) (fun _ => rfl)]
  show wp _ _ _ _ (aR 55 :: _) [(3, 11), (3, 10), (0, 240), (3, 7), (0, 5), (0, 24), (0, 16), (3, 8), (0, 5), (0, 24), (0, 16), (3, 4), (0, 429), (1, 6), (3, 3), (3, 9), (3, 9), (3, 2), (3, 3), (3, 9), (3, 9), (3, 2), (3, 3), (3, 9), (3, 9), (3, 2), (3, 3), (3, 9), (3, 9), (3, 2), (3, 3), (3, 9), (3, 9), (3, 2), (3, 3), (3, 9), (3, 9), (3, 2), (3, 1), (0, 16), (0, 4), (3, 0), (0, 160), (0, 6), (0, 6), (3, 6), (0, 300), (2, 40), (0, 40), (0, 429), (0, 180), (3, 5), (0, 6), (3, 4), (0, 429), (1, 6)] _ _ _ _ _ _
  refine wp_putRF dX4_init_19 gX4_17 rfl rfl ?_
  refine wp_aload_n dX4_init_22 rfl ?_
  refine wp_aload_n dX4_init_23 rfl ?_
  refine wp_putRF dX4_init_24 gX4_21 rfl rfl ?_
  refine wp_iconst dX4_init_27 ?_
  refine wp_istore_n (ls' := [_, _, _]) dX4_init_28 (by decide) rfl rfl ?_
  refine wp_iload_n dX4_init_29 rfl ?_
  refine wp_bipush dX4_init_30 ?_
  refine wp_icmp_ge (tgt := 65) dX4_init_32 rfl (fun q => absurd q (by decide)) (fun _ => ?_)
  refine wp_aload_n dX4_init_35 rfl ?_
  refine wp_getR (show (uP (uP (uP (uP (uP RV8 51 3 (some 52)) 51 0 (some 11)) 53 1 (some 54)) 53 2 (some 55)) 53 0 (some 3)) 53 2 = some 55 from rfl) dX4_init_36 fX4_17 rfl ?_
  refine wp_iload_n dX4_init_39 rfl ?_
  refine wp_new (N := 6) dX4_init_40 wX4_3 rfl (by decide) ?_
  rw [zA (iv := IV8) (fun _ => rfl), zA (iv := Z0) (fun _ => rfl), zQ (rv := (uP (uP (uP (uP (uP RV8 51 3 (some 52)) 51 0 (some 11)) 53 1 (some 54)) 53 2 (some 55)) 53 0 (some 3))) (fun _ => rfl)]
  show wp _ _ _ _ (aR 56 :: _) [(3, 11), (3, 10), (0, 240), (3, 7), (0, 5), (0, 24), (0, 16), (3, 8), (0, 5), (0, 24), (0, 16), (3, 4), (0, 429), (1, 6), (3, 3), (3, 9), (3, 9), (3, 2), (3, 3), (3, 9), (3, 9), (3, 2), (3, 3), (3, 9), (3, 9), (3, 2), (3, 3), (3, 9), (3, 9), (3, 2), (3, 3), (3, 9), (3, 9), (3, 2), (3, 3), (3, 9), (3, 9), (3, 2), (3, 1), (0, 16), (0, 4), (3, 0), (0, 160), (0, 6), (0, 6), (3, 6), (0, 300), (2, 40), (0, 40), (0, 429), (0, 180), (3, 5), (0, 6), (3, 4), (0, 429), (1, 6), (3, 3)] _ _ _ _ _ _
  refine wp_dup dX4_init_43 rfl ?_
  refine wp_iload_n dX4_init_44 rfl ?_
  refine wp_aload_n dX4_init_45 rfl ?_
  refine wp_getR (show (uP (uP (uP (uP (uP RV8 51 3 (some 52)) 51 0 (some 11)) 53 1 (some 54)) 53 2 (some 55)) 53 0 (some 3)) 53 1 = some 54 from rfl) dX4_init_46 fX4_13 rfl ?_
  refine wp_iconst dX4_init_49 ?_
  refine wp_iload_n dX4_init_50 rfl ?_
  refine wp_bipush dX4_init_51 ?_
  refine wp_imul dX4_init_53 ⟨by decide, by decide⟩ ?_
  refine wp_iadd dX4_init_54 ⟨by decide, by decide⟩ ?_
  refine wp_callI (as := [_, _, _]) (ls0 := [_, _, _, _]) (kc := 3) (ks := 6) (bc' := 20) (bs' := 60) dX4_init_55 vX4_25 rfl rfl (Nat.le_of_ble_eq_true rfl) (Nat.le_of_ble_eq_true rfl) (by decide) (by decide) ?_
  refine wp_aload_n dX3_init_0 rfl ?_
  refine wp_obj dX3_init_1 oX3_9 (by omega) (Nat.le_of_ble_eq_true rfl) ?_
  refine wp_aload_n dX3_init_4 rfl ?_
  refine wp_iload_n dX3_init_5 rfl ?_
  refine wp_putIF dX3_init_6 gX3_15 rfl rfl ?_
  refine wp_aload_n dX3_init_9 rfl ?_
  refine wp_aload_n dX3_init_10 rfl ?_
  refine wp_putRF dX3_init_11 gX3_19 rfl rfl ?_
  refine wp_aload_n dX3_init_14 rfl ?_
  refine wp_iload_n dX3_init_15 rfl ?_
  refine wp_putIF dX3_init_16 gX3_23 rfl rfl ?_
  refine wp_aload_n dX3_init_19 rfl ?_
  refine wp_new (N := 2) dX3_init_20 wX3_3 rfl (by decide) ?_
  rw [zA (iv := (uI (uI IV8 56 0 (0)) 56 2 ((3) + ((0) * (71))))) (fun _ => rfl), zA (iv := Z0) (fun _ => rfl), zQ (rv := (uP (uP (uP (uP (uP (uP RV8 51 3 (some 52)) 51 0 (some 11)) 53 1 (some 54)) 53 2 (some 55)) 53 0 (some 3)) 56 1 (some 54))) (fun _ => rfl)]
  show wp _ _ _ _ (aR 57 :: _) [(3, 11), (3, 10), (0, 240), (3, 7), (0, 5), (0, 24), (0, 16), (3, 8), (0, 5), (0, 24), (0, 16), (3, 4), (0, 429), (1, 6), (3, 3), (3, 9), (3, 9), (3, 2), (3, 3), (3, 9), (3, 9), (3, 2), (3, 3), (3, 9), (3, 9), (3, 2), (3, 3), (3, 9), (3, 9), (3, 2), (3, 3), (3, 9), (3, 9), (3, 2), (3, 3), (3, 9), (3, 9), (3, 2), (3, 1), (0, 16), (0, 4), (3, 0), (0, 160), (0, 6), (0, 6), (3, 6), (0, 300), (2, 40), (0, 40), (0, 429), (0, 180), (3, 5), (0, 6), (3, 4), (0, 429), (1, 6), (3, 3), (3, 9)] _ _ _ _ _ _
  refine wp_dup dX3_init_23 rfl ?_
  refine wp_aload_n dX3_init_24 rfl ?_
  refine wp_iload_n dX3_init_25 rfl ?_
  refine wp_iconst dX3_init_26 ?_
  refine wp_iadd dX3_init_27 ⟨by decide, by decide⟩ ?_
  refine wp_callI (as := [_, _]) (ls0 := [_, _, _]) (kc := 0) (ks := 0) (bc' := 2) (bs' := 4) dX3_init_28 vX3_26 rfl rfl (Nat.le_of_ble_eq_true rfl) (Nat.le_of_ble_eq_true rfl) (by decide) (by decide) ?_
  refine wp_aload_n dX9_init_0 rfl ?_
  refine wp_obj dX9_init_1 oX9_5 (by omega) (Nat.le_of_ble_eq_true rfl) ?_
  refine wp_aload_n dX9_init_4 rfl ?_
  refine wp_aload_n dX9_init_5 rfl ?_
  refine wp_putRF dX9_init_6 gX9_11 rfl rfl ?_
  refine wp_aload_n dX9_init_9 rfl ?_
  refine wp_iload_n dX9_init_10 rfl ?_
  refine wp_putIF dX9_init_11 gX9_15 rfl rfl ?_
  refine wp_return dX9_init_14 rfl ?_
  refine wp_putRF dX3_init_31 gX3_29 rfl rfl ?_
  refine wp_aload_n dX3_init_34 rfl ?_
  refine wp_new (N := 2) dX3_init_35 wX3_3 rfl (by decide) ?_
  rw [zA (iv := (uI (uI (uI IV8 56 0 (0)) 56 2 ((3) + ((0) * (71)))) 57 1 (((3) + ((0) * (71))) + (4)))) (fun _ => rfl), zA (iv := Z0) (fun _ => rfl), zQ (rv := (uP (uP (uP (uP (uP (uP (uP (uP RV8 51 3 (some 52)) 51 0 (some 11)) 53 1 (some 54)) 53 2 (some 55)) 53 0 (some 3)) 56 1 (some 54)) 57 0 (some 54)) 56 3 (some 57))) (fun _ => rfl)]
  show wp _ _ _ _ (aR 58 :: _) [(3, 11), (3, 10), (0, 240), (3, 7), (0, 5), (0, 24), (0, 16), (3, 8), (0, 5), (0, 24), (0, 16), (3, 4), (0, 429), (1, 6), (3, 3), (3, 9), (3, 9), (3, 2), (3, 3), (3, 9), (3, 9), (3, 2), (3, 3), (3, 9), (3, 9), (3, 2), (3, 3), (3, 9), (3, 9), (3, 2), (3, 3), (3, 9), (3, 9), (3, 2), (3, 3), (3, 9), (3, 9), (3, 2), (3, 1), (0, 16), (0, 4), (3, 0), (0, 160), (0, 6), (0, 6), (3, 6), (0, 300), (2, 40), (0, 40), (0, 429), (0, 180), (3, 5), (0, 6), (3, 4), (0, 429), (1, 6), (3, 3), (3, 9), (3, 9)] _ _ _ _ _ _
  refine wp_dup dX3_init_38 rfl ?_
  refine wp_aload_n dX3_init_39 rfl ?_
  refine wp_iload_n dX3_init_40 rfl ?_
  refine wp_iconst dX3_init_41 ?_
  refine wp_iadd dX3_init_42 ⟨by decide, by decide⟩ ?_
  refine wp_bipush dX3_init_43 ?_
  refine wp_iadd dX3_init_45 ⟨by decide, by decide⟩ ?_
  refine wp_callI (as := [_, _]) (ls0 := [_, _, _]) (kc := 0) (ks := 0) (bc' := 1) (bs' := 2) dX3_init_46 vX3_26 rfl rfl (Nat.le_of_ble_eq_true rfl) (Nat.le_of_ble_eq_true rfl) (by decide) (by decide) ?_
  refine wp_aload_n dX9_init_0 rfl ?_
  refine wp_obj dX9_init_1 oX9_5 (by omega) (Nat.le_of_ble_eq_true rfl) ?_
  refine wp_aload_n dX9_init_4 rfl ?_
  refine wp_aload_n dX9_init_5 rfl ?_
  refine wp_putRF dX9_init_6 gX9_11 rfl rfl ?_
  refine wp_aload_n dX9_init_9 rfl ?_
  refine wp_iload_n dX9_init_10 rfl ?_
  refine wp_putIF dX9_init_11 gX9_15 rfl rfl ?_
  refine wp_return dX9_init_14 rfl ?_
  refine wp_putRF dX3_init_49 gX3_33 rfl rfl ?_
  refine wp_aload_n dX3_init_52 rfl ?_
  refine wp_new (N := 2) dX3_init_53 wX3_5 rfl (by decide) ?_
  rw [zA (iv := (uI (uI (uI (uI IV8 56 0 (0)) 56 2 ((3) + ((0) * (71)))) 57 1 (((3) + ((0) * (71))) + (4))) 58 1 ((((3) + ((0) * (71))) + (4)) + (28)))) (fun _ => rfl), zA (iv := Z0) (fun _ => rfl), zQ (rv := (uP (uP (uP (uP (uP (uP (uP (uP (uP (uP RV8 51 3 (some 52)) 51 0 (some 11)) 53 1 (some 54)) 53 2 (some 55)) 53 0 (some 3)) 56 1 (some 54)) 57 0 (some 54)) 56 3 (some 57)) 58 0 (some 54)) 56 4 (some 58))) (fun _ => rfl)]
  show wp _ _ _ _ (aR 59 :: _) [(3, 11), (3, 10), (0, 240), (3, 7), (0, 5), (0, 24), (0, 16), (3, 8), (0, 5), (0, 24), (0, 16), (3, 4), (0, 429), (1, 6), (3, 3), (3, 9), (3, 9), (3, 2), (3, 3), (3, 9), (3, 9), (3, 2), (3, 3), (3, 9), (3, 9), (3, 2), (3, 3), (3, 9), (3, 9), (3, 2), (3, 3), (3, 9), (3, 9), (3, 2), (3, 3), (3, 9), (3, 9), (3, 2), (3, 1), (0, 16), (0, 4), (3, 0), (0, 160), (0, 6), (0, 6), (3, 6), (0, 300), (2, 40), (0, 40), (0, 429), (0, 180), (3, 5), (0, 6), (3, 4), (0, 429), (1, 6), (3, 3), (3, 9), (3, 9), (3, 2)] _ _ _ _ _ _
  refine wp_dup dX3_init_56 rfl ?_
  refine wp_aload_n dX3_init_57 rfl ?_
  refine wp_iload_n dX3_init_58 rfl ?_
  refine wp_iconst dX3_init_59 ?_
  refine wp_iadd dX3_init_60 ⟨by decide, by decide⟩ ?_
  refine wp_bipush dX3_init_61 ?_
  refine wp_iadd dX3_init_63 ⟨by decide, by decide⟩ ?_
  refine wp_callI (as := [_, _]) (ls0 := [_, _, _]) (kc := 0) (ks := 0) (bc' := 0) (bs' := 0) dX3_init_64 vX3_36 rfl rfl (Nat.le_of_ble_eq_true rfl) (Nat.le_of_ble_eq_true rfl) (by decide) (by decide) ?_
  refine wp_aload_n dX2_init_0 rfl ?_
  refine wp_obj dX2_init_1 oX2_5 (by omega) (Nat.le_of_ble_eq_true rfl) ?_
  refine wp_aload_n dX2_init_4 rfl ?_
  refine wp_aload_n dX2_init_5 rfl ?_
  refine wp_putRF dX2_init_6 gX2_11 rfl rfl ?_
  refine wp_aload_n dX2_init_9 rfl ?_
  refine wp_iload_n dX2_init_10 rfl ?_
  refine wp_putIF dX2_init_11 gX2_15 rfl rfl ?_
  refine wp_return dX2_init_14 rfl ?_
  refine wp_putRF dX3_init_67 gX3_37 rfl rfl ?_
  refine wp_return dX3_init_70 rfl ?_
  refine wp_aastL dX4_init_58 rfl rfl (by decide) (by decide) ?_
  refine wp_iinc (ls' := [_, _, _]) dX4_init_59 (by decide) rfl rfl ⟨by decide, by decide⟩ rfl ?_
  refine wp_goto (tgt := 29) dX4_init_62 rfl ?_
  refine wp_iload_n dX4_init_29 rfl ?_
  refine wp_bipush dX4_init_30 ?_
  refine wp_icmp_ge (tgt := 65) dX4_init_32 rfl (fun q => absurd q (by decide)) (fun _ => ?_)
  refine wp_aload_n dX4_init_35 rfl ?_
  refine wp_getR (show (uP (uP (uP (uP (uP (uP (uP (uP (uP (uP (uP (uP (uP RV8 51 3 (some 52)) 51 0 (some 11)) 53 1 (some 54)) 53 2 (some 55)) 53 0 (some 3)) 56 1 (some 54)) 57 0 (some 54)) 56 3 (some 57)) 58 0 (some 54)) 56 4 (some 58)) 59 0 (some 54)) 56 5 (some 59)) 55 (0) (some 56)) 53 2 = some 55 from rfl) dX4_init_36 fX4_17 rfl ?_
  refine wp_iload_n dX4_init_39 rfl ?_
  refine wp_new (N := 6) dX4_init_40 wX4_3 rfl (by decide) ?_
  rw [zA (iv := (uI (uI (uI (uI (uI IV8 56 0 (0)) 56 2 ((3) + ((0) * (71)))) 57 1 (((3) + ((0) * (71))) + (4))) 58 1 ((((3) + ((0) * (71))) + (4)) + (28))) 59 1 ((((3) + ((0) * (71))) + (4)) + (56)))) (fun _ => rfl), zA (iv := Z0) (fun _ => rfl), zQ (rv := (uP (uP (uP (uP (uP (uP (uP (uP (uP (uP (uP (uP (uP RV8 51 3 (some 52)) 51 0 (some 11)) 53 1 (some 54)) 53 2 (some 55)) 53 0 (some 3)) 56 1 (some 54)) 57 0 (some 54)) 56 3 (some 57)) 58 0 (some 54)) 56 4 (some 58)) 59 0 (some 54)) 56 5 (some 59)) 55 (0) (some 56))) (fun _ => rfl)]
  show wp _ _ _ _ (aR 60 :: _) [(3, 11), (3, 10), (0, 240), (3, 7), (0, 5), (0, 24), (0, 16), (3, 8), (0, 5), (0, 24), (0, 16), (3, 4), (0, 429), (1, 6), (3, 3), (3, 9), (3, 9), (3, 2), (3, 3), (3, 9), (3, 9), (3, 2), (3, 3), (3, 9), (3, 9), (3, 2), (3, 3), (3, 9), (3, 9), (3, 2), (3, 3), (3, 9), (3, 9), (3, 2), (3, 3), (3, 9), (3, 9), (3, 2), (3, 1), (0, 16), (0, 4), (3, 0), (0, 160), (0, 6), (0, 6), (3, 6), (0, 300), (2, 40), (0, 40), (0, 429), (0, 180), (3, 5), (0, 6), (3, 4), (0, 429), (1, 6), (3, 3), (3, 9), (3, 9), (3, 2), (3, 3)] _ _ _ _ _ _
  refine wp_dup dX4_init_43 rfl ?_
  refine wp_iload_n dX4_init_44 rfl ?_
  refine wp_aload_n dX4_init_45 rfl ?_
  refine wp_getR (show (uP (uP (uP (uP (uP (uP (uP (uP (uP (uP (uP (uP (uP RV8 51 3 (some 52)) 51 0 (some 11)) 53 1 (some 54)) 53 2 (some 55)) 53 0 (some 3)) 56 1 (some 54)) 57 0 (some 54)) 56 3 (some 57)) 58 0 (some 54)) 56 4 (some 58)) 59 0 (some 54)) 56 5 (some 59)) 55 (0) (some 56)) 53 1 = some 54 from rfl) dX4_init_46 fX4_13 rfl ?_
  refine wp_iconst dX4_init_49 ?_
  refine wp_iload_n dX4_init_50 rfl ?_
  refine wp_bipush dX4_init_51 ?_
  refine wp_imul dX4_init_53 ⟨by decide, by decide⟩ ?_
  refine wp_iadd dX4_init_54 ⟨by decide, by decide⟩ ?_
  refine wp_callI (as := [_, _, _]) (ls0 := [_, _, _, _]) (kc := 3) (ks := 6) (bc' := 16) (bs' := 48) dX4_init_55 vX4_25 rfl rfl (Nat.le_of_ble_eq_true rfl) (Nat.le_of_ble_eq_true rfl) (by decide) (by decide) ?_
  refine wp_aload_n dX3_init_0 rfl ?_
  refine wp_obj dX3_init_1 oX3_9 (by omega) (Nat.le_of_ble_eq_true rfl) ?_
  refine wp_aload_n dX3_init_4 rfl ?_
  refine wp_iload_n dX3_init_5 rfl ?_
  refine wp_putIF dX3_init_6 gX3_15 rfl rfl ?_
  refine wp_aload_n dX3_init_9 rfl ?_
  refine wp_aload_n dX3_init_10 rfl ?_
  refine wp_putRF dX3_init_11 gX3_19 rfl rfl ?_
  refine wp_aload_n dX3_init_14 rfl ?_
  refine wp_iload_n dX3_init_15 rfl ?_
  refine wp_putIF dX3_init_16 gX3_23 rfl rfl ?_
  refine wp_aload_n dX3_init_19 rfl ?_
  refine wp_new (N := 2) dX3_init_20 wX3_3 rfl (by decide) ?_
  rw [zA (iv := (uI (uI (uI (uI (uI (uI (uI IV8 56 0 (0)) 56 2 ((3) + ((0) * (71)))) 57 1 (((3) + ((0) * (71))) + (4))) 58 1 ((((3) + ((0) * (71))) + (4)) + (28))) 59 1 ((((3) + ((0) * (71))) + (4)) + (56))) 60 0 (0 + 1)) 60 2 ((3) + ((0 + 1) * (71))))) (fun _ => rfl), zA (iv := Z0) (fun _ => rfl), zQ (rv := (uP (uP (uP (uP (uP (uP (uP (uP (uP (uP (uP (uP (uP (uP RV8 51 3 (some 52)) 51 0 (some 11)) 53 1 (some 54)) 53 2 (some 55)) 53 0 (some 3)) 56 1 (some 54)) 57 0 (some 54)) 56 3 (some 57)) 58 0 (some 54)) 56 4 (some 58)) 59 0 (some 54)) 56 5 (some 59)) 55 (0) (some 56)) 60 1 (some 54))) (fun _ => rfl)]
  show wp _ _ _ _ (aR 61 :: _) [(3, 11), (3, 10), (0, 240), (3, 7), (0, 5), (0, 24), (0, 16), (3, 8), (0, 5), (0, 24), (0, 16), (3, 4), (0, 429), (1, 6), (3, 3), (3, 9), (3, 9), (3, 2), (3, 3), (3, 9), (3, 9), (3, 2), (3, 3), (3, 9), (3, 9), (3, 2), (3, 3), (3, 9), (3, 9), (3, 2), (3, 3), (3, 9), (3, 9), (3, 2), (3, 3), (3, 9), (3, 9), (3, 2), (3, 1), (0, 16), (0, 4), (3, 0), (0, 160), (0, 6), (0, 6), (3, 6), (0, 300), (2, 40), (0, 40), (0, 429), (0, 180), (3, 5), (0, 6), (3, 4), (0, 429), (1, 6), (3, 3), (3, 9), (3, 9), (3, 2), (3, 3), (3, 9)] _ _ _ _ _ _
  refine wp_dup dX3_init_23 rfl ?_
  refine wp_aload_n dX3_init_24 rfl ?_
  refine wp_iload_n dX3_init_25 rfl ?_
  refine wp_iconst dX3_init_26 ?_
  refine wp_iadd dX3_init_27 ⟨by decide, by decide⟩ ?_
  refine wp_callI (as := [_, _]) (ls0 := [_, _, _]) (kc := 0) (ks := 0) (bc' := 2) (bs' := 4) dX3_init_28 vX3_26 rfl rfl (Nat.le_of_ble_eq_true rfl) (Nat.le_of_ble_eq_true rfl) (by decide) (by decide) ?_
  refine wp_aload_n dX9_init_0 rfl ?_
  refine wp_obj dX9_init_1 oX9_5 (by omega) (Nat.le_of_ble_eq_true rfl) ?_
  refine wp_aload_n dX9_init_4 rfl ?_
  refine wp_aload_n dX9_init_5 rfl ?_
  refine wp_putRF dX9_init_6 gX9_11 rfl rfl ?_
  refine wp_aload_n dX9_init_9 rfl ?_
  refine wp_iload_n dX9_init_10 rfl ?_
  refine wp_putIF dX9_init_11 gX9_15 rfl rfl ?_
  refine wp_return dX9_init_14 rfl ?_
  refine wp_putRF dX3_init_31 gX3_29 rfl rfl ?_
  refine wp_aload_n dX3_init_34 rfl ?_
  refine wp_new (N := 2) dX3_init_35 wX3_3 rfl (by decide) ?_
  rw [zA (iv := (uI (uI (uI (uI (uI (uI (uI (uI IV8 56 0 (0)) 56 2 ((3) + ((0) * (71)))) 57 1 (((3) + ((0) * (71))) + (4))) 58 1 ((((3) + ((0) * (71))) + (4)) + (28))) 59 1 ((((3) + ((0) * (71))) + (4)) + (56))) 60 0 (0 + 1)) 60 2 ((3) + ((0 + 1) * (71)))) 61 1 (((3) + ((0 + 1) * (71))) + (4)))) (fun _ => rfl), zA (iv := Z0) (fun _ => rfl), zQ (rv := (uP (uP (uP (uP (uP (uP (uP (uP (uP (uP (uP (uP (uP (uP (uP (uP RV8 51 3 (some 52)) 51 0 (some 11)) 53 1 (some 54)) 53 2 (some 55)) 53 0 (some 3)) 56 1 (some 54)) 57 0 (some 54)) 56 3 (some 57)) 58 0 (some 54)) 56 4 (some 58)) 59 0 (some 54)) 56 5 (some 59)) 55 (0) (some 56)) 60 1 (some 54)) 61 0 (some 54)) 60 3 (some 61))) (fun _ => rfl)]
  show wp _ _ _ _ (aR 62 :: _) [(3, 11), (3, 10), (0, 240), (3, 7), (0, 5), (0, 24), (0, 16), (3, 8), (0, 5), (0, 24), (0, 16), (3, 4), (0, 429), (1, 6), (3, 3), (3, 9), (3, 9), (3, 2), (3, 3), (3, 9), (3, 9), (3, 2), (3, 3), (3, 9), (3, 9), (3, 2), (3, 3), (3, 9), (3, 9), (3, 2), (3, 3), (3, 9), (3, 9), (3, 2), (3, 3), (3, 9), (3, 9), (3, 2), (3, 1), (0, 16), (0, 4), (3, 0), (0, 160), (0, 6), (0, 6), (3, 6), (0, 300), (2, 40), (0, 40), (0, 429), (0, 180), (3, 5), (0, 6), (3, 4), (0, 429), (1, 6), (3, 3), (3, 9), (3, 9), (3, 2), (3, 3), (3, 9), (3, 9)] _ _ _ _ _ _
  refine wp_dup dX3_init_38 rfl ?_
  refine wp_aload_n dX3_init_39 rfl ?_
  refine wp_iload_n dX3_init_40 rfl ?_
  refine wp_iconst dX3_init_41 ?_
  refine wp_iadd dX3_init_42 ⟨by decide, by decide⟩ ?_
  refine wp_bipush dX3_init_43 ?_
  refine wp_iadd dX3_init_45 ⟨by decide, by decide⟩ ?_
  refine wp_callI (as := [_, _]) (ls0 := [_, _, _]) (kc := 0) (ks := 0) (bc' := 1) (bs' := 2) dX3_init_46 vX3_26 rfl rfl (Nat.le_of_ble_eq_true rfl) (Nat.le_of_ble_eq_true rfl) (by decide) (by decide) ?_
  refine wp_aload_n dX9_init_0 rfl ?_
  refine wp_obj dX9_init_1 oX9_5 (by omega) (Nat.le_of_ble_eq_true rfl) ?_
  refine wp_aload_n dX9_init_4 rfl ?_
  refine wp_aload_n dX9_init_5 rfl ?_
  refine wp_putRF dX9_init_6 gX9_11 rfl rfl ?_
  refine wp_aload_n dX9_init_9 rfl ?_
  refine wp_iload_n dX9_init_10 rfl ?_
  refine wp_putIF dX9_init_11 gX9_15 rfl rfl ?_
  refine wp_return dX9_init_14 rfl ?_
  refine wp_putRF dX3_init_49 gX3_33 rfl rfl ?_
  refine wp_aload_n dX3_init_52 rfl ?_
  refine wp_new (N := 2) dX3_init_53 wX3_5 rfl (by decide) ?_
  rw [zA (iv := (uI (uI (uI (uI (uI (uI (uI (uI (uI IV8 56 0 (0)) 56 2 ((3) + ((0) * (71)))) 57 1 (((3) + ((0) * (71))) + (4))) 58 1 ((((3) + ((0) * (71))) + (4)) + (28))) 59 1 ((((3) + ((0) * (71))) + (4)) + (56))) 60 0 (0 + 1)) 60 2 ((3) + ((0 + 1) * (71)))) 61 1 (((3) + ((0 + 1) * (71))) + (4))) 62 1 ((((3) + ((0 + 1) * (71))) + (4)) + (28)))) (fun _ => rfl), zA (iv := Z0) (fun _ => rfl), zQ (rv := (uP (uP (uP (uP (uP (uP (uP (uP (uP (uP (uP (uP (uP (uP (uP (uP (uP (uP RV8 51 3 (some 52)) 51 0 (some 11)) 53 1 (some 54)) 53 2 (some 55)) 53 0 (some 3)) 56 1 (some 54)) 57 0 (some 54)) 56 3 (some 57)) 58 0 (some 54)) 56 4 (some 58)) 59 0 (some 54)) 56 5 (some 59)) 55 (0) (some 56)) 60 1 (some 54)) 61 0 (some 54)) 60 3 (some 61)) 62 0 (some 54)) 60 4 (some 62))) (fun _ => rfl)]
  show wp _ _ _ _ (aR 63 :: _) [(3, 11), (3, 10), (0, 240), (3, 7), (0, 5), (0, 24), (0, 16), (3, 8), (0, 5), (0, 24), (0, 16), (3, 4), (0, 429), (1, 6), (3, 3), (3, 9), (3, 9), (3, 2), (3, 3), (3, 9), (3, 9), (3, 2), (3, 3), (3, 9), (3, 9), (3, 2), (3, 3), (3, 9), (3, 9), (3, 2), (3, 3), (3, 9), (3, 9), (3, 2), (3, 3), (3, 9), (3, 9), (3, 2), (3, 1), (0, 16), (0, 4), (3, 0), (0, 160), (0, 6), (0, 6), (3, 6), (0, 300), (2, 40), (0, 40), (0, 429), (0, 180), (3, 5), (0, 6), (3, 4), (0, 429), (1, 6), (3, 3), (3, 9), (3, 9), (3, 2), (3, 3), (3, 9), (3, 9), (3, 2)] _ _ _ _ _ _
  refine wp_dup dX3_init_56 rfl ?_
  refine wp_aload_n dX3_init_57 rfl ?_
  refine wp_iload_n dX3_init_58 rfl ?_
  refine wp_iconst dX3_init_59 ?_
  refine wp_iadd dX3_init_60 ⟨by decide, by decide⟩ ?_
  refine wp_bipush dX3_init_61 ?_
  refine wp_iadd dX3_init_63 ⟨by decide, by decide⟩ ?_
  refine wp_callI (as := [_, _]) (ls0 := [_, _, _]) (kc := 0) (ks := 0) (bc' := 0) (bs' := 0) dX3_init_64 vX3_36 rfl rfl (Nat.le_of_ble_eq_true rfl) (Nat.le_of_ble_eq_true rfl) (by decide) (by decide) ?_
  refine wp_aload_n dX2_init_0 rfl ?_
  refine wp_obj dX2_init_1 oX2_5 (by omega) (Nat.le_of_ble_eq_true rfl) ?_
  refine wp_aload_n dX2_init_4 rfl ?_
  refine wp_aload_n dX2_init_5 rfl ?_
  refine wp_putRF dX2_init_6 gX2_11 rfl rfl ?_
  refine wp_aload_n dX2_init_9 rfl ?_
  refine wp_iload_n dX2_init_10 rfl ?_
  refine wp_putIF dX2_init_11 gX2_15 rfl rfl ?_
  refine wp_return dX2_init_14 rfl ?_
  refine wp_putRF dX3_init_67 gX3_37 rfl rfl ?_
  refine wp_return dX3_init_70 rfl ?_
  refine wp_aastL dX4_init_58 rfl rfl (by decide) (by decide) ?_
  refine wp_iinc (ls' := [_, _, _]) dX4_init_59 (by decide) rfl rfl ⟨by decide, by decide⟩ rfl ?_
  refine wp_goto (tgt := 29) dX4_init_62 rfl ?_
  refine wp_iload_n dX4_init_29 rfl ?_
  refine wp_bipush dX4_init_30 ?_
  refine wp_icmp_ge (tgt := 65) dX4_init_32 rfl (fun q => absurd q (by decide)) (fun _ => ?_)
  refine wp_aload_n dX4_init_35 rfl ?_
  refine wp_getR (show (uP (uP (uP (uP (uP (uP (uP (uP (uP (uP (uP (uP (uP (uP (uP (uP (uP (uP (uP (uP (uP RV8 51 3 (some 52)) 51 0 (some 11)) 53 1 (some 54)) 53 2 (some 55)) 53 0 (some 3)) 56 1 (some 54)) 57 0 (some 54)) 56 3 (some 57)) 58 0 (some 54)) 56 4 (some 58)) 59 0 (some 54)) 56 5 (some 59)) 55 (0) (some 56)) 60 1 (some 54)) 61 0 (some 54)) 60 3 (some 61)) 62 0 (some 54)) 60 4 (some 62)) 63 0 (some 54)) 60 5 (some 63)) 55 (0 + 1) (some 60)) 53 2 = some 55 from rfl) dX4_init_36 fX4_17 rfl ?_
  refine wp_iload_n dX4_init_39 rfl ?_
  refine wp_new (N := 6) dX4_init_40 wX4_3 rfl (by decide) ?_
  rw [zA (iv := (uI (uI (uI (uI (uI (uI (uI (uI (uI (uI IV8 56 0 (0)) 56 2 ((3) + ((0) * (71)))) 57 1 (((3) + ((0) * (71))) + (4))) 58 1 ((((3) + ((0) * (71))) + (4)) + (28))) 59 1 ((((3) + ((0) * (71))) + (4)) + (56))) 60 0 (0 + 1)) 60 2 ((3) + ((0 + 1) * (71)))) 61 1 (((3) + ((0 + 1) * (71))) + (4))) 62 1 ((((3) + ((0 + 1) * (71))) + (4)) + (28))) 63 1 ((((3) + ((0 + 1) * (71))) + (4)) + (56)))) (fun _ => rfl), zA (iv := Z0) (fun _ => rfl), zQ (rv := (uP (uP (uP (uP (uP (uP (uP (uP (uP (uP (uP (uP (uP (uP (uP (uP (uP (uP (uP (uP (uP RV8 51 3 (some 52)) 51 0 (some 11)) 53 1 (some 54)) 53 2 (some 55)) 53 0 (some 3)) 56 1 (some 54)) 57 0 (some 54)) 56 3 (some 57)) 58 0 (some 54)) 56 4 (some 58)) 59 0 (some 54)) 56 5 (some 59)) 55 (0) (some 56)) 60 1 (some 54)) 61 0 (some 54)) 60 3 (some 61)) 62 0 (some 54)) 60 4 (some 62)) 63 0 (some 54)) 60 5 (some 63)) 55 (0 + 1) (some 60))) (fun _ => rfl)]
  show wp _ _ _ _ (aR 64 :: _) [(3, 11), (3, 10), (0, 240), (3, 7), (0, 5), (0, 24), (0, 16), (3, 8), (0, 5), (0, 24), (0, 16), (3, 4), (0, 429), (1, 6), (3, 3), (3, 9), (3, 9), (3, 2), (3, 3), (3, 9), (3, 9), (3, 2), (3, 3), (3, 9), (3, 9), (3, 2), (3, 3), (3, 9), (3, 9), (3, 2), (3, 3), (3, 9), (3, 9), (3, 2), (3, 3), (3, 9), (3, 9), (3, 2), (3, 1), (0, 16), (0, 4), (3, 0), (0, 160), (0, 6), (0, 6), (3, 6), (0, 300), (2, 40), (0, 40), (0, 429), (0, 180), (3, 5), (0, 6), (3, 4), (0, 429), (1, 6), (3, 3), (3, 9), (3, 9), (3, 2), (3, 3), (3, 9), (3, 9), (3, 2), (3, 3)] _ _ _ _ _ _
  refine wp_dup dX4_init_43 rfl ?_
  refine wp_iload_n dX4_init_44 rfl ?_
  refine wp_aload_n dX4_init_45 rfl ?_
  refine wp_getR (show (uP (uP (uP (uP (uP (uP (uP (uP (uP (uP (uP (uP (uP (uP (uP (uP (uP (uP (uP (uP (uP RV8 51 3 (some 52)) 51 0 (some 11)) 53 1 (some 54)) 53 2 (some 55)) 53 0 (some 3)) 56 1 (some 54)) 57 0 (some 54)) 56 3 (some 57)) 58 0 (some 54)) 56 4 (some 58)) 59 0 (some 54)) 56 5 (some 59)) 55 (0) (some 56)) 60 1 (some 54)) 61 0 (some 54)) 60 3 (some 61)) 62 0 (some 54)) 60 4 (some 62)) 63 0 (some 54)) 60 5 (some 63)) 55 (0 + 1) (some 60)) 53 1 = some 54 from rfl) dX4_init_46 fX4_13 rfl ?_
  refine wp_iconst dX4_init_49 ?_
  refine wp_iload_n dX4_init_50 rfl ?_
  refine wp_bipush dX4_init_51 ?_
  refine wp_imul dX4_init_53 ⟨by decide, by decide⟩ ?_
  refine wp_iadd dX4_init_54 ⟨by decide, by decide⟩ ?_
  refine wp_callI (as := [_, _, _]) (ls0 := [_, _, _, _]) (kc := 3) (ks := 6) (bc' := 12) (bs' := 36) dX4_init_55 vX4_25 rfl rfl (Nat.le_of_ble_eq_true rfl) (Nat.le_of_ble_eq_true rfl) (by decide) (by decide) ?_
  refine wp_aload_n dX3_init_0 rfl ?_
  refine wp_obj dX3_init_1 oX3_9 (by omega) (Nat.le_of_ble_eq_true rfl) ?_
  refine wp_aload_n dX3_init_4 rfl ?_
  refine wp_iload_n dX3_init_5 rfl ?_
  refine wp_putIF dX3_init_6 gX3_15 rfl rfl ?_
  refine wp_aload_n dX3_init_9 rfl ?_
  refine wp_aload_n dX3_init_10 rfl ?_
  refine wp_putRF dX3_init_11 gX3_19 rfl rfl ?_
  refine wp_aload_n dX3_init_14 rfl ?_
  refine wp_iload_n dX3_init_15 rfl ?_
  refine wp_putIF dX3_init_16 gX3_23 rfl rfl ?_
  refine wp_aload_n dX3_init_19 rfl ?_
  refine wp_new (N := 2) dX3_init_20 wX3_3 rfl (by decide) ?_
  rw [zA (iv := (uI (uI (uI (uI (uI (uI (uI (uI (uI (uI (uI (uI IV8 56 0 (0)) 56 2 ((3) + ((0) * (71)))) 57 1 (((3) + ((0) * (71))) + (4))) 58 1 ((((3) + ((0) * (71))) + (4)) + (28))) 59 1 ((((3) + ((0) * (71))) + (4)) + (56))) 60 0 (0 + 1)) 60 2 ((3) + ((0 + 1) * (71)))) 61 1 (((3) + ((0 + 1) * (71))) + (4))) 62 1 ((((3) + ((0 + 1) * (71))) + (4)) + (28))) 63 1 ((((3) + ((0 + 1) * (71))) + (4)) + (56))) 64 0 (0 + 1 + 1)) 64 2 ((3) + ((0 + 1 + 1) * (71))))) (fun _ => rfl), zA (iv := Z0) (fun _ => rfl), zQ (rv := (uP (uP (uP (uP (uP (uP (uP (uP (uP (uP (uP (uP (uP (uP (uP (uP (uP (uP (uP (uP (uP (uP RV8 51 3 (some 52)) 51 0 (some 11)) 53 1 (some 54)) 53 2 (some 55)) 53 0 (some 3)) 56 1 (some 54)) 57 0 (some 54)) 56 3 (some 57)) 58 0 (some 54)) 56 4 (some 58)) 59 0 (some 54)) 56 5 (some 59)) 55 (0) (some 56)) 60 1 (some 54)) 61 0 (some 54)) 60 3 (some 61)) 62 0 (some 54)) 60 4 (some 62)) 63 0 (some 54)) 60 5 (some 63)) 55 (0 + 1) (some 60)) 64 1 (some 54))) (fun _ => rfl)]
  show wp _ _ _ _ (aR 65 :: _) [(3, 11), (3, 10), (0, 240), (3, 7), (0, 5), (0, 24), (0, 16), (3, 8), (0, 5), (0, 24), (0, 16), (3, 4), (0, 429), (1, 6), (3, 3), (3, 9), (3, 9), (3, 2), (3, 3), (3, 9), (3, 9), (3, 2), (3, 3), (3, 9), (3, 9), (3, 2), (3, 3), (3, 9), (3, 9), (3, 2), (3, 3), (3, 9), (3, 9), (3, 2), (3, 3), (3, 9), (3, 9), (3, 2), (3, 1), (0, 16), (0, 4), (3, 0), (0, 160), (0, 6), (0, 6), (3, 6), (0, 300), (2, 40), (0, 40), (0, 429), (0, 180), (3, 5), (0, 6), (3, 4), (0, 429), (1, 6), (3, 3), (3, 9), (3, 9), (3, 2), (3, 3), (3, 9), (3, 9), (3, 2), (3, 3), (3, 9)] _ _ _ _ _ _
  refine wp_dup dX3_init_23 rfl ?_
  refine wp_aload_n dX3_init_24 rfl ?_
  refine wp_iload_n dX3_init_25 rfl ?_
  refine wp_iconst dX3_init_26 ?_
  refine wp_iadd dX3_init_27 ⟨by decide, by decide⟩ ?_
  refine wp_callI (as := [_, _]) (ls0 := [_, _, _]) (kc := 0) (ks := 0) (bc' := 2) (bs' := 4) dX3_init_28 vX3_26 rfl rfl (Nat.le_of_ble_eq_true rfl) (Nat.le_of_ble_eq_true rfl) (by decide) (by decide) ?_
  refine wp_aload_n dX9_init_0 rfl ?_
  refine wp_obj dX9_init_1 oX9_5 (by omega) (Nat.le_of_ble_eq_true rfl) ?_
  refine wp_aload_n dX9_init_4 rfl ?_
  refine wp_aload_n dX9_init_5 rfl ?_
  refine wp_putRF dX9_init_6 gX9_11 rfl rfl ?_
  refine wp_aload_n dX9_init_9 rfl ?_
  refine wp_iload_n dX9_init_10 rfl ?_
  refine wp_putIF dX9_init_11 gX9_15 rfl rfl ?_
  refine wp_return dX9_init_14 rfl ?_
  refine wp_putRF dX3_init_31 gX3_29 rfl rfl ?_
  refine wp_aload_n dX3_init_34 rfl ?_
  refine wp_new (N := 2) dX3_init_35 wX3_3 rfl (by decide) ?_
  rw [zA (iv := (uI (uI (uI (uI (uI (uI (uI (uI (uI (uI (uI (uI (uI IV8 56 0 (0)) 56 2 ((3) + ((0) * (71)))) 57 1 (((3) + ((0) * (71))) + (4))) 58 1 ((((3) + ((0) * (71))) + (4)) + (28))) 59 1 ((((3) + ((0) * (71))) + (4)) + (56))) 60 0 (0 + 1)) 60 2 ((3) + ((0 + 1) * (71)))) 61 1 (((3) + ((0 + 1) * (71))) + (4))) 62 1 ((((3) + ((0 + 1) * (71))) + (4)) + (28))) 63 1 ((((3) + ((0 + 1) * (71))) + (4)) + (56))) 64 0 (0 + 1 + 1)) 64 2 ((3) + ((0 + 1 + 1) * (71)))) 65 1 (((3) + ((0 + 1 + 1) * (71))) + (4)))) (fun _ => rfl), zA (iv := Z0) (fun _ => rfl), zQ (rv := (uP (uP (uP (uP (uP (uP (uP (uP (uP (uP (uP (uP (uP (uP (uP (uP (uP (uP (uP (uP (uP (uP (uP (uP RV8 51 3 (some 52)) 51 0 (some 11)) 53 1 (some 54)) 53 2 (some 55)) 53 0 (some 3)) 56 1 (some 54)) 57 0 (some 54)) 56 3 (some 57)) 58 0 (some 54)) 56 4 (some 58)) 59 0 (some 54)) 56 5 (some 59)) 55 (0) (some 56)) 60 1 (some 54)) 61 0 (some 54)) 60 3 (some 61)) 62 0 (some 54)) 60 4 (some 62)) 63 0 (some 54)) 60 5 (some 63)) 55 (0 + 1) (some 60)) 64 1 (some 54)) 65 0 (some 54)) 64 3 (some 65))) (fun _ => rfl)]
  show wp _ _ _ _ (aR 66 :: _) [(3, 11), (3, 10), (0, 240), (3, 7), (0, 5), (0, 24), (0, 16), (3, 8), (0, 5), (0, 24), (0, 16), (3, 4), (0, 429), (1, 6), (3, 3), (3, 9), (3, 9), (3, 2), (3, 3), (3, 9), (3, 9), (3, 2), (3, 3), (3, 9), (3, 9), (3, 2), (3, 3), (3, 9), (3, 9), (3, 2), (3, 3), (3, 9), (3, 9), (3, 2), (3, 3), (3, 9), (3, 9), (3, 2), (3, 1), (0, 16), (0, 4), (3, 0), (0, 160), (0, 6), (0, 6), (3, 6), (0, 300), (2, 40), (0, 40), (0, 429), (0, 180), (3, 5), (0, 6), (3, 4), (0, 429), (1, 6), (3, 3), (3, 9), (3, 9), (3, 2), (3, 3), (3, 9), (3, 9), (3, 2), (3, 3), (3, 9), (3, 9)] _ _ _ _ _ _
  refine wp_dup dX3_init_38 rfl ?_
  refine wp_aload_n dX3_init_39 rfl ?_
  refine wp_iload_n dX3_init_40 rfl ?_
  refine wp_iconst dX3_init_41 ?_
  refine wp_iadd dX3_init_42 ⟨by decide, by decide⟩ ?_
  refine wp_bipush dX3_init_43 ?_
  refine wp_iadd dX3_init_45 ⟨by decide, by decide⟩ ?_
  refine wp_callI (as := [_, _]) (ls0 := [_, _, _]) (kc := 0) (ks := 0) (bc' := 1) (bs' := 2) dX3_init_46 vX3_26 rfl rfl (Nat.le_of_ble_eq_true rfl) (Nat.le_of_ble_eq_true rfl) (by decide) (by decide) ?_
  refine wp_aload_n dX9_init_0 rfl ?_
  refine wp_obj dX9_init_1 oX9_5 (by omega) (Nat.le_of_ble_eq_true rfl) ?_
  refine wp_aload_n dX9_init_4 rfl ?_
  refine wp_aload_n dX9_init_5 rfl ?_
  refine wp_putRF dX9_init_6 gX9_11 rfl rfl ?_
  refine wp_aload_n dX9_init_9 rfl ?_
  refine wp_iload_n dX9_init_10 rfl ?_
  refine wp_putIF dX9_init_11 gX9_15 rfl rfl ?_
  refine wp_return dX9_init_14 rfl ?_
  refine wp_putRF dX3_init_49 gX3_33 rfl rfl ?_
  refine wp_aload_n dX3_init_52 rfl ?_
  refine wp_new (N := 2) dX3_init_53 wX3_5 rfl (by decide) ?_
  rw [zA (iv := (uI (uI (uI (uI (uI (uI (uI (uI (uI (uI (uI (uI (uI (uI IV8 56 0 (0)) 56 2 ((3) + ((0) * (71)))) 57 1 (((3) + ((0) * (71))) + (4))) 58 1 ((((3) + ((0) * (71))) + (4)) + (28))) 59 1 ((((3) + ((0) * (71))) + (4)) + (56))) 60 0 (0 + 1)) 60 2 ((3) + ((0 + 1) * (71)))) 61 1 (((3) + ((0 + 1) * (71))) + (4))) 62 1 ((((3) + ((0 + 1) * (71))) + (4)) + (28))) 63 1 ((((3) + ((0 + 1) * (71))) + (4)) + (56))) 64 0 (0 + 1 + 1)) 64 2 ((3) + ((0 + 1 + 1) * (71)))) 65 1 (((3) + ((0 + 1 + 1) * (71))) + (4))) 66 1 ((((3) + ((0 + 1 + 1) * (71))) + (4)) + (28)))) (fun _ => rfl), zA (iv := Z0) (fun _ => rfl), zQ (rv := (uP (uP (uP (uP (uP (uP (uP (uP (uP (uP (uP (uP (uP (uP (uP (uP (uP (uP (uP (uP (uP (uP (uP (uP (uP (uP RV8 51 3 (some 52)) 51 0 (some 11)) 53 1 (some 54)) 53 2 (some 55)) 53 0 (some 3)) 56 1 (some 54)) 57 0 (some 54)) 56 3 (some 57)) 58 0 (some 54)) 56 4 (some 58)) 59 0 (some 54)) 56 5 (some 59)) 55 (0) (some 56)) 60 1 (some 54)) 61 0 (some 54)) 60 3 (some 61)) 62 0 (some 54)) 60 4 (some 62)) 63 0 (some 54)) 60 5 (some 63)) 55 (0 + 1) (some 60)) 64 1 (some 54)) 65 0 (some 54)) 64 3 (some 65)) 66 0 (some 54)) 64 4 (some 66))) (fun _ => rfl)]
  show wp _ _ _ _ (aR 67 :: _) [(3, 11), (3, 10), (0, 240), (3, 7), (0, 5), (0, 24), (0, 16), (3, 8), (0, 5), (0, 24), (0, 16), (3, 4), (0, 429), (1, 6), (3, 3), (3, 9), (3, 9), (3, 2), (3, 3), (3, 9), (3, 9), (3, 2), (3, 3), (3, 9), (3, 9), (3, 2), (3, 3), (3, 9), (3, 9), (3, 2), (3, 3), (3, 9), (3, 9), (3, 2), (3, 3), (3, 9), (3, 9), (3, 2), (3, 1), (0, 16), (0, 4), (3, 0), (0, 160), (0, 6), (0, 6), (3, 6), (0, 300), (2, 40), (0, 40), (0, 429), (0, 180), (3, 5), (0, 6), (3, 4), (0, 429), (1, 6), (3, 3), (3, 9), (3, 9), (3, 2), (3, 3), (3, 9), (3, 9), (3, 2), (3, 3), (3, 9), (3, 9), (3, 2)] _ _ _ _ _ _
  refine wp_dup dX3_init_56 rfl ?_
  refine wp_aload_n dX3_init_57 rfl ?_
  refine wp_iload_n dX3_init_58 rfl ?_
  refine wp_iconst dX3_init_59 ?_
  refine wp_iadd dX3_init_60 ⟨by decide, by decide⟩ ?_
  refine wp_bipush dX3_init_61 ?_
  refine wp_iadd dX3_init_63 ⟨by decide, by decide⟩ ?_
  refine wp_callI (as := [_, _]) (ls0 := [_, _, _]) (kc := 0) (ks := 0) (bc' := 0) (bs' := 0) dX3_init_64 vX3_36 rfl rfl (Nat.le_of_ble_eq_true rfl) (Nat.le_of_ble_eq_true rfl) (by decide) (by decide) ?_
  refine wp_aload_n dX2_init_0 rfl ?_
  refine wp_obj dX2_init_1 oX2_5 (by omega) (Nat.le_of_ble_eq_true rfl) ?_
  refine wp_aload_n dX2_init_4 rfl ?_
  refine wp_aload_n dX2_init_5 rfl ?_
  refine wp_putRF dX2_init_6 gX2_11 rfl rfl ?_
  refine wp_aload_n dX2_init_9 rfl ?_
  refine wp_iload_n dX2_init_10 rfl ?_
  refine wp_putIF dX2_init_11 gX2_15 rfl rfl ?_
  refine wp_return dX2_init_14 rfl ?_
  refine wp_putRF dX3_init_67 gX3_37 rfl rfl ?_
  refine wp_return dX3_init_70 rfl ?_
  refine wp_aastL dX4_init_58 rfl rfl (by decide) (by decide) ?_
  refine wp_iinc (ls' := [_, _, _]) dX4_init_59 (by decide) rfl rfl ⟨by decide, by decide⟩ rfl ?_
  refine wp_goto (tgt := 29) dX4_init_62 rfl ?_
  refine wp_iload_n dX4_init_29 rfl ?_
  refine wp_bipush dX4_init_30 ?_
  refine wp_icmp_ge (tgt := 65) dX4_init_32 rfl (fun q => absurd q (by decide)) (fun _ => ?_)
  refine wp_aload_n dX4_init_35 rfl ?_
  refine wp_getR (show (uP (uP (uP (uP (uP (uP (uP (uP (uP (uP (uP (uP (uP (uP (uP (uP (uP (uP (uP (uP (uP (uP (uP (uP (uP (uP (uP (uP (uP RV8 51 3 (some 52)) 51 0 (some 11)) 53 1 (some 54)) 53 2 (some 55)) 53 0 (some 3)) 56 1 (some 54)) 57 0 (some 54)) 56 3 (some 57)) 58 0 (some 54)) 56 4 (some 58)) 59 0 (some 54)) 56 5 (some 59)) 55 (0) (some 56)) 60 1 (some 54)) 61 0 (some 54)) 60 3 (some 61)) 62 0 (some 54)) 60 4 (some 62)) 63 0 (some 54)) 60 5 (some 63)) 55 (0 + 1) (some 60)) 64 1 (some 54)) 65 0 (some 54)) 64 3 (some 65)) 66 0 (some 54)) 64 4 (some 66)) 67 0 (some 54)) 64 5 (some 67)) 55 (0 + 1 + 1) (some 64)) 53 2 = some 55 from rfl) dX4_init_36 fX4_17 rfl ?_
  refine wp_iload_n dX4_init_39 rfl ?_
  refine wp_new (N := 6) dX4_init_40 wX4_3 rfl (by decide) ?_
  rw [zA (iv := (uI (uI (uI (uI (uI (uI (uI (uI (uI (uI (uI (uI (uI (uI (uI IV8 56 0 (0)) 56 2 ((3) + ((0) * (71)))) 57 1 (((3) + ((0) * (71))) + (4))) 58 1 ((((3) + ((0) * (71))) + (4)) + (28))) 59 1 ((((3) + ((0) * (71))) + (4)) + (56))) 60 0 (0 + 1)) 60 2 ((3) + ((0 + 1) * (71)))) 61 1 (((3) + ((0 + 1) * (71))) + (4))) 62 1 ((((3) + ((0 + 1) * (71))) + (4)) + (28))) 63 1 ((((3) + ((0 + 1) * (71))) + (4)) + (56))) 64 0 (0 + 1 + 1)) 64 2 ((3) + ((0 + 1 + 1) * (71)))) 65 1 (((3) + ((0 + 1 + 1) * (71))) + (4))) 66 1 ((((3) + ((0 + 1 + 1) * (71))) + (4)) + (28))) 67 1 ((((3) + ((0 + 1 + 1) * (71))) + (4)) + (56)))) (fun _ => rfl), zA (iv := Z0) (fun _ => rfl), zQ (rv := (uP (uP (uP (uP (uP (uP (uP (uP (uP (uP (uP (uP (uP (uP (uP (uP (uP (uP (uP (uP (uP (uP (uP (uP (uP (uP (uP (uP (uP RV8 51 3 (some 52)) 51 0 (some 11)) 53 1 (some 54)) 53 2 (some 55)) 53 0 (some 3)) 56 1 (some 54)) 57 0 (some 54)) 56 3 (some 57)) 58 0 (some 54)) 56 4 (some 58)) 59 0 (some 54)) 56 5 (some 59)) 55 (0) (some 56)) 60 1 (some 54)) 61 0 (some 54)) 60 3 (some 61)) 62 0 (some 54)) 60 4 (some 62)) 63 0 (some 54)) 60 5 (some 63)) 55 (0 + 1) (some 60)) 64 1 (some 54)) 65 0 (some 54)) 64 3 (some 65)) 66 0 (some 54)) 64 4 (some 66)) 67 0 (some 54)) 64 5 (some 67)) 55 (0 + 1 + 1) (some 64))) (fun _ => rfl)]
  show wp _ _ _ _ (aR 68 :: _) [(3, 11), (3, 10), (0, 240), (3, 7), (0, 5), (0, 24), (0, 16), (3, 8), (0, 5), (0, 24), (0, 16), (3, 4), (0, 429), (1, 6), (3, 3), (3, 9), (3, 9), (3, 2), (3, 3), (3, 9), (3, 9), (3, 2), (3, 3), (3, 9), (3, 9), (3, 2), (3, 3), (3, 9), (3, 9), (3, 2), (3, 3), (3, 9), (3, 9), (3, 2), (3, 3), (3, 9), (3, 9), (3, 2), (3, 1), (0, 16), (0, 4), (3, 0), (0, 160), (0, 6), (0, 6), (3, 6), (0, 300), (2, 40), (0, 40), (0, 429), (0, 180), (3, 5), (0, 6), (3, 4), (0, 429), (1, 6), (3, 3), (3, 9), (3, 9), (3, 2), (3, 3), (3, 9), (3, 9), (3, 2), (3, 3), (3, 9), (3, 9), (3, 2), (3, 3)] _ _ _ _ _ _
  refine wp_dup dX4_init_43 rfl ?_
  refine wp_iload_n dX4_init_44 rfl ?_
  refine wp_aload_n dX4_init_45 rfl ?_
  refine wp_getR (show (uP (uP (uP (uP (uP (uP (uP (uP (uP (uP (uP (uP (uP (uP (uP (uP (uP (uP (uP (uP (uP (uP (uP (uP (uP (uP (uP (uP (uP RV8 51 3 (some 52)) 51 0 (some 11)) 53 1 (some 54)) 53 2 (some 55)) 53 0 (some 3)) 56 1 (some 54)) 57 0 (some 54)) 56 3 (some 57)) 58 0 (some 54)) 56 4 (some 58)) 59 0 (some 54)) 56 5 (some 59)) 55 (0) (some 56)) 60 1 (some 54)) 61 0 (some 54)) 60 3 (some 61)) 62 0 (some 54)) 60 4 (some 62)) 63 0 (some 54)) 60 5 (some 63)) 55 (0 + 1) (some 60)) 64 1 (some 54)) 65 0 (some 54)) 64 3 (some 65)) 66 0 (some 54)) 64 4 (some 66)) 67 0 (some 54)) 64 5 (some 67)) 55 (0 + 1 + 1) (some 64)) 53 1 = some 54 from rfl) dX4_init_46 fX4_13 rfl ?_
  refine wp_iconst dX4_init_49 ?_
  refine wp_iload_n dX4_init_50 rfl ?_
  refine wp_bipush dX4_init_51 ?_
  refine wp_imul dX4_init_53 ⟨by decide, by decide⟩ ?_
  refine wp_iadd dX4_init_54 ⟨by decide, by decide⟩ ?_
  refine wp_callI (as := [_, _, _]) (ls0 := [_, _, _, _]) (kc := 3) (ks := 6) (bc' := 8) (bs' := 24) dX4_init_55 vX4_25 rfl rfl (Nat.le_of_ble_eq_true rfl) (Nat.le_of_ble_eq_true rfl) (by decide) (by decide) ?_
  refine wp_aload_n dX3_init_0 rfl ?_
  refine wp_obj dX3_init_1 oX3_9 (by omega) (Nat.le_of_ble_eq_true rfl) ?_
  refine wp_aload_n dX3_init_4 rfl ?_
  refine wp_iload_n dX3_init_5 rfl ?_
  refine wp_putIF dX3_init_6 gX3_15 rfl rfl ?_
  refine wp_aload_n dX3_init_9 rfl ?_
  refine wp_aload_n dX3_init_10 rfl ?_
  refine wp_putRF dX3_init_11 gX3_19 rfl rfl ?_
  refine wp_aload_n dX3_init_14 rfl ?_
  refine wp_iload_n dX3_init_15 rfl ?_
  refine wp_putIF dX3_init_16 gX3_23 rfl rfl ?_
  refine wp_aload_n dX3_init_19 rfl ?_
  refine wp_new (N := 2) dX3_init_20 wX3_3 rfl (by decide) ?_
  rw [zA (iv := (uI (uI (uI (uI (uI (uI (uI (uI (uI (uI (uI (uI (uI (uI (uI (uI (uI IV8 56 0 (0)) 56 2 ((3) + ((0) * (71)))) 57 1 (((3) + ((0) * (71))) + (4))) 58 1 ((((3) + ((0) * (71))) + (4)) + (28))) 59 1 ((((3) + ((0) * (71))) + (4)) + (56))) 60 0 (0 + 1)) 60 2 ((3) + ((0 + 1) * (71)))) 61 1 (((3) + ((0 + 1) * (71))) + (4))) 62 1 ((((3) + ((0 + 1) * (71))) + (4)) + (28))) 63 1 ((((3) + ((0 + 1) * (71))) + (4)) + (56))) 64 0 (0 + 1 + 1)) 64 2 ((3) + ((0 + 1 + 1) * (71)))) 65 1 (((3) + ((0 + 1 + 1) * (71))) + (4))) 66 1 ((((3) + ((0 + 1 + 1) * (71))) + (4)) + (28))) 67 1 ((((3) + ((0 + 1 + 1) * (71))) + (4)) + (56))) 68 0 (0 + 1 + 1 + 1)) 68 2 ((3) + ((0 + 1 + 1 + 1) * (71))))) (fun _ => rfl), zA (iv := Z0) (fun _ => rfl), zQ (rv := (uP (uP (uP (uP (uP (uP (uP (uP (uP (uP (uP (uP (uP (uP (uP (uP (uP (uP (uP (uP (uP (uP (uP (uP (uP (uP (uP (uP (uP (uP RV8 51 3 (some 52)) 51 0 (some 11)) 53 1 (some 54)) 53 2 (some 55)) 53 0 (some 3)) 56 1 (some 54)) 57 0 (some 54)) 56 3 (some 57)) 58 0 (some 54)) 56 4 (some 58)) 59 0 (some 54)) 56 5 (some 59)) 55 (0) (some 56)) 60 1 (some 54)) 61 0 (some 54)) 60 3 (some 61)) 62 0 (some 54)) 60 4 (some 62)) 63 0 (some 54)) 60 5 (some 63)) 55 (0 + 1) (some 60)) 64 1 (some 54)) 65 0 (some 54)) 64 3 (some 65)) 66 0 (some 54)) 64 4 (some 66)) 67 0 (some 54)) 64 5 (some 67)) 55 (0 + 1 + 1) (some 64)) 68 1 (some 54))) (fun _ => rfl)]
  show wp _ _ _ _ (aR 69 :: _) [(3, 11), (3, 10), (0, 240), (3, 7), (0, 5), (0, 24), (0, 16), (3, 8), (0, 5), (0, 24), (0, 16), (3, 4), (0, 429), (1, 6), (3, 3), (3, 9), (3, 9), (3, 2), (3, 3), (3, 9), (3, 9), (3, 2), (3, 3), (3, 9), (3, 9), (3, 2), (3, 3), (3, 9), (3, 9), (3, 2), (3, 3), (3, 9), (3, 9), (3, 2), (3, 3), (3, 9), (3, 9), (3, 2), (3, 1), (0, 16), (0, 4), (3, 0), (0, 160), (0, 6), (0, 6), (3, 6), (0, 300), (2, 40), (0, 40), (0, 429), (0, 180), (3, 5), (0, 6), (3, 4), (0, 429), (1, 6), (3, 3), (3, 9), (3, 9), (3, 2), (3, 3), (3, 9), (3, 9), (3, 2), (3, 3), (3, 9), (3, 9), (3, 2), (3, 3), (3, 9)] _ _ _ _ _ _
  refine wp_dup dX3_init_23 rfl ?_
  refine wp_aload_n dX3_init_24 rfl ?_
  refine wp_iload_n dX3_init_25 rfl ?_
  refine wp_iconst dX3_init_26 ?_
  refine wp_iadd dX3_init_27 ⟨by decide, by decide⟩ ?_
  refine wp_callI (as := [_, _]) (ls0 := [_, _, _]) (kc := 0) (ks := 0) (bc' := 2) (bs' := 4) dX3_init_28 vX3_26 rfl rfl (Nat.le_of_ble_eq_true rfl) (Nat.le_of_ble_eq_true rfl) (by decide) (by decide) ?_
  refine wp_aload_n dX9_init_0 rfl ?_
  refine wp_obj dX9_init_1 oX9_5 (by omega) (Nat.le_of_ble_eq_true rfl) ?_
  refine wp_aload_n dX9_init_4 rfl ?_
  refine wp_aload_n dX9_init_5 rfl ?_
  refine wp_putRF dX9_init_6 gX9_11 rfl rfl ?_
  refine wp_aload_n dX9_init_9 rfl ?_
  refine wp_iload_n dX9_init_10 rfl ?_
  refine wp_putIF dX9_init_11 gX9_15 rfl rfl ?_
  refine wp_return dX9_init_14 rfl ?_
  refine wp_putRF dX3_init_31 gX3_29 rfl rfl ?_
  refine wp_aload_n dX3_init_34 rfl ?_
  refine wp_new (N := 2) dX3_init_35 wX3_3 rfl (by decide) ?_
  rw [zA (iv := (uI (uI (uI (uI (uI (uI (uI (uI (uI (uI (uI (uI (uI (uI (uI (uI (uI (uI IV8 56 0 (0)) 56 2 ((3) + ((0) * (71)))) 57 1 (((3) + ((0) * (71))) + (4))) 58 1 ((((3) + ((0) * (71))) + (4)) + (28))) 59 1 ((((3) + ((0) * (71))) + (4)) + (56))) 60 0 (0 + 1)) 60 2 ((3) + ((0 + 1) * (71)))) 61 1 (((3) + ((0 + 1) * (71))) + (4))) 62 1 ((((3) + ((0 + 1) * (71))) + (4)) + (28))) 63 1 ((((3) + ((0 + 1) * (71))) + (4)) + (56))) 64 0 (0 + 1 + 1)) 64 2 ((3) + ((0 + 1 + 1) * (71)))) 65 1 (((3) + ((0 + 1 + 1) * (71))) + (4))) 66 1 ((((3) + ((0 + 1 + 1) * (71))) + (4)) + (28))) 67 1 ((((3) + ((0 + 1 + 1) * (71))) + (4)) + (56))) 68 0 (0 + 1 + 1 + 1)) 68 2 ((3) + ((0 + 1 + 1 + 1) * (71)))) 69 1 (((3) + ((0 + 1 + 1 + 1) * (71))) + (4)))) (fun _ => rfl), zA (iv := Z0) (fun _ => rfl), zQ (rv := (uP (uP (uP (uP (uP (uP (uP (uP (uP (uP (uP (uP (uP (uP (uP (uP (uP (uP (uP (uP (uP (uP (uP (uP (uP (uP (uP (uP (uP (uP (uP (uP RV8 51 3 (some 52)) 51 0 (some 11)) 53 1 (some 54)) 53 2 (some 55)) 53 0 (some 3)) 56 1 (some 54)) 57 0 (some 54)) 56 3 (some 57)) 58 0 (some 54)) 56 4 (some 58)) 59 0 (some 54)) 56 5 (some 59)) 55 (0) (some 56)) 60 1 (some 54)) 61 0 (some 54)) 60 3 (some 61)) 62 0 (some 54)) 60 4 (some 62)) 63 0 (some 54)) 60 5 (some 63)) 55 (0 + 1) (some 60)) 64 1 (some 54)) 65 0 (some 54)) 64 3 (some 65)) 66 0 (some 54)) 64 4 (some 66)) 67 0 (some 54)) 64 5 (some 67)) 55 (0 + 1 + 1) (some 64)) 68 1 (some 54)) 69 0 (some 54)) 68 3 (some 69))) (fun _ => rfl)]
  show wp _ _ _ _ (aR 70 :: _) [(3, 11), (3, 10), (0, 240), (3, 7), (0, 5), (0, 24), (0, 16), (3, 8), (0, 5), (0, 24), (0, 16), (3, 4), (0, 429), (1, 6), (3, 3), (3, 9), (3, 9), (3, 2), (3, 3), (3, 9), (3, 9), (3, 2), (3, 3), (3, 9), (3, 9), (3, 2), (3, 3), (3, 9), (3, 9), (3, 2), (3, 3), (3, 9), (3, 9), (3, 2), (3, 3), (3, 9), (3, 9), (3, 2), (3, 1), (0, 16), (0, 4), (3, 0), (0, 160), (0, 6), (0, 6), (3, 6), (0, 300), (2, 40), (0, 40), (0, 429), (0, 180), (3, 5), (0, 6), (3, 4), (0, 429), (1, 6), (3, 3), (3, 9), (3, 9), (3, 2), (3, 3), (3, 9), (3, 9), (3, 2), (3, 3), (3, 9), (3, 9), (3, 2), (3, 3), (3, 9), (3, 9)] _ _ _ _ _ _
  refine wp_dup dX3_init_38 rfl ?_
  refine wp_aload_n dX3_init_39 rfl ?_
  refine wp_iload_n dX3_init_40 rfl ?_
  refine wp_iconst dX3_init_41 ?_
  refine wp_iadd dX3_init_42 ⟨by decide, by decide⟩ ?_
  refine wp_bipush dX3_init_43 ?_
  refine wp_iadd dX3_init_45 ⟨by decide, by decide⟩ ?_
  refine wp_callI (as := [_, _]) (ls0 := [_, _, _]) (kc := 0) (ks := 0) (bc' := 1) (bs' := 2) dX3_init_46 vX3_26 rfl rfl (Nat.le_of_ble_eq_true rfl) (Nat.le_of_ble_eq_true rfl) (by decide) (by decide) ?_
  refine wp_aload_n dX9_init_0 rfl ?_
  refine wp_obj dX9_init_1 oX9_5 (by omega) (Nat.le_of_ble_eq_true rfl) ?_
  refine wp_aload_n dX9_init_4 rfl ?_
  refine wp_aload_n dX9_init_5 rfl ?_
  refine wp_putRF dX9_init_6 gX9_11 rfl rfl ?_
  refine wp_aload_n dX9_init_9 rfl ?_
  refine wp_iload_n dX9_init_10 rfl ?_
  refine wp_putIF dX9_init_11 gX9_15 rfl rfl ?_
  refine wp_return dX9_init_14 rfl ?_
  refine wp_putRF dX3_init_49 gX3_33 rfl rfl ?_
  refine wp_aload_n dX3_init_52 rfl ?_
  refine wp_new (N := 2) dX3_init_53 wX3_5 rfl (by decide) ?_
  rw [zA (iv := (uI (uI (uI (uI (uI (uI (uI (uI (uI (uI (uI (uI (uI (uI (uI (uI (uI (uI (uI IV8 56 0 (0)) 56 2 ((3) + ((0) * (71)))) 57 1 (((3) + ((0) * (71))) + (4))) 58 1 ((((3) + ((0) * (71))) + (4)) + (28))) 59 1 ((((3) + ((0) * (71))) + (4)) + (56))) 60 0 (0 + 1)) 60 2 ((3) + ((0 + 1) * (71)))) 61 1 (((3) + ((0 + 1) * (71))) + (4))) 62 1 ((((3) + ((0 + 1) * (71))) + (4)) + (28))) 63 1 ((((3) + ((0 + 1) * (71))) + (4)) + (56))) 64 0 (0 + 1 + 1)) 64 2 ((3) + ((0 + 1 + 1) * (71)))) 65 1 (((3) + ((0 + 1 + 1) * (71))) + (4))) 66 1 ((((3) + ((0 + 1 + 1) * (71))) + (4)) + (28))) 67 1 ((((3) + ((0 + 1 + 1) * (71))) + (4)) + (56))) 68 0 (0 + 1 + 1 + 1)) 68 2 ((3) + ((0 + 1 + 1 + 1) * (71)))) 69 1 (((3) + ((0 + 1 + 1 + 1) * (71))) + (4))) 70 1 ((((3) + ((0 + 1 + 1 + 1) * (71))) + (4)) + (28)))) (fun _ => rfl), zA (iv := Z0) (fun _ => rfl), zQ (rv := (uP (uP (uP (uP (uP (uP (uP (uP (uP (uP (uP (uP (uP (uP (uP (uP (uP (uP (uP (uP (uP (uP (uP (uP (uP (uP (uP (uP (uP (uP (uP (uP (uP (uP RV8 51 3 (some 52)) 51 0 (some 11)) 53 1 (some 54)) 53 2 (some 55)) 53 0 (some 3)) 56 1 (some 54)) 57 0 (some 54)) 56 3 (some 57)) 58 0 (some 54)) 56 4 (some 58)) 59 0 (some 54)) 56 5 (some 59)) 55 (0) (some 56)) 60 1 (some 54)) 61 0 (some 54)) 60 3 (some 61)) 62 0 (some 54)) 60 4 (some 62)) 63 0 (some 54)) 60 5 (some 63)) 55 (0 + 1) (some 60)) 64 1 (some 54)) 65 0 (some 54)) 64 3 (some 65)) 66 0 (some 54)) 64 4 (some 66)) 67 0 (some 54)) 64 5 (some 67)) 55 (0 + 1 + 1) (some 64)) 68 1 (some 54)) 69 0 (some 54)) 68 3 (some 69)) 70 0 (some 54)) 68 4 (some 70))) (fun _ => rfl)]
  show wp _ _ _ _ (aR 71 :: _) [(3, 11), (3, 10), (0, 240), (3, 7), (0, 5), (0, 24), (0, 16), (3, 8), (0, 5), (0, 24), (0, 16), (3, 4), (0, 429), (1, 6), (3, 3), (3, 9), (3, 9), (3, 2), (3, 3), (3, 9), (3, 9), (3, 2), (3, 3), (3, 9), (3, 9), (3, 2), (3, 3), (3, 9), (3, 9), (3, 2), (3, 3), (3, 9), (3, 9), (3, 2), (3, 3), (3, 9), (3, 9), (3, 2), (3, 1), (0, 16), (0, 4), (3, 0), (0, 160), (0, 6), (0, 6), (3, 6), (0, 300), (2, 40), (0, 40), (0, 429), (0, 180), (3, 5), (0, 6), (3, 4), (0, 429), (1, 6), (3, 3), (3, 9), (3, 9), (3, 2), (3, 3), (3, 9), (3, 9), (3, 2), (3, 3), (3, 9), (3, 9), (3, 2), (3, 3), (3, 9), (3, 9), (3, 2)] _ _ _ _ _ _
  refine wp_dup dX3_init_56 rfl ?_
  refine wp_aload_n dX3_init_57 rfl ?_
  refine wp_iload_n dX3_init_58 rfl ?_
  refine wp_iconst dX3_init_59 ?_
  refine wp_iadd dX3_init_60 ⟨by decide, by decide⟩ ?_
  refine wp_bipush dX3_init_61 ?_
  refine wp_iadd dX3_init_63 ⟨by decide, by decide⟩ ?_
  refine wp_callI (as := [_, _]) (ls0 := [_, _, _]) (kc := 0) (ks := 0) (bc' := 0) (bs' := 0) dX3_init_64 vX3_36 rfl rfl (Nat.le_of_ble_eq_true rfl) (Nat.le_of_ble_eq_true rfl) (by decide) (by decide) ?_
  refine wp_aload_n dX2_init_0 rfl ?_
  refine wp_obj dX2_init_1 oX2_5 (by omega) (Nat.le_of_ble_eq_true rfl) ?_
  refine wp_aload_n dX2_init_4 rfl ?_
  refine wp_aload_n dX2_init_5 rfl ?_
  refine wp_putRF dX2_init_6 gX2_11 rfl rfl ?_
  refine wp_aload_n dX2_init_9 rfl ?_
  refine wp_iload_n dX2_init_10 rfl ?_
  refine wp_putIF dX2_init_11 gX2_15 rfl rfl ?_
  refine wp_return dX2_init_14 rfl ?_
  refine wp_putRF dX3_init_67 gX3_37 rfl rfl ?_
  refine wp_return dX3_init_70 rfl ?_
  refine wp_aastL dX4_init_58 rfl rfl (by decide) (by decide) ?_
  refine wp_iinc (ls' := [_, _, _]) dX4_init_59 (by decide) rfl rfl ⟨by decide, by decide⟩ rfl ?_
  refine wp_goto (tgt := 29) dX4_init_62 rfl ?_
  refine wp_iload_n dX4_init_29 rfl ?_
  refine wp_bipush dX4_init_30 ?_
  refine wp_icmp_ge (tgt := 65) dX4_init_32 rfl (fun q => absurd q (by decide)) (fun _ => ?_)
  refine wp_aload_n dX4_init_35 rfl ?_
  refine wp_getR (show (uP (uP (uP (uP (uP (uP (uP (uP (uP (uP (uP (uP (uP (uP (uP (uP (uP (uP (uP (uP (uP (uP (uP (uP (uP (uP (uP (uP (uP (uP (uP (uP (uP (uP (uP (uP (uP RV8 51 3 (some 52)) 51 0 (some 11)) 53 1 (some 54)) 53 2 (some 55)) 53 0 (some 3)) 56 1 (some 54)) 57 0 (some 54)) 56 3 (some 57)) 58 0 (some 54)) 56 4 (some 58)) 59 0 (some 54)) 56 5 (some 59)) 55 (0) (some 56)) 60 1 (some 54)) 61 0 (some 54)) 60 3 (some 61)) 62 0 (some 54)) 60 4 (some 62)) 63 0 (some 54)) 60 5 (some 63)) 55 (0 + 1) (some 60)) 64 1 (some 54)) 65 0 (some 54)) 64 3 (some 65)) 66 0 (some 54)) 64 4 (some 66)) 67 0 (some 54)) 64 5 (some 67)) 55 (0 + 1 + 1) (some 64)) 68 1 (some 54)) 69 0 (some 54)) 68 3 (some 69)) 70 0 (some 54)) 68 4 (some 70)) 71 0 (some 54)) 68 5 (some 71)) 55 (0 + 1 + 1 + 1) (some 68)) 53 2 = some 55 from rfl) dX4_init_36 fX4_17 rfl ?_
  refine wp_iload_n dX4_init_39 rfl ?_
  refine wp_new (N := 6) dX4_init_40 wX4_3 rfl (by decide) ?_
  rw [zA (iv := (uI (uI (uI (uI (uI (uI (uI (uI (uI (uI (uI (uI (uI (uI (uI (uI (uI (uI (uI (uI IV8 56 0 (0)) 56 2 ((3) + ((0) * (71)))) 57 1 (((3) + ((0) * (71))) + (4))) 58 1 ((((3) + ((0) * (71))) + (4)) + (28))) 59 1 ((((3) + ((0) * (71))) + (4)) + (56))) 60 0 (0 + 1)) 60 2 ((3) + ((0 + 1) * (71)))) 61 1 (((3) + ((0 + 1) * (71))) + (4))) 62 1 ((((3) + ((0 + 1) * (71))) + (4)) + (28))) 63 1 ((((3) + ((0 + 1) * (71))) + (4)) + (56))) 64 0 (0 + 1 + 1)) 64 2 ((3) + ((0 + 1 + 1) * (71)))) 65 1 (((3) + ((0 + 1 + 1) * (71))) + (4))) 66 1 ((((3) + ((0 + 1 + 1) * (71))) + (4)) + (28))) 67 1 ((((3) + ((0 + 1 + 1) * (71))) + (4)) + (56))) 68 0 (0 + 1 + 1 + 1)) 68 2 ((3) + ((0 + 1 + 1 + 1) * (71)))) 69 1 (((3) + ((0 + 1 + 1 + 1) * (71))) + (4))) 70 1 ((((3) + ((0 + 1 + 1 + 1) * (71))) + (4)) + (28))) 71 1 ((((3) + ((0 + 1 + 1 + 1) * (71))) + (4)) + (56)))) (fun _ => rfl), zA (iv := Z0) (fun _ => rfl), zQ (rv := (uP (uP (uP (uP (uP (uP (uP (uP (uP (uP (uP (uP (uP (uP (uP (uP (uP (uP (uP (uP (uP (uP (uP (uP (uP (uP (uP (uP (uP (uP (uP (uP (uP (uP (uP (uP (uP RV8 51 3 (some 52)) 51 0 (some 11)) 53 1 (some 54)) 53 2 (some 55)) 53 0 (some 3)) 56 1 (some 54)) 57 0 (some 54)) 56 3 (some 57)) 58 0 (some 54)) 56 4 (some 58)) 59 0 (some 54)) 56 5 (some 59)) 55 (0) (some 56)) 60 1 (some 54)) 61 0 (some 54)) 60 3 (some 61)) 62 0 (some 54)) 60 4 (some 62)) 63 0 (some 54)) 60 5 (some 63)) 55 (0 + 1) (some 60)) 64 1 (some 54)) 65 0 (some 54)) 64 3 (some 65)) 66 0 (some 54)) 64 4 (some 66)) 67 0 (some 54)) 64 5 (some 67)) 55 (0 + 1 + 1) (some 64)) 68 1 (some 54)) 69 0 (some 54)) 68 3 (some 69)) 70 0 (some 54)) 68 4 (some 70)) 71 0 (some 54)) 68 5 (some 71)) 55 (0 + 1 + 1 + 1) (some 68))) (fun _ => rfl)]
  show wp _ _ _ _ (aR 72 :: _) [(3, 11), (3, 10), (0, 240), (3, 7), (0, 5), (0, 24), (0, 16), (3, 8), (0, 5), (0, 24), (0, 16), (3, 4), (0, 429), (1, 6), (3, 3), (3, 9), (3, 9), (3, 2), (3, 3), (3, 9), (3, 9), (3, 2), (3, 3), (3, 9), (3, 9), (3, 2), (3, 3), (3, 9), (3, 9), (3, 2), (3, 3), (3, 9), (3, 9), (3, 2), (3, 3), (3, 9), (3, 9), (3, 2), (3, 1), (0, 16), (0, 4), (3, 0), (0, 160), (0, 6), (0, 6), (3, 6), (0, 300), (2, 40), (0, 40), (0, 429), (0, 180), (3, 5), (0, 6), (3, 4), (0, 429), (1, 6), (3, 3), (3, 9), (3, 9), (3, 2), (3, 3), (3, 9), (3, 9), (3, 2), (3, 3), (3, 9), (3, 9), (3, 2), (3, 3), (3, 9), (3, 9), (3, 2), (3, 3)] _ _ _ _ _ _
  refine wp_dup dX4_init_43 rfl ?_
  refine wp_iload_n dX4_init_44 rfl ?_
  refine wp_aload_n dX4_init_45 rfl ?_
  refine wp_getR (show (uP (uP (uP (uP (uP (uP (uP (uP (uP (uP (uP (uP (uP (uP (uP (uP (uP (uP (uP (uP (uP (uP (uP (uP (uP (uP (uP (uP (uP (uP (uP (uP (uP (uP (uP (uP (uP RV8 51 3 (some 52)) 51 0 (some 11)) 53 1 (some 54)) 53 2 (some 55)) 53 0 (some 3)) 56 1 (some 54)) 57 0 (some 54)) 56 3 (some 57)) 58 0 (some 54)) 56 4 (some 58)) 59 0 (some 54)) 56 5 (some 59)) 55 (0) (some 56)) 60 1 (some 54)) 61 0 (some 54)) 60 3 (some 61)) 62 0 (some 54)) 60 4 (some 62)) 63 0 (some 54)) 60 5 (some 63)) 55 (0 + 1) (some 60)) 64 1 (some 54)) 65 0 (some 54)) 64 3 (some 65)) 66 0 (some 54)) 64 4 (some 66)) 67 0 (some 54)) 64 5 (some 67)) 55 (0 + 1 + 1) (some 64)) 68 1 (some 54)) 69 0 (some 54)) 68 3 (some 69)) 70 0 (some 54)) 68 4 (some 70)) 71 0 (some 54)) 68 5 (some 71)) 55 (0 + 1 + 1 + 1) (some 68)) 53 1 = some 54 from rfl) dX4_init_46 fX4_13 rfl ?_
  refine wp_iconst dX4_init_49 ?_
  refine wp_iload_n dX4_init_50 rfl ?_
  refine wp_bipush dX4_init_51 ?_
  refine wp_imul dX4_init_53 ⟨by decide, by decide⟩ ?_
  refine wp_iadd dX4_init_54 ⟨by decide, by decide⟩ ?_
  refine wp_callI (as := [_, _, _]) (ls0 := [_, _, _, _]) (kc := 3) (ks := 6) (bc' := 4) (bs' := 12) dX4_init_55 vX4_25 rfl rfl (Nat.le_of_ble_eq_true rfl) (Nat.le_of_ble_eq_true rfl) (by decide) (by decide) ?_
  refine wp_aload_n dX3_init_0 rfl ?_
  refine wp_obj dX3_init_1 oX3_9 (by omega) (Nat.le_of_ble_eq_true rfl) ?_
  refine wp_aload_n dX3_init_4 rfl ?_
  refine wp_iload_n dX3_init_5 rfl ?_
  refine wp_putIF dX3_init_6 gX3_15 rfl rfl ?_
  refine wp_aload_n dX3_init_9 rfl ?_
  refine wp_aload_n dX3_init_10 rfl ?_
  refine wp_putRF dX3_init_11 gX3_19 rfl rfl ?_
  refine wp_aload_n dX3_init_14 rfl ?_
  refine wp_iload_n dX3_init_15 rfl ?_
  refine wp_putIF dX3_init_16 gX3_23 rfl rfl ?_
  refine wp_aload_n dX3_init_19 rfl ?_
  refine wp_new (N := 2) dX3_init_20 wX3_3 rfl (by decide) ?_
  rw [zA (iv := (uI (uI (uI (uI (uI (uI (uI (uI (uI (uI (uI (uI (uI (uI (uI (uI (uI (uI (uI (uI (uI (uI IV8 56 0 (0)) 56 2 ((3) + ((0) * (71)))) 57 1 (((3) + ((0) * (71))) + (4))) 58 1 ((((3) + ((0) * (71))) + (4)) + (28))) 59 1 ((((3) + ((0) * (71))) + (4)) + (56))) 60 0 (0 + 1)) 60 2 ((3) + ((0 + 1) * (71)))) 61 1 (((3) + ((0 + 1) * (71))) + (4))) 62 1 ((((3) + ((0 + 1) * (71))) + (4)) + (28))) 63 1 ((((3) + ((0 + 1) * (71))) + (4)) + (56))) 64 0 (0 + 1 + 1)) 64 2 ((3) + ((0 + 1 + 1) * (71)))) 65 1 (((3) + ((0 + 1 + 1) * (71))) + (4))) 66 1 ((((3) + ((0 + 1 + 1) * (71))) + (4)) + (28))) 67 1 ((((3) + ((0 + 1 + 1) * (71))) + (4)) + (56))) 68 0 (0 + 1 + 1 + 1)) 68 2 ((3) + ((0 + 1 + 1 + 1) * (71)))) 69 1 (((3) + ((0 + 1 + 1 + 1) * (71))) + (4))) 70 1 ((((3) + ((0 + 1 + 1 + 1) * (71))) + (4)) + (28))) 71 1 ((((3) + ((0 + 1 + 1 + 1) * (71))) + (4)) + (56))) 72 0 (0 + 1 + 1 + 1 + 1)) 72 2 ((3) + ((0 + 1 + 1 + 1 + 1) * (71))))) (fun _ => rfl), zA (iv := Z0) (fun _ => rfl), zQ (rv := (uP (uP (uP (uP (uP (uP (uP (uP (uP (uP (uP (uP (uP (uP (uP (uP (uP (uP (uP (uP (uP (uP (uP (uP (uP (uP (uP (uP (uP (uP (uP (uP (uP (uP (uP (uP (uP (uP RV8 51 3 (some 52)) 51 0 (some 11)) 53 1 (some 54)) 53 2 (some 55)) 53 0 (some 3)) 56 1 (some 54)) 57 0 (some 54)) 56 3 (some 57)) 58 0 (some 54)) 56 4 (some 58)) 59 0 (some 54)) 56 5 (some 59)) 55 (0) (some 56)) 60 1 (some 54)) 61 0 (some 54)) 60 3 (some 61)) 62 0 (some 54)) 60 4 (some 62)) 63 0 (some 54)) 60 5 (some 63)) 55 (0 + 1) (some 60)) 64 1 (some 54)) 65 0 (some 54)) 64 3 (some 65)) 66 0 (some 54)) 64 4 (some 66)) 67 0 (some 54)) 64 5 (some 67)) 55 (0 + 1 + 1) (some 64)) 68 1 (some 54)) 69 0 (some 54)) 68 3 (some 69)) 70 0 (some 54)) 68 4 (some 70)) 71 0 (some 54)) 68 5 (some 71)) 55 (0 + 1 + 1 + 1) (some 68)) 72 1 (some 54))) (fun _ => rfl)]
  show wp _ _ _ _ (aR 73 :: _) [(3, 11), (3, 10), (0, 240), (3, 7), (0, 5), (0, 24), (0, 16), (3, 8), (0, 5), (0, 24), (0, 16), (3, 4), (0, 429), (1, 6), (3, 3), (3, 9), (3, 9), (3, 2), (3, 3), (3, 9), (3, 9), (3, 2), (3, 3), (3, 9), (3, 9), (3, 2), (3, 3), (3, 9), (3, 9), (3, 2), (3, 3), (3, 9), (3, 9), (3, 2), (3, 3), (3, 9), (3, 9), (3, 2), (3, 1), (0, 16), (0, 4), (3, 0), (0, 160), (0, 6), (0, 6), (3, 6), (0, 300), (2, 40), (0, 40), (0, 429), (0, 180), (3, 5), (0, 6), (3, 4), (0, 429), (1, 6), (3, 3), (3, 9), (3, 9), (3, 2), (3, 3), (3, 9), (3, 9), (3, 2), (3, 3), (3, 9), (3, 9), (3, 2), (3, 3), (3, 9), (3, 9), (3, 2), (3, 3), (3, 9)] _ _ _ _ _ _
  refine wp_dup dX3_init_23 rfl ?_
  refine wp_aload_n dX3_init_24 rfl ?_
  refine wp_iload_n dX3_init_25 rfl ?_
  refine wp_iconst dX3_init_26 ?_
  refine wp_iadd dX3_init_27 ⟨by decide, by decide⟩ ?_
  refine wp_callI (as := [_, _]) (ls0 := [_, _, _]) (kc := 0) (ks := 0) (bc' := 2) (bs' := 4) dX3_init_28 vX3_26 rfl rfl (Nat.le_of_ble_eq_true rfl) (Nat.le_of_ble_eq_true rfl) (by decide) (by decide) ?_
  refine wp_aload_n dX9_init_0 rfl ?_
  refine wp_obj dX9_init_1 oX9_5 (by omega) (Nat.le_of_ble_eq_true rfl) ?_
  refine wp_aload_n dX9_init_4 rfl ?_
  refine wp_aload_n dX9_init_5 rfl ?_
  refine wp_putRF dX9_init_6 gX9_11 rfl rfl ?_
  refine wp_aload_n dX9_init_9 rfl ?_
  refine wp_iload_n dX9_init_10 rfl ?_
  refine wp_putIF dX9_init_11 gX9_15 rfl rfl ?_
  refine wp_return dX9_init_14 rfl ?_
  refine wp_putRF dX3_init_31 gX3_29 rfl rfl ?_
  refine wp_aload_n dX3_init_34 rfl ?_
  refine wp_new (N := 2) dX3_init_35 wX3_3 rfl (by decide) ?_
  rw [zA (iv := (uI (uI (uI (uI (uI (uI (uI (uI (uI (uI (uI (uI (uI (uI (uI (uI (uI (uI (uI (uI (uI (uI (uI IV8 56 0 (0)) 56 2 ((3) + ((0) * (71)))) 57 1 (((3) + ((0) * (71))) + (4))) 58 1 ((((3) + ((0) * (71))) + (4)) + (28))) 59 1 ((((3) + ((0) * (71))) + (4)) + (56))) 60 0 (0 + 1)) 60 2 ((3) + ((0 + 1) * (71)))) 61 1 (((3) + ((0 + 1) * (71))) + (4))) 62 1 ((((3) + ((0 + 1) * (71))) + (4)) + (28))) 63 1 ((((3) + ((0 + 1) * (71))) + (4)) + (56))) 64 0 (0 + 1 + 1)) 64 2 ((3) + ((0 + 1 + 1) * (71)))) 65 1 (((3) + ((0 + 1 + 1) * (71))) + (4))) 66 1 ((((3) + ((0 + 1 + 1) * (71))) + (4)) + (28))) 67 1 ((((3) + ((0 + 1 + 1) * (71))) + (4)) + (56))) 68 0 (0 + 1 + 1 + 1)) 68 2 ((3) + ((0 + 1 + 1 + 1) * (71)))) 69 1 (((3) + ((0 + 1 + 1 + 1) * (71))) + (4))) 70 1 ((((3) + ((0 + 1 + 1 + 1) * (71))) + (4)) + (28))) 71 1 ((((3) + ((0 + 1 + 1 + 1) * (71))) + (4)) + (56))) 72 0 (0 + 1 + 1 + 1 + 1)) 72 2 ((3) + ((0 + 1 + 1 + 1 + 1) * (71)))) 73 1 (((3) + ((0 + 1 + 1 + 1 + 1) * (71))) + (4)))) (fun _ => rfl), zA (iv := Z0) (fun _ => rfl), zQ (rv := (uP (uP (uP (uP (uP (uP (uP (uP (uP (uP (uP (uP (uP (uP (uP (uP (uP (uP (uP (uP (uP (uP (uP (uP (uP (uP (uP (uP (uP (uP (uP (uP (uP (uP (uP (uP (uP (uP (uP (uP RV8 51 3 (some 52)) 51 0 (some 11)) 53 1 (some 54)) 53 2 (some 55)) 53 0 (some 3)) 56 1 (some 54)) 57 0 (some 54)) 56 3 (some 57)) 58 0 (some 54)) 56 4 (some 58)) 59 0 (some 54)) 56 5 (some 59)) 55 (0) (some 56)) 60 1 (some 54)) 61 0 (some 54)) 60 3 (some 61)) 62 0 (some 54)) 60 4 (some 62)) 63 0 (some 54)) 60 5 (some 63)) 55 (0 + 1) (some 60)) 64 1 (some 54)) 65 0 (some 54)) 64 3 (some 65)) 66 0 (some 54)) 64 4 (some 66)) 67 0 (some 54)) 64 5 (some 67)) 55 (0 + 1 + 1) (some 64)) 68 1 (some 54)) 69 0 (some 54)) 68 3 (some 69)) 70 0 (some 54)) 68 4 (some 70)) 71 0 (some 54)) 68 5 (some 71)) 55 (0 + 1 + 1 + 1) (some 68)) 72 1 (some 54)) 73 0 (some 54)) 72 3 (some 73))) (fun _ => rfl)]
  show wp _ _ _ _ (aR 74 :: _) [(3, 11), (3, 10), (0, 240), (3, 7), (0, 5), (0, 24), (0, 16), (3, 8), (0, 5), (0, 24), (0, 16), (3, 4), (0, 429), (1, 6), (3, 3), (3, 9), (3, 9), (3, 2), (3, 3), (3, 9), (3, 9), (3, 2), (3, 3), (3, 9), (3, 9), (3, 2), (3, 3), (3, 9), (3, 9), (3, 2), (3, 3), (3, 9), (3, 9), (3, 2), (3, 3), (3, 9), (3, 9), (3, 2), (3, 1), (0, 16), (0, 4), (3, 0), (0, 160), (0, 6), (0, 6), (3, 6), (0, 300), (2, 40), (0, 40), (0, 429), (0, 180), (3, 5), (0, 6), (3, 4), (0, 429), (1, 6), (3, 3), (3, 9), (3, 9), (3, 2), (3, 3), (3, 9), (3, 9), (3, 2), (3, 3), (3, 9), (3, 9), (3, 2), (3, 3), (3, 9), (3, 9), (3, 2), (3, 3), (3, 9), (3, 9)] _ _ _ _ _ _
  refine wp_dup dX3_init_38 rfl ?_
  refine wp_aload_n dX3_init_39 rfl ?_
  refine wp_iload_n dX3_init_40 rfl ?_
  refine wp_iconst dX3_init_41 ?_
  refine wp_iadd dX3_init_42 ⟨by decide, by decide⟩ ?_
  refine wp_bipush dX3_init_43 ?_
  refine wp_iadd dX3_init_45 ⟨by decide, by decide⟩ ?_
  refine wp_callI (as := [_, _]) (ls0 := [_, _, _]) (kc := 0) (ks := 0) (bc' := 1) (bs' := 2) dX3_init_46 vX3_26 rfl rfl (Nat.le_of_ble_eq_true rfl) (Nat.le_of_ble_eq_true rfl) (by decide) (by decide) ?_
  refine wp_aload_n dX9_init_0 rfl ?_
  refine wp_obj dX9_init_1 oX9_5 (by omega) (Nat.le_of_ble_eq_true rfl) ?_
  refine wp_aload_n dX9_init_4 rfl ?_
  refine wp_aload_n dX9_init_5 rfl ?_
  refine wp_putRF dX9_init_6 gX9_11 rfl rfl ?_
  refine wp_aload_n dX9_init_9 rfl ?_
  refine wp_iload_n dX9_init_10 rfl ?_
  refine wp_putIF dX9_init_11 gX9_15 rfl rfl ?_
  refine wp_return dX9_init_14 rfl ?_
  refine wp_putRF dX3_init_49 gX3_33 rfl rfl ?_
  refine wp_aload_n dX3_init_52 rfl ?_
  refine wp_new (N := 2) dX3_init_53 wX3_5 rfl (by decide) ?_
  rw [zA (iv := (uI (uI (uI (uI (uI (uI (uI (uI (uI (uI (uI (uI (uI (uI (uI (uI (uI (uI (uI (uI (uI (uI (uI (uI IV8 56 0 (0)) 56 2 ((3) + ((0) * (71)))) 57 1 (((3) + ((0) * (71))) + (4))) 58 1 ((((3) + ((0) * (71))) + (4)) + (28))) 59 1 ((((3) + ((0) * (71))) + (4)) + (56))) 60 0 (0 + 1)) 60 2 ((3) + ((0 + 1) * (71)))) 61 1 (((3) + ((0 + 1) * (71))) + (4))) 62 1 ((((3) + ((0 + 1) * (71))) + (4)) + (28))) 63 1 ((((3) + ((0 + 1) * (71))) + (4)) + (56))) 64 0 (0 + 1 + 1)) 64 2 ((3) + ((0 + 1 + 1) * (71)))) 65 1 (((3) + ((0 + 1 + 1) * (71))) + (4))) 66 1 ((((3) + ((0 + 1 + 1) * (71))) + (4)) + (28))) 67 1 ((((3) + ((0 + 1 + 1) * (71))) + (4)) + (56))) 68 0 (0 + 1 + 1 + 1)) 68 2 ((3) + ((0 + 1 + 1 + 1) * (71)))) 69 1 (((3) + ((0 + 1 + 1 + 1) * (71))) + (4))) 70 1 ((((3) + ((0 + 1 + 1 + 1) * (71))) + (4)) + (28))) 71 1 ((((3) + ((0 + 1 + 1 + 1) * (71))) + (4)) + (56))) 72 0 (0 + 1 + 1 + 1 + 1)) 72 2 ((3) + ((0 + 1 + 1 + 1 + 1) * (71)))) 73 1 (((3) + ((0 + 1 + 1 + 1 + 1) * (71))) + (4))) 74 1 ((((3) + ((0 + 1 + 1 + 1 + 1) * (71))) + (4)) + (28)))) (fun _ => rfl), zA (iv := Z0) (fun _ => rfl), zQ (rv := (uP (uP (uP (uP (uP (uP (uP (uP (uP (uP (uP (uP (uP (uP (uP (uP (uP (uP (uP (uP (uP (uP (uP (uP (uP (uP (uP (uP (uP (uP (uP (uP (uP (uP (uP (uP (uP (uP (uP (uP (uP (uP RV8 51 3 (some 52)) 51 0 (some 11)) 53 1 (some 54)) 53 2 (some 55)) 53 0 (some 3)) 56 1 (some 54)) 57 0 (some 54)) 56 3 (some 57)) 58 0 (some 54)) 56 4 (some 58)) 59 0 (some 54)) 56 5 (some 59)) 55 (0) (some 56)) 60 1 (some 54)) 61 0 (some 54)) 60 3 (some 61)) 62 0 (some 54)) 60 4 (some 62)) 63 0 (some 54)) 60 5 (some 63)) 55 (0 + 1) (some 60)) 64 1 (some 54)) 65 0 (some 54)) 64 3 (some 65)) 66 0 (some 54)) 64 4 (some 66)) 67 0 (some 54)) 64 5 (some 67)) 55 (0 + 1 + 1) (some 64)) 68 1 (some 54)) 69 0 (some 54)) 68 3 (some 69)) 70 0 (some 54)) 68 4 (some 70)) 71 0 (some 54)) 68 5 (some 71)) 55 (0 + 1 + 1 + 1) (some 68)) 72 1 (some 54)) 73 0 (some 54)) 72 3 (some 73)) 74 0 (some 54)) 72 4 (some 74))) (fun _ => rfl)]
  show wp _ _ _ _ (aR 75 :: _) [(3, 11), (3, 10), (0, 240), (3, 7), (0, 5), (0, 24), (0, 16), (3, 8), (0, 5), (0, 24), (0, 16), (3, 4), (0, 429), (1, 6), (3, 3), (3, 9), (3, 9), (3, 2), (3, 3), (3, 9), (3, 9), (3, 2), (3, 3), (3, 9), (3, 9), (3, 2), (3, 3), (3, 9), (3, 9), (3, 2), (3, 3), (3, 9), (3, 9), (3, 2), (3, 3), (3, 9), (3, 9), (3, 2), (3, 1), (0, 16), (0, 4), (3, 0), (0, 160), (0, 6), (0, 6), (3, 6), (0, 300), (2, 40), (0, 40), (0, 429), (0, 180), (3, 5), (0, 6), (3, 4), (0, 429), (1, 6), (3, 3), (3, 9), (3, 9), (3, 2), (3, 3), (3, 9), (3, 9), (3, 2), (3, 3), (3, 9), (3, 9), (3, 2), (3, 3), (3, 9), (3, 9), (3, 2), (3, 3), (3, 9), (3, 9), (3, 2)] _ _ _ _ _ _
  refine wp_dup dX3_init_56 rfl ?_
  refine wp_aload_n dX3_init_57 rfl ?_
  refine wp_iload_n dX3_init_58 rfl ?_
  refine wp_iconst dX3_init_59 ?_
  refine wp_iadd dX3_init_60 ⟨by decide, by decide⟩ ?_
  refine wp_bipush dX3_init_61 ?_
  refine wp_iadd dX3_init_63 ⟨by decide, by decide⟩ ?_
  refine wp_callI (as := [_, _]) (ls0 := [_, _, _]) (kc := 0) (ks := 0) (bc' := 0) (bs' := 0) dX3_init_64 vX3_36 rfl rfl (Nat.le_of_ble_eq_true rfl) (Nat.le_of_ble_eq_true rfl) (by decide) (by decide) ?_
  refine wp_aload_n dX2_init_0 rfl ?_
  refine wp_obj dX2_init_1 oX2_5 (by omega) (Nat.le_of_ble_eq_true rfl) ?_
  refine wp_aload_n dX2_init_4 rfl ?_
  refine wp_aload_n dX2_init_5 rfl ?_
  refine wp_putRF dX2_init_6 gX2_11 rfl rfl ?_
  refine wp_aload_n dX2_init_9 rfl ?_
  refine wp_iload_n dX2_init_10 rfl ?_
  refine wp_putIF dX2_init_11 gX2_15 rfl rfl ?_
  refine wp_return dX2_init_14 rfl ?_
  refine wp_putRF dX3_init_67 gX3_37 rfl rfl ?_
  refine wp_return dX3_init_70 rfl ?_
  refine wp_aastL dX4_init_58 rfl rfl (by decide) (by decide) ?_
  refine wp_iinc (ls' := [_, _, _]) dX4_init_59 (by decide) rfl rfl ⟨by decide, by decide⟩ rfl ?_
  refine wp_goto (tgt := 29) dX4_init_62 rfl ?_
  refine wp_iload_n dX4_init_29 rfl ?_
  refine wp_bipush dX4_init_30 ?_
  refine wp_icmp_ge (tgt := 65) dX4_init_32 rfl (fun q => absurd q (by decide)) (fun _ => ?_)
  refine wp_aload_n dX4_init_35 rfl ?_
  refine wp_getR (show (uP (uP (uP (uP (uP (uP (uP (uP (uP (uP (uP (uP (uP (uP (uP (uP (uP (uP (uP (uP (uP (uP (uP (uP (uP (uP (uP (uP (uP (uP (uP (uP (uP (uP (uP (uP (uP (uP (uP (uP (uP (uP (uP (uP (uP RV8 51 3 (some 52)) 51 0 (some 11)) 53 1 (some 54)) 53 2 (some 55)) 53 0 (some 3)) 56 1 (some 54)) 57 0 (some 54)) 56 3 (some 57)) 58 0 (some 54)) 56 4 (some 58)) 59 0 (some 54)) 56 5 (some 59)) 55 (0) (some 56)) 60 1 (some 54)) 61 0 (some 54)) 60 3 (some 61)) 62 0 (some 54)) 60 4 (some 62)) 63 0 (some 54)) 60 5 (some 63)) 55 (0 + 1) (some 60)) 64 1 (some 54)) 65 0 (some 54)) 64 3 (some 65)) 66 0 (some 54)) 64 4 (some 66)) 67 0 (some 54)) 64 5 (some 67)) 55 (0 + 1 + 1) (some 64)) 68 1 (some 54)) 69 0 (some 54)) 68 3 (some 69)) 70 0 (some 54)) 68 4 (some 70)) 71 0 (some 54)) 68 5 (some 71)) 55 (0 + 1 + 1 + 1) (some 68)) 72 1 (some 54)) 73 0 (some 54)) 72 3 (some 73)) 74 0 (some 54)) 72 4 (some 74)) 75 0 (some 54)) 72 5 (some 75)) 55 (0 + 1 + 1 + 1 + 1) (some 72)) 53 2 = some 55 from rfl) dX4_init_36 fX4_17 rfl ?_
  refine wp_iload_n dX4_init_39 rfl ?_
  refine wp_new (N := 6) dX4_init_40 wX4_3 rfl (by decide) ?_
  rw [zA (iv := (uI (uI (uI (uI (uI (uI (uI (uI (uI (uI (uI (uI (uI (uI (uI (uI (uI (uI (uI (uI (uI (uI (uI (uI (uI IV8 56 0 (0)) 56 2 ((3) + ((0) * (71)))) 57 1 (((3) + ((0) * (71))) + (4))) 58 1 ((((3) + ((0) * (71))) + (4)) + (28))) 59 1 ((((3) + ((0) * (71))) + (4)) + (56))) 60 0 (0 + 1)) 60 2 ((3) + ((0 + 1) * (71)))) 61 1 (((3) + ((0 + 1) * (71))) + (4))) 62 1 ((((3) + ((0 + 1) * (71))) + (4)) + (28))) 63 1 ((((3) + ((0 + 1) * (71))) + (4)) + (56))) 64 0 (0 + 1 + 1)) 64 2 ((3) + ((0 + 1 + 1) * (71)))) 65 1 (((3) + ((0 + 1 + 1) * (71))) + (4))) 66 1 ((((3) + ((0 + 1 + 1) * (71))) + (4)) + (28))) 67 1 ((((3) + ((0 + 1 + 1) * (71))) + (4)) + (56))) 68 0 (0 + 1 + 1 + 1)) 68 2 ((3) + ((0 + 1 + 1 + 1) * (71)))) 69 1 (((3) + ((0 + 1 + 1 + 1) * (71))) + (4))) 70 1 ((((3) + ((0 + 1 + 1 + 1) * (71))) + (4)) + (28))) 71 1 ((((3) + ((0 + 1 + 1 + 1) * (71))) + (4)) + (56))) 72 0 (0 + 1 + 1 + 1 + 1)) 72 2 ((3) + ((0 + 1 + 1 + 1 + 1) * (71)))) 73 1 (((3) + ((0 + 1 + 1 + 1 + 1) * (71))) + (4))) 74 1 ((((3) + ((0 + 1 + 1 + 1 + 1) * (71))) + (4)) + (28))) 75 1 ((((3) + ((0 + 1 + 1 + 1 + 1) * (71))) + (4)) + (56)))) (fun _ => rfl), zA (iv := Z0) (fun _ => rfl), zQ (rv := (uP (uP (uP (uP (uP (uP (uP (uP (uP (uP (uP (uP (uP (uP (uP (uP (uP (uP (uP (uP (uP (uP (uP (uP (uP (uP (uP (uP (uP (uP (uP (uP (uP (uP (uP (uP (uP (uP (uP (uP (uP (uP (uP (uP (uP RV8 51 3 (some 52)) 51 0 (some 11)) 53 1 (some 54)) 53 2 (some 55)) 53 0 (some 3)) 56 1 (some 54)) 57 0 (some 54)) 56 3 (some 57)) 58 0 (some 54)) 56 4 (some 58)) 59 0 (some 54)) 56 5 (some 59)) 55 (0) (some 56)) 60 1 (some 54)) 61 0 (some 54)) 60 3 (some 61)) 62 0 (some 54)) 60 4 (some 62)) 63 0 (some 54)) 60 5 (some 63)) 55 (0 + 1) (some 60)) 64 1 (some 54)) 65 0 (some 54)) 64 3 (some 65)) 66 0 (some 54)) 64 4 (some 66)) 67 0 (some 54)) 64 5 (some 67)) 55 (0 + 1 + 1) (some 64)) 68 1 (some 54)) 69 0 (some 54)) 68 3 (some 69)) 70 0 (some 54)) 68 4 (some 70)) 71 0 (some 54)) 68 5 (some 71)) 55 (0 + 1 + 1 + 1) (some 68)) 72 1 (some 54)) 73 0 (some 54)) 72 3 (some 73)) 74 0 (some 54)) 72 4 (some 74)) 75 0 (some 54)) 72 5 (some 75)) 55 (0 + 1 + 1 + 1 + 1) (some 72))) (fun _ => rfl)]
  show wp _ _ _ _ (aR 76 :: _) [(3, 11), (3, 10), (0, 240), (3, 7), (0, 5), (0, 24), (0, 16), (3, 8), (0, 5), (0, 24), (0, 16), (3, 4), (0, 429), (1, 6), (3, 3), (3, 9), (3, 9), (3, 2), (3, 3), (3, 9), (3, 9), (3, 2), (3, 3), (3, 9), (3, 9), (3, 2), (3, 3), (3, 9), (3, 9), (3, 2), (3, 3), (3, 9), (3, 9), (3, 2), (3, 3), (3, 9), (3, 9), (3, 2), (3, 1), (0, 16), (0, 4), (3, 0), (0, 160), (0, 6), (0, 6), (3, 6), (0, 300), (2, 40), (0, 40), (0, 429), (0, 180), (3, 5), (0, 6), (3, 4), (0, 429), (1, 6), (3, 3), (3, 9), (3, 9), (3, 2), (3, 3), (3, 9), (3, 9), (3, 2), (3, 3), (3, 9), (3, 9), (3, 2), (3, 3), (3, 9), (3, 9), (3, 2), (3, 3), (3, 9), (3, 9), (3, 2), (3, 3)] _ _ _ _ _ _
  refine wp_dup dX4_init_43 rfl ?_
  refine wp_iload_n dX4_init_44 rfl ?_
  refine wp_aload_n dX4_init_45 rfl ?_
  refine wp_getR (show (uP (uP (uP (uP (uP (uP (uP (uP (uP (uP (uP (uP (uP (uP (uP (uP (uP (uP (uP (uP (uP (uP (uP (uP (uP (uP (uP (uP (uP (uP (uP (uP (uP (uP (uP (uP (uP (uP (uP (uP (uP (uP (uP (uP (uP RV8 51 3 (some 52)) 51 0 (some 11)) 53 1 (some 54)) 53 2 (some 55)) 53 0 (some 3)) 56 1 (some 54)) 57 0 (some 54)) 56 3 (some 57)) 58 0 (some 54)) 56 4 (some 58)) 59 0 (some 54)) 56 5 (some 59)) 55 (0) (some 56)) 60 1 (some 54)) 61 0 (some 54)) 60 3 (some 61)) 62 0 (some 54)) 60 4 (some 62)) 63 0 (some 54)) 60 5 (some 63)) 55 (0 + 1) (some 60)) 64 1 (some 54)) 65 0 (some 54)) 64 3 (some 65)) 66 0 (some 54)) 64 4 (some 66)) 67 0 (some 54)) 64 5 (some 67)) 55 (0 + 1 + 1) (some 64)) 68 1 (some 54)) 69 0 (some 54)) 68 3 (some 69)) 70 0 (some 54)) 68 4 (some 70)) 71 0 (some 54)) 68 5 (some 71)) 55 (0 + 1 + 1 + 1) (some 68)) 72 1 (some 54)) 73 0 (some 54)) 72 3 (some 73)) 74 0 (some 54)) 72 4 (some 74)) 75 0 (some 54)) 72 5 (some 75)) 55 (0 + 1 + 1 + 1 + 1) (some 72)) 53 1 = some 54 from rfl) dX4_init_46 fX4_13 rfl ?_
  refine wp_iconst dX4_init_49 ?_
  refine wp_iload_n dX4_init_50 rfl ?_
  refine wp_bipush dX4_init_51 ?_
  refine wp_imul dX4_init_53 ⟨by decide, by decide⟩ ?_
  refine wp_iadd dX4_init_54 ⟨by decide, by decide⟩ ?_
  refine wp_callI (as := [_, _, _]) (ls0 := [_, _, _, _]) (kc := 3) (ks := 6) (bc' := 0) (bs' := 0) dX4_init_55 vX4_25 rfl rfl (Nat.le_of_ble_eq_true rfl) (Nat.le_of_ble_eq_true rfl) (by decide) (by decide) ?_
  refine wp_aload_n dX3_init_0 rfl ?_
  refine wp_obj dX3_init_1 oX3_9 (by omega) (Nat.le_of_ble_eq_true rfl) ?_
  refine wp_aload_n dX3_init_4 rfl ?_
  refine wp_iload_n dX3_init_5 rfl ?_
  refine wp_putIF dX3_init_6 gX3_15 rfl rfl ?_
  refine wp_aload_n dX3_init_9 rfl ?_
  refine wp_aload_n dX3_init_10 rfl ?_
  refine wp_putRF dX3_init_11 gX3_19 rfl rfl ?_
  refine wp_aload_n dX3_init_14 rfl ?_
  refine wp_iload_n dX3_init_15 rfl ?_
  refine wp_putIF dX3_init_16 gX3_23 rfl rfl ?_
  refine wp_aload_n dX3_init_19 rfl ?_
  refine wp_new (N := 2) dX3_init_20 wX3_3 rfl (by decide) ?_
  rw [zA (iv := (uI (uI (uI (uI (uI (uI (uI (uI (uI (uI (uI (uI (uI (uI (uI (uI (uI (uI (uI (uI (uI (uI (uI (uI (uI (uI (uI IV8 56 0 (0)) 56 2 ((3) + ((0) * (71)))) 57 1 (((3) + ((0) * (71))) + (4))) 58 1 ((((3) + ((0) * (71))) + (4)) + (28))) 59 1 ((((3) + ((0) * (71))) + (4)) + (56))) 60 0 (0 + 1)) 60 2 ((3) + ((0 + 1) * (71)))) 61 1 (((3) + ((0 + 1) * (71))) + (4))) 62 1 ((((3) + ((0 + 1) * (71))) + (4)) + (28))) 63 1 ((((3) + ((0 + 1) * (71))) + (4)) + (56))) 64 0 (0 + 1 + 1)) 64 2 ((3) + ((0 + 1 + 1) * (71)))) 65 1 (((3) + ((0 + 1 + 1) * (71))) + (4))) 66 1 ((((3) + ((0 + 1 + 1) * (71))) + (4)) + (28))) 67 1 ((((3) + ((0 + 1 + 1) * (71))) + (4)) + (56))) 68 0 (0 + 1 + 1 + 1)) 68 2 ((3) + ((0 + 1 + 1 + 1) * (71)))) 69 1 (((3) + ((0 + 1 + 1 + 1) * (71))) + (4))) 70 1 ((((3) + ((0 + 1 + 1 + 1) * (71))) + (4)) + (28))) 71 1 ((((3) + ((0 + 1 + 1 + 1) * (71))) + (4)) + (56))) 72 0 (0 + 1 + 1 + 1 + 1)) 72 2 ((3) + ((0 + 1 + 1 + 1 + 1) * (71)))) 73 1 (((3) + ((0 + 1 + 1 + 1 + 1) * (71))) + (4))) 74 1 ((((3) + ((0 + 1 + 1 + 1 + 1) * (71))) + (4)) + (28))) 75 1 ((((3) + ((0 + 1 + 1 + 1 + 1) * (71))) + (4)) + (56))) 76 0 (0 + 1 + 1 + 1 + 1 + 1)) 76 2 ((3) + ((0 + 1 + 1 + 1 + 1 + 1) * (71))))) (fun _ => rfl), zA (iv := Z0) (fun _ => rfl), zQ (rv := (uP (uP (uP (uP (uP (uP (uP (uP (uP (uP (uP (uP (uP (uP (uP (uP (uP (uP (uP (uP (uP (uP (uP (uP (uP (uP (uP (uP (uP (uP (uP (uP (uP (uP (uP (uP (uP (uP (uP (uP (uP (uP (uP (uP (uP (uP RV8 51 3 (some 52)) 51 0 (some 11)) 53 1 (some 54)) 53 2 (some 55)) 53 0 (some 3)) 56 1 (some 54)) 57 0 (some 54)) 56 3 (some 57)) 58 0 (some 54)) 56 4 (some 58)) 59 0 (some 54)) 56 5 (some 59)) 55 (0) (some 56)) 60 1 (some 54)) 61 0 (some 54)) 60 3 (some 61)) 62 0 (some 54)) 60 4 (some 62)) 63 0 (some 54)) 60 5 (some 63)) 55 (0 + 1) (some 60)) 64 1 (some 54)) 65 0 (some 54)) 64 3 (some 65)) 66 0 (some 54)) 64 4 (some 66)) 67 0 (some 54)) 64 5 (some 67)) 55 (0 + 1 + 1) (some 64)) 68 1 (some 54)) 69 0 (some 54)) 68 3 (some 69)) 70 0 (some 54)) 68 4 (some 70)) 71 0 (some 54)) 68 5 (some 71)) 55 (0 + 1 + 1 + 1) (some 68)) 72 1 (some 54)) 73 0 (some 54)) 72 3 (some 73)) 74 0 (some 54)) 72 4 (some 74)) 75 0 (some 54)) 72 5 (some 75)) 55 (0 + 1 + 1 + 1 + 1) (some 72)) 76 1 (some 54))) (fun _ => rfl)]
  show wp _ _ _ _ (aR 77 :: _) [(3, 11), (3, 10), (0, 240), (3, 7), (0, 5), (0, 24), (0, 16), (3, 8), (0, 5), (0, 24), (0, 16), (3, 4), (0, 429), (1, 6), (3, 3), (3, 9), (3, 9), (3, 2), (3, 3), (3, 9), (3, 9), (3, 2), (3, 3), (3, 9), (3, 9), (3, 2), (3, 3), (3, 9), (3, 9), (3, 2), (3, 3), (3, 9), (3, 9), (3, 2), (3, 3), (3, 9), (3, 9), (3, 2), (3, 1), (0, 16), (0, 4), (3, 0), (0, 160), (0, 6), (0, 6), (3, 6), (0, 300), (2, 40), (0, 40), (0, 429), (0, 180), (3, 5), (0, 6), (3, 4), (0, 429), (1, 6), (3, 3), (3, 9), (3, 9), (3, 2), (3, 3), (3, 9), (3, 9), (3, 2), (3, 3), (3, 9), (3, 9), (3, 2), (3, 3), (3, 9), (3, 9), (3, 2), (3, 3), (3, 9), (3, 9), (3, 2), (3, 3), (3, 9)] _ _ _ _ _ _
  refine wp_dup dX3_init_23 rfl ?_
  refine wp_aload_n dX3_init_24 rfl ?_
  refine wp_iload_n dX3_init_25 rfl ?_
  refine wp_iconst dX3_init_26 ?_
  refine wp_iadd dX3_init_27 ⟨by decide, by decide⟩ ?_
  refine wp_callI (as := [_, _]) (ls0 := [_, _, _]) (kc := 0) (ks := 0) (bc' := 2) (bs' := 4) dX3_init_28 vX3_26 rfl rfl (Nat.le_of_ble_eq_true rfl) (Nat.le_of_ble_eq_true rfl) (by decide) (by decide) ?_
  refine wp_aload_n dX9_init_0 rfl ?_
  refine wp_obj dX9_init_1 oX9_5 (by omega) (Nat.le_of_ble_eq_true rfl) ?_
  refine wp_aload_n dX9_init_4 rfl ?_
  refine wp_aload_n dX9_init_5 rfl ?_
  refine wp_putRF dX9_init_6 gX9_11 rfl rfl ?_
  refine wp_aload_n dX9_init_9 rfl ?_
  refine wp_iload_n dX9_init_10 rfl ?_
  refine wp_putIF dX9_init_11 gX9_15 rfl rfl ?_
  refine wp_return dX9_init_14 rfl ?_
  refine wp_putRF dX3_init_31 gX3_29 rfl rfl ?_
  refine wp_aload_n dX3_init_34 rfl ?_
  refine wp_new (N := 2) dX3_init_35 wX3_3 rfl (by decide) ?_
  rw [zA (iv := (uI (uI (uI (uI (uI (uI (uI (uI (uI (uI (uI (uI (uI (uI (uI (uI (uI (uI (uI (uI (uI (uI (uI (uI (uI (uI (uI (uI IV8 56 0 (0)) 56 2 ((3) + ((0) * (71)))) 57 1 (((3) + ((0) * (71))) + (4))) 58 1 ((((3) + ((0) * (71))) + (4)) + (28))) 59 1 ((((3) + ((0) * (71))) + (4)) + (56))) 60 0 (0 + 1)) 60 2 ((3) + ((0 + 1) * (71)))) 61 1 (((3) + ((0 + 1) * (71))) + (4))) 62 1 ((((3) + ((0 + 1) * (71))) + (4)) + (28))) 63 1 ((((3) + ((0 + 1) * (71))) + (4)) + (56))) 64 0 (0 + 1 + 1)) 64 2 ((3) + ((0 + 1 + 1) * (71)))) 65 1 (((3) + ((0 + 1 + 1) * (71))) + (4))) 66 1 ((((3) + ((0 + 1 + 1) * (71))) + (4)) + (28))) 67 1 ((((3) + ((0 + 1 + 1) * (71))) + (4)) + (56))) 68 0 (0 + 1 + 1 + 1)) 68 2 ((3) + ((0 + 1 + 1 + 1) * (71)))) 69 1 (((3) + ((0 + 1 + 1 + 1) * (71))) + (4))) 70 1 ((((3) + ((0 + 1 + 1 + 1) * (71))) + (4)) + (28))) 71 1 ((((3) + ((0 + 1 + 1 + 1) * (71))) + (4)) + (56))) 72 0 (0 + 1 + 1 + 1 + 1)) 72 2 ((3) + ((0 + 1 + 1 + 1 + 1) * (71)))) 73 1 (((3) + ((0 + 1 + 1 + 1 + 1) * (71))) + (4))) 74 1 ((((3) + ((0 + 1 + 1 + 1 + 1) * (71))) + (4)) + (28))) 75 1 ((((3) + ((0 + 1 + 1 + 1 + 1) * (71))) + (4)) + (56))) 76 0 (0 + 1 + 1 + 1 + 1 + 1)) 76 2 ((3) + ((0 + 1 + 1 + 1 + 1 + 1) * (71)))) 77 1 (((3) + ((0 + 1 + 1 + 1 + 1 + 1) * (71))) + (4)))) (fun _ => rfl), zA (iv := Z0) (fun _ => rfl), zQ (rv := (uP (uP (uP (uP (uP (uP (uP (uP (uP (uP (uP (uP (uP (uP (uP (uP (uP (uP (uP (uP (uP (uP (uP (uP (uP (uP (uP (uP (uP (uP (uP (uP (uP (uP (uP (uP (uP (uP (uP (uP (uP (uP (uP (uP (uP (uP (uP (uP RV8 51 3 (some 52)) 51 0 (some 11)) 53 1 (some 54)) 53 2 (some 55)) 53 0 (some 3)) 56 1 (some 54)) 57 0 (some 54)) 56 3 (some 57)) 58 0 (some 54)) 56 4 (some 58)) 59 0 (some 54)) 56 5 (some 59)) 55 (0) (some 56)) 60 1 (some 54)) 61 0 (some 54)) 60 3 (some 61)) 62 0 (some 54)) 60 4 (some 62)) 63 0 (some 54)) 60 5 (some 63)) 55 (0 + 1) (some 60)) 64 1 (some 54)) 65 0 (some 54)) 64 3 (some 65)) 66 0 (some 54)) 64 4 (some 66)) 67 0 (some 54)) 64 5 (some 67)) 55 (0 + 1 + 1) (some 64)) 68 1 (some 54)) 69 0 (some 54)) 68 3 (some 69)) 70 0 (some 54)) 68 4 (some 70)) 71 0 (some 54)) 68 5 (some 71)) 55 (0 + 1 + 1 + 1) (some 68)) 72 1 (some 54)) 73 0 (some 54)) 72 3 (some 73)) 74 0 (some 54)) 72 4 (some 74)) 75 0 (some 54)) 72 5 (some 75)) 55 (0 + 1 + 1 + 1 + 1) (some 72)) 76 1 (some 54)) 77 0 (some 54)) 76 3 (some 77))) (fun _ => rfl)]
  show wp _ _ _ _ (aR 78 :: _) [(3, 11), (3, 10), (0, 240), (3, 7), (0, 5), (0, 24), (0, 16), (3, 8), (0, 5), (0, 24), (0, 16), (3, 4), (0, 429), (1, 6), (3, 3), (3, 9), (3, 9), (3, 2), (3, 3), (3, 9), (3, 9), (3, 2), (3, 3), (3, 9), (3, 9), (3, 2), (3, 3), (3, 9), (3, 9), (3, 2), (3, 3), (3, 9), (3, 9), (3, 2), (3, 3), (3, 9), (3, 9), (3, 2), (3, 1), (0, 16), (0, 4), (3, 0), (0, 160), (0, 6), (0, 6), (3, 6), (0, 300), (2, 40), (0, 40), (0, 429), (0, 180), (3, 5), (0, 6), (3, 4), (0, 429), (1, 6), (3, 3), (3, 9), (3, 9), (3, 2), (3, 3), (3, 9), (3, 9), (3, 2), (3, 3), (3, 9), (3, 9), (3, 2), (3, 3), (3, 9), (3, 9), (3, 2), (3, 3), (3, 9), (3, 9), (3, 2), (3, 3), (3, 9), (3, 9)] _ _ _ _ _ _
  refine wp_dup dX3_init_38 rfl ?_
  refine wp_aload_n dX3_init_39 rfl ?_
  refine wp_iload_n dX3_init_40 rfl ?_
  refine wp_iconst dX3_init_41 ?_
  refine wp_iadd dX3_init_42 ⟨by decide, by decide⟩ ?_
  refine wp_bipush dX3_init_43 ?_
  refine wp_iadd dX3_init_45 ⟨by decide, by decide⟩ ?_
  refine wp_callI (as := [_, _]) (ls0 := [_, _, _]) (kc := 0) (ks := 0) (bc' := 1) (bs' := 2) dX3_init_46 vX3_26 rfl rfl (Nat.le_of_ble_eq_true rfl) (Nat.le_of_ble_eq_true rfl) (by decide) (by decide) ?_
  refine wp_aload_n dX9_init_0 rfl ?_
  refine wp_obj dX9_init_1 oX9_5 (by omega) (Nat.le_of_ble_eq_true rfl) ?_
  refine wp_aload_n dX9_init_4 rfl ?_
  refine wp_aload_n dX9_init_5 rfl ?_
  refine wp_putRF dX9_init_6 gX9_11 rfl rfl ?_
  refine wp_aload_n dX9_init_9 rfl ?_
  refine wp_iload_n dX9_init_10 rfl ?_
  refine wp_putIF dX9_init_11 gX9_15 rfl rfl ?_
  refine wp_return dX9_init_14 rfl ?_
  refine wp_putRF dX3_init_49 gX3_33 rfl rfl ?_
  refine wp_aload_n dX3_init_52 rfl ?_
  refine wp_new (N := 2) dX3_init_53 wX3_5 rfl (by decide) ?_
  rw [zA (iv := (uI (uI (uI (uI (uI (uI (uI (uI (uI (uI (uI (uI (uI (uI (uI (uI (uI (uI (uI (uI (uI (uI (uI (uI (uI (uI (uI (uI (uI IV8 56 0 (0)) 56 2 ((3) + ((0) * (71)))) 57 1 (((3) + ((0) * (71))) + (4))) 58 1 ((((3) + ((0) * (71))) + (4)) + (28))) 59 1 ((((3) + ((0) * (71))) + (4)) + (56))) 60 0 (0 + 1)) 60 2 ((3) + ((0 + 1) * (71)))) 61 1 (((3) + ((0 + 1) * (71))) + (4))) 62 1 ((((3) + ((0 + 1) * (71))) + (4)) + (28))) 63 1 ((((3) + ((0 + 1) * (71))) + (4)) + (56))) 64 0 (0 + 1 + 1)) 64 2 ((3) + ((0 + 1 + 1) * (71)))) 65 1 (((3) + ((0 + 1 + 1) * (71))) + (4))) 66 1 ((((3) + ((0 + 1 + 1) * (71))) + (4)) + (28))) 67 1 ((((3) + ((0 + 1 + 1) * (71))) + (4)) + (56))) 68 0 (0 + 1 + 1 + 1)) 68 2 ((3) + ((0 + 1 + 1 + 1) * (71)))) 69 1 (((3) + ((0 + 1 + 1 + 1) * (71))) + (4))) 70 1 ((((3) + ((0 + 1 + 1 + 1) * (71))) + (4)) + (28))) 71 1 ((((3) + ((0 + 1 + 1 + 1) * (71))) + (4)) + (56))) 72 0 (0 + 1 + 1 + 1 + 1)) 72 2 ((3) + ((0 + 1 + 1 + 1 + 1) * (71)))) 73 1 (((3) + ((0 + 1 + 1 + 1 + 1) * (71))) + (4))) 74 1 ((((3) + ((0 + 1 + 1 + 1 + 1) * (71))) + (4)) + (28))) 75 1 ((((3) + ((0 + 1 + 1 + 1 + 1) * (71))) + (4)) + (56))) 76 0 (0 + 1 + 1 + 1 + 1 + 1)) 76 2 ((3) + ((0 + 1 + 1 + 1 + 1 + 1) * (71)))) 77 1 (((3) + ((0 + 1 + 1 + 1 + 1 + 1) * (71))) + (4))) 78 1 ((((3) + ((0 + 1 + 1 + 1 + 1 + 1) * (71))) + (4)) + (28)))) (fun _ => rfl), zA (iv := Z0) (fun _ => rfl), zQ (rv := (uP (uP (uP (uP (uP (uP (uP (uP (uP (uP (uP (uP (uP (uP (uP (uP (uP (uP (uP (uP (uP (uP (uP (uP (uP (uP (uP (uP (uP (uP (uP (uP (uP (uP (uP (uP (uP (uP (uP (uP (uP (uP (uP (uP (uP (uP (uP (uP (uP (uP RV8 51 3 (some 52)) 51 0 (some 11)) 53 1 (some 54)) 53 2 (some 55)) 53 0 (some 3)) 56 1 (some 54)) 57 0 (some 54)) 56 3 (some 57)) 58 0 (some 54)) 56 4 (some 58)) 59 0 (some 54)) 56 5 (some 59)) 55 (0) (some 56)) 60 1 (some 54)) 61 0 (some 54)) 60 3 (some 61)) 62 0 (some 54)) 60 4 (some 62)) 63 0 (some 54)) 60 5 (some 63)) 55 (0 + 1) (some 60)) 64 1 (some 54)) 65 0 (some 54)) 64 3 (some 65)) 66 0 (some 54)) 64 4 (some 66)) 67 0 (some 54)) 64 5 (some 67)) 55 (0 + 1 + 1) (some 64)) 68 1 (some 54)) 69 0 (some 54)) 68 3 (some 69)) 70 0 (some 54)) 68 4 (some 70)) 71 0 (some 54)) 68 5 (some 71)) 55 (0 + 1 + 1 + 1) (some 68)) 72 1 (some 54)) 73 0 (some 54)) 72 3 (some 73)) 74 0 (some 54)) 72 4 (some 74)) 75 0 (some 54)) 72 5 (some 75)) 55 (0 + 1 + 1 + 1 + 1) (some 72)) 76 1 (some 54)) 77 0 (some 54)) 76 3 (some 77)) 78 0 (some 54)) 76 4 (some 78))) (fun _ => rfl)]
  show wp _ _ _ _ (aR 79 :: _) [(3, 11), (3, 10), (0, 240), (3, 7), (0, 5), (0, 24), (0, 16), (3, 8), (0, 5), (0, 24), (0, 16), (3, 4), (0, 429), (1, 6), (3, 3), (3, 9), (3, 9), (3, 2), (3, 3), (3, 9), (3, 9), (3, 2), (3, 3), (3, 9), (3, 9), (3, 2), (3, 3), (3, 9), (3, 9), (3, 2), (3, 3), (3, 9), (3, 9), (3, 2), (3, 3), (3, 9), (3, 9), (3, 2), (3, 1), (0, 16), (0, 4), (3, 0), (0, 160), (0, 6), (0, 6), (3, 6), (0, 300), (2, 40), (0, 40), (0, 429), (0, 180), (3, 5), (0, 6), (3, 4), (0, 429), (1, 6), (3, 3), (3, 9), (3, 9), (3, 2), (3, 3), (3, 9), (3, 9), (3, 2), (3, 3), (3, 9), (3, 9), (3, 2), (3, 3), (3, 9), (3, 9), (3, 2), (3, 3), (3, 9), (3, 9), (3, 2), (3, 3), (3, 9), (3, 9), (3, 2)] _ _ _ _ _ _
  refine wp_dup dX3_init_56 rfl ?_
  refine wp_aload_n dX3_init_57 rfl ?_
  refine wp_iload_n dX3_init_58 rfl ?_
  refine wp_iconst dX3_init_59 ?_
  refine wp_iadd dX3_init_60 ⟨by decide, by decide⟩ ?_
  refine wp_bipush dX3_init_61 ?_
  refine wp_iadd dX3_init_63 ⟨by decide, by decide⟩ ?_
  refine wp_callI (as := [_, _]) (ls0 := [_, _, _]) (kc := 0) (ks := 0) (bc' := 0) (bs' := 0) dX3_init_64 vX3_36 rfl rfl (Nat.le_of_ble_eq_true rfl) (Nat.le_of_ble_eq_true rfl) (by decide) (by decide) ?_
  refine wp_aload_n dX2_init_0 rfl ?_
  refine wp_obj dX2_init_1 oX2_5 (by omega) (Nat.le_of_ble_eq_true rfl) ?_
  refine wp_aload_n dX2_init_4 rfl ?_
  refine wp_aload_n dX2_init_5 rfl ?_
  refine wp_putRF dX2_init_6 gX2_11 rfl rfl ?_
  refine wp_aload_n dX2_init_9 rfl ?_
  refine wp_iload_n dX2_init_10 rfl ?_
  refine wp_putIF dX2_init_11 gX2_15 rfl rfl ?_
  refine wp_return dX2_init_14 rfl ?_
  refine wp_putRF dX3_init_67 gX3_37 rfl rfl ?_
  refine wp_return dX3_init_70 rfl ?_
  refine wp_aastL dX4_init_58 rfl rfl (by decide) (by decide) ?_
  refine wp_iinc (ls' := [_, _, _]) dX4_init_59 (by decide) rfl rfl ⟨by decide, by decide⟩ rfl ?_
  refine wp_goto (tgt := 29) dX4_init_62 rfl ?_
  refine wp_iload_n dX4_init_29 rfl ?_
  refine wp_bipush dX4_init_30 ?_
  refine wp_icmp_ge (tgt := 65) dX4_init_32 rfl (fun _ => ?_) (fun q => absurd q (by decide))
  refine wp_return dX4_init_65 rfl ?_
  refine wp_putRF dX5_init_29 gX5_28 rfl rfl ?_
  refine wp_aload_n dX5_init_32 rfl ?_
  refine wp_new (N := 6) dX5_init_33 wX5_31 rfl (by decide) ?_
  rw [zA (iv := (uI (uI (uI (uI (uI (uI (uI (uI (uI (uI (uI (uI (uI (uI (uI (uI (uI (uI (uI (uI (uI (uI (uI (uI (uI (uI (uI (uI (uI (uI IV8 56 0 (0)) 56 2 ((3) + ((0) * (71)))) 57 1 (((3) + ((0) * (71))) + (4))) 58 1 ((((3) + ((0) * (71))) + (4)) + (28))) 59 1 ((((3) + ((0) * (71))) + (4)) + (56))) 60 0 (0 + 1)) 60 2 ((3) + ((0 + 1) * (71)))) 61 1 (((3) + ((0 + 1) * (71))) + (4))) 62 1 ((((3) + ((0 + 1) * (71))) + (4)) + (28))) 63 1 ((((3) + ((0 + 1) * (71))) + (4)) + (56))) 64 0 (0 + 1 + 1)) 64 2 ((3) + ((0 + 1 + 1) * (71)))) 65 1 (((3) + ((0 + 1 + 1) * (71))) + (4))) 66 1 ((((3) + ((0 + 1 + 1) * (71))) + (4)) + (28))) 67 1 ((((3) + ((0 + 1 + 1) * (71))) + (4)) + (56))) 68 0 (0 + 1 + 1 + 1)) 68 2 ((3) + ((0 + 1 + 1 + 1) * (71)))) 69 1 (((3) + ((0 + 1 + 1 + 1) * (71))) + (4))) 70 1 ((((3) + ((0 + 1 + 1 + 1) * (71))) + (4)) + (28))) 71 1 ((((3) + ((0 + 1 + 1 + 1) * (71))) + (4)) + (56))) 72 0 (0 + 1 + 1 + 1 + 1)) 72 2 ((3) + ((0 + 1 + 1 + 1 + 1) * (71)))) 73 1 (((3) + ((0 + 1 + 1 + 1 + 1) * (71))) + (4))) 74 1 ((((3) + ((0 + 1 + 1 + 1 + 1) * (71))) + (4)) + (28))) 75 1 ((((3) + ((0 + 1 + 1 + 1 + 1) * (71))) + (4)) + (56))) 76 0 (0 + 1 + 1 + 1 + 1 + 1)) 76 2 ((3) + ((0 + 1 + 1 + 1 + 1 + 1) * (71)))) 77 1 (((3) + ((0 + 1 + 1 + 1 + 1 + 1) * (71))) + (4))) 78 1 ((((3) + ((0 + 1 + 1 + 1 + 1 + 1) * (71))) + (4)) + (28))) 79 1 ((((3) + ((0 + 1 + 1 + 1 + 1 + 1) * (71))) + (4)) + (56)))) (fun _ => rfl), zA (iv := Z0) (fun _ => rfl), zQ (rv := (uP (uP (uP (uP (uP (uP (uP (uP (uP (uP (uP (uP (uP (uP (uP (uP (uP (uP (uP (uP (uP (uP (uP (uP (uP (uP (uP (uP (uP (uP (uP (uP (uP (uP (uP (uP (uP (uP (uP (uP (uP (uP (uP (uP (uP (uP (uP (uP (uP (uP (uP (uP (uP (uP RV8 51 3 (some 52)) 51 0 (some 11)) 53 1 (some 54)) 53 2 (some 55)) 53 0 (some 3)) 56 1 (some 54)) 57 0 (some 54)) 56 3 (some 57)) 58 0 (some 54)) 56 4 (some 58)) 59 0 (some 54)) 56 5 (some 59)) 55 (0) (some 56)) 60 1 (some 54)) 61 0 (some 54)) 60 3 (some 61)) 62 0 (some 54)) 60 4 (some 62)) 63 0 (some 54)) 60 5 (some 63)) 55 (0 + 1) (some 60)) 64 1 (some 54)) 65 0 (some 54)) 64 3 (some 65)) 66 0 (some 54)) 64 4 (some 66)) 67 0 (some 54)) 64 5 (some 67)) 55 (0 + 1 + 1) (some 64)) 68 1 (some 54)) 69 0 (some 54)) 68 3 (some 69)) 70 0 (some 54)) 68 4 (some 70)) 71 0 (some 54)) 68 5 (some 71)) 55 (0 + 1 + 1 + 1) (some 68)) 72 1 (some 54)) 73 0 (some 54)) 72 3 (some 73)) 74 0 (some 54)) 72 4 (some 74)) 75 0 (some 54)) 72 5 (some 75)) 55 (0 + 1 + 1 + 1 + 1) (some 72)) 76 1 (some 54)) 77 0 (some 54)) 76 3 (some 77)) 78 0 (some 54)) 76 4 (some 78)) 79 0 (some 54)) 76 5 (some 79)) 55 (0 + 1 + 1 + 1 + 1 + 1) (some 76)) 51 1 (some 53))) (fun _ => rfl)]
  show wp _ _ _ _ (aR 80 :: _) [(3, 11), (3, 10), (0, 240), (3, 7), (0, 5), (0, 24), (0, 16), (3, 8), (0, 5), (0, 24), (0, 16), (3, 4), (0, 429), (1, 6), (3, 3), (3, 9), (3, 9), (3, 2), (3, 3), (3, 9), (3, 9), (3, 2), (3, 3), (3, 9), (3, 9), (3, 2), (3, 3), (3, 9), (3, 9), (3, 2), (3, 3), (3, 9), (3, 9), (3, 2), (3, 3), (3, 9), (3, 9), (3, 2), (3, 1), (0, 16), (0, 4), (3, 0), (0, 160), (0, 6), (0, 6), (3, 6), (0, 300), (2, 40), (0, 40), (0, 429), (0, 180), (3, 5), (0, 6), (3, 4), (0, 429), (1, 6), (3, 3), (3, 9), (3, 9), (3, 2), (3, 3), (3, 9), (3, 9), (3, 2), (3, 3), (3, 9), (3, 9), (3, 2), (3, 3), (3, 9), (3, 9), (3, 2), (3, 3), (3, 9), (3, 9), (3, 2), (3, 3), (3, 9), (3, 9), (3, 2), (3, 0)] _ _ _ _ _ _
  refine wp_dup dX5_init_36 rfl ?_
  refine wp_aload_n dX5_init_37 rfl ?_
  refine wp_getR (show (uP (uP (uP (uP (uP (uP (uP (uP (uP (uP (uP (uP (uP (uP (uP (uP (uP (uP (uP (uP (uP (uP (uP (uP (uP (uP (uP (uP (uP (uP (uP (uP (uP (uP (uP (uP (uP (uP (uP (uP (uP (uP (uP (uP (uP (uP (uP (uP (uP (uP (uP (uP (uP (uP RV8 51 3 (some 52)) 51 0 (some 11)) 53 1 (some 54)) 53 2 (some 55)) 53 0 (some 3)) 56 1 (some 54)) 57 0 (some 54)) 56 3 (some 57)) 58 0 (some 54)) 56 4 (some 58)) 59 0 (some 54)) 56 5 (some 59)) 55 (0) (some 56)) 60 1 (some 54)) 61 0 (some 54)) 60 3 (some 61)) 62 0 (some 54)) 60 4 (some 62)) 63 0 (some 54)) 60 5 (some 63)) 55 (0 + 1) (some 60)) 64 1 (some 54)) 65 0 (some 54)) 64 3 (some 65)) 66 0 (some 54)) 64 4 (some 66)) 67 0 (some 54)) 64 5 (some 67)) 55 (0 + 1 + 1) (some 64)) 68 1 (some 54)) 69 0 (some 54)) 68 3 (some 69)) 70 0 (some 54)) 68 4 (some 70)) 71 0 (some 54)) 68 5 (some 71)) 55 (0 + 1 + 1 + 1) (some 68)) 72 1 (some 54)) 73 0 (some 54)) 72 3 (some 73)) 74 0 (some 54)) 72 4 (some 74)) 75 0 (some 54)) 72 5 (some 75)) 55 (0 + 1 + 1 + 1 + 1) (some 72)) 76 1 (some 54)) 77 0 (some 54)) 76 3 (some 77)) 78 0 (some 54)) 76 4 (some 78)) 79 0 (some 54)) 76 5 (some 79)) 55 (0 + 1 + 1 + 1 + 1 + 1) (some 76)) 51 1 (some 53)) 51 1 = some 53 from rfl) dX5_init_38 fX5_28 rfl ?_
  refine wp_new (N := 6) dX5_init_41 wX5_33 rfl (by decide) ?_
  rw [zA (iv := (uI (uI (uI (uI (uI (uI (uI (uI (uI (uI (uI (uI (uI (uI (uI (uI (uI (uI (uI (uI (uI (uI (uI (uI (uI (uI (uI (uI (uI (uI IV8 56 0 (0)) 56 2 ((3) + ((0) * (71)))) 57 1 (((3) + ((0) * (71))) + (4))) 58 1 ((((3) + ((0) * (71))) + (4)) + (28))) 59 1 ((((3) + ((0) * (71))) + (4)) + (56))) 60 0 (0 + 1)) 60 2 ((3) + ((0 + 1) * (71)))) 61 1 (((3) + ((0 + 1) * (71))) + (4))) 62 1 ((((3) + ((0 + 1) * (71))) + (4)) + (28))) 63 1 ((((3) + ((0 + 1) * (71))) + (4)) + (56))) 64 0 (0 + 1 + 1)) 64 2 ((3) + ((0 + 1 + 1) * (71)))) 65 1 (((3) + ((0 + 1 + 1) * (71))) + (4))) 66 1 ((((3) + ((0 + 1 + 1) * (71))) + (4)) + (28))) 67 1 ((((3) + ((0 + 1 + 1) * (71))) + (4)) + (56))) 68 0 (0 + 1 + 1 + 1)) 68 2 ((3) + ((0 + 1 + 1 + 1) * (71)))) 69 1 (((3) + ((0 + 1 + 1 + 1) * (71))) + (4))) 70 1 ((((3) + ((0 + 1 + 1 + 1) * (71))) + (4)) + (28))) 71 1 ((((3) + ((0 + 1 + 1 + 1) * (71))) + (4)) + (56))) 72 0 (0 + 1 + 1 + 1 + 1)) 72 2 ((3) + ((0 + 1 + 1 + 1 + 1) * (71)))) 73 1 (((3) + ((0 + 1 + 1 + 1 + 1) * (71))) + (4))) 74 1 ((((3) + ((0 + 1 + 1 + 1 + 1) * (71))) + (4)) + (28))) 75 1 ((((3) + ((0 + 1 + 1 + 1 + 1) * (71))) + (4)) + (56))) 76 0 (0 + 1 + 1 + 1 + 1 + 1)) 76 2 ((3) + ((0 + 1 + 1 + 1 + 1 + 1) * (71)))) 77 1 (((3) + ((0 + 1 + 1 + 1 + 1 + 1) * (71))) + (4))) 78 1 ((((3) + ((0 + 1 + 1 + 1 + 1 + 1) * (71))) + (4)) + (28))) 79 1 ((((3) + ((0 + 1 + 1 + 1 + 1 + 1) * (71))) + (4)) + (56)))) (fun _ => rfl), zA (iv := Z0) (fun _ => rfl), zQ (rv := (uP (uP (uP (uP (uP (uP (uP (uP (uP (uP (uP (uP (uP (uP (uP (uP (uP (uP (uP (uP (uP (uP (uP (uP (uP (uP (uP (uP (uP (uP (uP (uP (uP (uP (uP (uP (uP (uP (uP (uP (uP (uP (uP (uP (uP (uP (uP (uP (uP (uP (uP (uP (uP (uP RV8 51 3 (some 52)) 51 0 (some 11)) 53 1 (some 54)) 53 2 (some 55)) 53 0 (some 3)) 56 1 (some 54)) 57 0 (some 54)) 56 3 (some 57)) 58 0 (some 54)) 56 4 (some 58)) 59 0 (some 54)) 56 5 (some 59)) 55 (0) (some 56)) 60 1 (some 54)) 61 0 (some 54)) 60 3 (some 61)) 62 0 (some 54)) 60 4 (some 62)) 63 0 (some 54)) 60 5 (some 63)) 55 (0 + 1) (some 60)) 64 1 (some 54)) 65 0 (some 54)) 64 3 (some 65)) 66 0 (some 54)) 64 4 (some 66)) 67 0 (some 54)) 64 5 (some 67)) 55 (0 + 1 + 1) (some 64)) 68 1 (some 54)) 69 0 (some 54)) 68 3 (some 69)) 70 0 (some 54)) 68 4 (some 70)) 71 0 (some 54)) 68 5 (some 71)) 55 (0 + 1 + 1 + 1) (some 68)) 72 1 (some 54)) 73 0 (some 54)) 72 3 (some 73)) 74 0 (some 54)) 72 4 (some 74)) 75 0 (some 54)) 72 5 (some 75)) 55 (0 + 1 + 1 + 1 + 1) (some 72)) 76 1 (some 54)) 77 0 (some 54)) 76 3 (some 77)) 78 0 (some 54)) 76 4 (some 78)) 79 0 (some 54)) 76 5 (some 79)) 55 (0 + 1 + 1 + 1 + 1 + 1) (some 76)) 51 1 (some 53))) (fun _ => rfl)]
  show wp _ _ _ _ (aR 81 :: _) [(3, 11), (3, 10), (0, 240), (3, 7), (0, 5), (0, 24), (0, 16), (3, 8), (0, 5), (0, 24), (0, 16), (3, 4), (0, 429), (1, 6), (3, 3), (3, 9), (3, 9), (3, 2), (3, 3), (3, 9), (3, 9), (3, 2), (3, 3), (3, 9), (3, 9), (3, 2), (3, 3), (3, 9), (3, 9), (3, 2), (3, 3), (3, 9), (3, 9), (3, 2), (3, 3), (3, 9), (3, 9), (3, 2), (3, 1), (0, 16), (0, 4), (3, 0), (0, 160), (0, 6), (0, 6), (3, 6), (0, 300), (2, 40), (0, 40), (0, 429), (0, 180), (3, 5), (0, 6), (3, 4), (0, 429), (1, 6), (3, 3), (3, 9), (3, 9), (3, 2), (3, 3), (3, 9), (3, 9), (3, 2), (3, 3), (3, 9), (3, 9), (3, 2), (3, 3), (3, 9), (3, 9), (3, 2), (3, 3), (3, 9), (3, 9), (3, 2), (3, 3), (3, 9), (3, 9), (3, 2), (3, 0), (3, 1)] _ _ _ _ _ _
  refine wp_dup dX5_init_44 rfl ?_
  refine wp_aload_n dX5_init_45 rfl ?_
  refine wp_getR (show (uP (uP (uP (uP (uP (uP (uP (uP (uP (uP (uP (uP (uP (uP (uP (uP (uP (uP (uP (uP (uP (uP (uP (uP (uP (uP (uP (uP (uP (uP (uP (uP (uP (uP (uP (uP (uP (uP (uP (uP (uP (uP (uP (uP (uP (uP (uP (uP (uP (uP (uP (uP (uP (uP RV8 51 3 (some 52)) 51 0 (some 11)) 53 1 (some 54)) 53 2 (some 55)) 53 0 (some 3)) 56 1 (some 54)) 57 0 (some 54)) 56 3 (some 57)) 58 0 (some 54)) 56 4 (some 58)) 59 0 (some 54)) 56 5 (some 59)) 55 (0) (some 56)) 60 1 (some 54)) 61 0 (some 54)) 60 3 (some 61)) 62 0 (some 54)) 60 4 (some 62)) 63 0 (some 54)) 60 5 (some 63)) 55 (0 + 1) (some 60)) 64 1 (some 54)) 65 0 (some 54)) 64 3 (some 65)) 66 0 (some 54)) 64 4 (some 66)) 67 0 (some 54)) 64 5 (some 67)) 55 (0 + 1 + 1) (some 64)) 68 1 (some 54)) 69 0 (some 54)) 68 3 (some 69)) 70 0 (some 54)) 68 4 (some 70)) 71 0 (some 54)) 68 5 (some 71)) 55 (0 + 1 + 1 + 1) (some 68)) 72 1 (some 54)) 73 0 (some 54)) 72 3 (some 73)) 74 0 (some 54)) 72 4 (some 74)) 75 0 (some 54)) 72 5 (some 75)) 55 (0 + 1 + 1 + 1 + 1) (some 72)) 76 1 (some 54)) 77 0 (some 54)) 76 3 (some 77)) 78 0 (some 54)) 76 4 (some 78)) 79 0 (some 54)) 76 5 (some 79)) 55 (0 + 1 + 1 + 1 + 1 + 1) (some 76)) 51 1 (some 53)) 51 1 = some 53 from rfl) dX5_init_46 fX5_28 rfl ?_
  refine wp_callI (as := [_]) (ls0 := [_, _]) (kc := 2) (ks := 20) (bc' := 3) (bs' := 172) dX5_init_49 vX5_35 rfl rfl (Nat.le_of_ble_eq_true rfl) (Nat.le_of_ble_eq_true rfl) (by decide) (by decide) ?_
  refine wp_aload_n dX1_init_0 rfl ?_
  refine wp_obj dX1_init_1 oX1_3 (by omega) (Nat.le_of_ble_eq_true rfl) ?_
  refine wp_aload_n dX1_init_4 rfl ?_
  refine wp_bipush dX1_init_5 ?_
  refine wp_newI (N := 16) dX1_init_7 rfl (by decide) ?_
  rw [zA (iv := (uI (uI (uI (uI (uI (uI (uI (uI (uI (uI (uI (uI (uI (uI (uI (uI (uI (uI (uI (uI (uI (uI (uI (uI (uI (uI (uI (uI (uI (uI IV8 56 0 (0)) 56 2 ((3) + ((0) * (71)))) 57 1 (((3) + ((0) * (71))) + (4))) 58 1 ((((3) + ((0) * (71))) + (4)) + (28))) 59 1 ((((3) + ((0) * (71))) + (4)) + (56))) 60 0 (0 + 1)) 60 2 ((3) + ((0 + 1) * (71)))) 61 1 (((3) + ((0 + 1) * (71))) + (4))) 62 1 ((((3) + ((0 + 1) * (71))) + (4)) + (28))) 63 1 ((((3) + ((0 + 1) * (71))) + (4)) + (56))) 64 0 (0 + 1 + 1)) 64 2 ((3) + ((0 + 1 + 1) * (71)))) 65 1 (((3) + ((0 + 1 + 1) * (71))) + (4))) 66 1 ((((3) + ((0 + 1 + 1) * (71))) + (4)) + (28))) 67 1 ((((3) + ((0 + 1 + 1) * (71))) + (4)) + (56))) 68 0 (0 + 1 + 1 + 1)) 68 2 ((3) + ((0 + 1 + 1 + 1) * (71)))) 69 1 (((3) + ((0 + 1 + 1 + 1) * (71))) + (4))) 70 1 ((((3) + ((0 + 1 + 1 + 1) * (71))) + (4)) + (28))) 71 1 ((((3) + ((0 + 1 + 1 + 1) * (71))) + (4)) + (56))) 72 0 (0 + 1 + 1 + 1 + 1)) 72 2 ((3) + ((0 + 1 + 1 + 1 + 1) * (71)))) 73 1 (((3) + ((0 + 1 + 1 + 1 + 1) * (71))) + (4))) 74 1 ((((3) + ((0 + 1 + 1 + 1 + 1) * (71))) + (4)) + (28))) 75 1 ((((3) + ((0 + 1 + 1 + 1 + 1) * (71))) + (4)) + (56))) 76 0 (0 + 1 + 1 + 1 + 1 + 1)) 76 2 ((3) + ((0 + 1 + 1 + 1 + 1 + 1) * (71)))) 77 1 (((3) + ((0 + 1 + 1 + 1 + 1 + 1) * (71))) + (4))) 78 1 ((((3) + ((0 + 1 + 1 + 1 + 1 + 1) * (71))) + (4)) + (28))) 79 1 ((((3) + ((0 + 1 + 1 + 1 + 1 + 1) * (71))) + (4)) + (56)))) (fun _ => rfl), zA (iv := Z0) (fun _ => rfl), zQ (rv := (uP (uP (uP (uP (uP (uP (uP (uP (uP (uP (uP (uP (uP (uP (uP (uP (uP (uP (uP (uP (uP (uP (uP (uP (uP (uP (uP (uP (uP (uP (uP (uP (uP (uP (uP (uP (uP (uP (uP (uP (uP (uP (uP (uP (uP (uP (uP (uP (uP (uP (uP (uP (uP (uP RV8 51 3 (some 52)) 51 0 (some 11)) 53 1 (some 54)) 53 2 (some 55)) 53 0 (some 3)) 56 1 (some 54)) 57 0 (some 54)) 56 3 (some 57)) 58 0 (some 54)) 56 4 (some 58)) 59 0 (some 54)) 56 5 (some 59)) 55 (0) (some 56)) 60 1 (some 54)) 61 0 (some 54)) 60 3 (some 61)) 62 0 (some 54)) 60 4 (some 62)) 63 0 (some 54)) 60 5 (some 63)) 55 (0 + 1) (some 60)) 64 1 (some 54)) 65 0 (some 54)) 64 3 (some 65)) 66 0 (some 54)) 64 4 (some 66)) 67 0 (some 54)) 64 5 (some 67)) 55 (0 + 1 + 1) (some 64)) 68 1 (some 54)) 69 0 (some 54)) 68 3 (some 69)) 70 0 (some 54)) 68 4 (some 70)) 71 0 (some 54)) 68 5 (some 71)) 55 (0 + 1 + 1 + 1) (some 68)) 72 1 (some 54)) 73 0 (some 54)) 72 3 (some 73)) 74 0 (some 54)) 72 4 (some 74)) 75 0 (some 54)) 72 5 (some 75)) 55 (0 + 1 + 1 + 1 + 1) (some 72)) 76 1 (some 54)) 77 0 (some 54)) 76 3 (some 77)) 78 0 (some 54)) 76 4 (some 78)) 79 0 (some 54)) 76 5 (some 79)) 55 (0 + 1 + 1 + 1 + 1 + 1) (some 76)) 51 1 (some 53))) (fun _ => rfl)]
  show wp _ _ _ _ (aR 82 :: _) [(3, 11), (3, 10), (0, 240), (3, 7), (0, 5), (0, 24), (0, 16), (3, 8), (0, 5), (0, 24), (0, 16), (3, 4), (0, 429), (1, 6), (3, 3), (3, 9), (3, 9), (3, 2), (3, 3), (3, 9), (3, 9), (3, 2), (3, 3), (3, 9), (3, 9), (3, 2), (3, 3), (3, 9), (3, 9), (3, 2), (3, 3), (3, 9), (3, 9), (3, 2), (3, 3), (3, 9), (3, 9), (3, 2), (3, 1), (0, 16), (0, 4), (3, 0), (0, 160), (0, 6), (0, 6), (3, 6), (0, 300), (2, 40), (0, 40), (0, 429), (0, 180), (3, 5), (0, 6), (3, 4), (0, 429), (1, 6), (3, 3), (3, 9), (3, 9), (3, 2), (3, 3), (3, 9), (3, 9), (3, 2), (3, 3), (3, 9), (3, 9), (3, 2), (3, 3), (3, 9), (3, 9), (3, 2), (3, 3), (3, 9), (3, 9), (3, 2), (3, 3), (3, 9), (3, 9), (3, 2), (3, 0), (3, 1), (0, 16)] _ _ _ _ _ _
  refine wp_putRF dX1_init_9 gX1_9 rfl rfl ?_
  refine wp_aload_n dX1_init_12 rfl ?_
  refine wp_iconst dX1_init_13 ?_
  refine wp_newI (N := 4) dX1_init_14 rfl (by decide) ?_
  rw [zA (iv := (uI (uI (uI (uI (uI (uI (uI (uI (uI (uI (uI (uI (uI (uI (uI (uI (uI (uI (uI (uI (uI (uI (uI (uI (uI (uI (uI (uI (uI (uI IV8 56 0 (0)) 56 2 ((3) + ((0) * (71)))) 57 1 (((3) + ((0) * (71))) + (4))) 58 1 ((((3) + ((0) * (71))) + (4)) + (28))) 59 1 ((((3) + ((0) * (71))) + (4)) + (56))) 60 0 (0 + 1)) 60 2 ((3) + ((0 + 1) * (71)))) 61 1 (((3) + ((0 + 1) * (71))) + (4))) 62 1 ((((3) + ((0 + 1) * (71))) + (4)) + (28))) 63 1 ((((3) + ((0 + 1) * (71))) + (4)) + (56))) 64 0 (0 + 1 + 1)) 64 2 ((3) + ((0 + 1 + 1) * (71)))) 65 1 (((3) + ((0 + 1 + 1) * (71))) + (4))) 66 1 ((((3) + ((0 + 1 + 1) * (71))) + (4)) + (28))) 67 1 ((((3) + ((0 + 1 + 1) * (71))) + (4)) + (56))) 68 0 (0 + 1 + 1 + 1)) 68 2 ((3) + ((0 + 1 + 1 + 1) * (71)))) 69 1 (((3) + ((0 + 1 + 1 + 1) * (71))) + (4))) 70 1 ((((3) + ((0 + 1 + 1 + 1) * (71))) + (4)) + (28))) 71 1 ((((3) + ((0 + 1 + 1 + 1) * (71))) + (4)) + (56))) 72 0 (0 + 1 + 1 + 1 + 1)) 72 2 ((3) + ((0 + 1 + 1 + 1 + 1) * (71)))) 73 1 (((3) + ((0 + 1 + 1 + 1 + 1) * (71))) + (4))) 74 1 ((((3) + ((0 + 1 + 1 + 1 + 1) * (71))) + (4)) + (28))) 75 1 ((((3) + ((0 + 1 + 1 + 1 + 1) * (71))) + (4)) + (56))) 76 0 (0 + 1 + 1 + 1 + 1 + 1)) 76 2 ((3) + ((0 + 1 + 1 + 1 + 1 + 1) * (71)))) 77 1 (((3) + ((0 + 1 + 1 + 1 + 1 + 1) * (71))) + (4))) 78 1 ((((3) + ((0 + 1 + 1 + 1 + 1 + 1) * (71))) + (4)) + (28))) 79 1 ((((3) + ((0 + 1 + 1 + 1 + 1 + 1) * (71))) + (4)) + (56)))) (fun _ => rfl), zA (iv := Z0) (fun _ => rfl), zQ (rv := (uP (uP (uP (uP (uP (uP (uP (uP (uP (uP (uP (uP (uP (uP (uP (uP (uP (uP (uP (uP (uP (uP (uP (uP (uP (uP (uP (uP (uP (uP (uP (uP (uP (uP (uP (uP (uP (uP (uP (uP (uP (uP (uP (uP (uP (uP (uP (uP (uP (uP (uP (uP (uP (uP (uP RV8 51 3 (some 52)) 51 0 (some 11)) 53 1 (some 54)) 53 2 (some 55)) 53 0 (some 3)) 56 1 (some 54)) 57 0 (some 54)) 56 3 (some 57)) 58 0 (some 54)) 56 4 (some 58)) 59 0 (some 54)) 56 5 (some 59)) 55 (0) (some 56)) 60 1 (some 54)) 61 0 (some 54)) 60 3 (some 61)) 62 0 (some 54)) 60 4 (some 62)) 63 0 (some 54)) 60 5 (some 63)) 55 (0 + 1) (some 60)) 64 1 (some 54)) 65 0 (some 54)) 64 3 (some 65)) 66 0 (some 54)) 64 4 (some 66)) 67 0 (some 54)) 64 5 (some 67)) 55 (0 + 1 + 1) (some 64)) 68 1 (some 54)) 69 0 (some 54)) 68 3 (some 69)) 70 0 (some 54)) 68 4 (some 70)) 71 0 (some 54)) 68 5 (some 71)) 55 (0 + 1 + 1 + 1) (some 68)) 72 1 (some 54)) 73 0 (some 54)) 72 3 (some 73)) 74 0 (some 54)) 72 4 (some 74)) 75 0 (some 54)) 72 5 (some 75)) 55 (0 + 1 + 1 + 1 + 1) (some 72)) 76 1 (some 54)) 77 0 (some 54)) 76 3 (some 77)) 78 0 (some 54)) 76 4 (some 78)) 79 0 (some 54)) 76 5 (some 79)) 55 (0 + 1 + 1 + 1 + 1 + 1) (some 76)) 51 1 (some 53)) 81 2 (some 82))) (fun _ => rfl)]
  show wp _ _ _ _ (aR 83 :: _) [(3, 11), (3, 10), (0, 240), (3, 7), (0, 5), (0, 24), (0, 16), (3, 8), (0, 5), (0, 24), (0, 16), (3, 4), (0, 429), (1, 6), (3, 3), (3, 9), (3, 9), (3, 2), (3, 3), (3, 9), (3, 9), (3, 2), (3, 3), (3, 9), (3, 9), (3, 2), (3, 3), (3, 9), (3, 9), (3, 2), (3, 3), (3, 9), (3, 9), (3, 2), (3, 3), (3, 9), (3, 9), (3, 2), (3, 1), (0, 16), (0, 4), (3, 0), (0, 160), (0, 6), (0, 6), (3, 6), (0, 300), (2, 40), (0, 40), (0, 429), (0, 180), (3, 5), (0, 6), (3, 4), (0, 429), (1, 6), (3, 3), (3, 9), (3, 9), (3, 2), (3, 3), (3, 9), (3, 9), (3, 2), (3, 3), (3, 9), (3, 9), (3, 2), (3, 3), (3, 9), (3, 9), (3, 2), (3, 3), (3, 9), (3, 9), (3, 2), (3, 3), (3, 9), (3, 9), (3, 2), (3, 0), (3, 1), (0, 16), (0, 4)] _ _ _ _ _ _
  refine wp_putRF dX1_init_16 gX1_17 rfl rfl ?_
  refine wp_aload_n dX1_init_19 rfl ?_
  refine wp_aload_n dX1_init_20 rfl ?_
  refine wp_putRF dX1_init_21 gX1_20 rfl rfl ?_
  refine wp_aload_n dX1_init_24 rfl ?_
  refine wp_aload_n dX1_init_25 rfl ?_
  refine wp_getR (show (uP (uP (uP (uP (uP (uP (uP (uP (uP (uP (uP (uP (uP (uP (uP (uP (uP (uP (uP (uP (uP (uP (uP (uP (uP (uP (uP (uP (uP (uP (uP (uP (uP (uP (uP (uP (uP (uP (uP (uP (uP (uP (uP (uP (uP (uP (uP (uP (uP (uP (uP (uP (uP (uP (uP (uP (uP RV8 51 3 (some 52)) 51 0 (some 11)) 53 1 (some 54)) 53 2 (some 55)) 53 0 (some 3)) 56 1 (some 54)) 57 0 (some 54)) 56 3 (some 57)) 58 0 (some 54)) 56 4 (some 58)) 59 0 (some 54)) 56 5 (some 59)) 55 (0) (some 56)) 60 1 (some 54)) 61 0 (some 54)) 60 3 (some 61)) 62 0 (some 54)) 60 4 (some 62)) 63 0 (some 54)) 60 5 (some 63)) 55 (0 + 1) (some 60)) 64 1 (some 54)) 65 0 (some 54)) 64 3 (some 65)) 66 0 (some 54)) 64 4 (some 66)) 67 0 (some 54)) 64 5 (some 67)) 55 (0 + 1 + 1) (some 64)) 68 1 (some 54)) 69 0 (some 54)) 68 3 (some 69)) 70 0 (some 54)) 68 4 (some 70)) 71 0 (some 54)) 68 5 (some 71)) 55 (0 + 1 + 1 + 1) (some 68)) 72 1 (some 54)) 73 0 (some 54)) 72 3 (some 73)) 74 0 (some 54)) 72 4 (some 74)) 75 0 (some 54)) 72 5 (some 75)) 55 (0 + 1 + 1 + 1 + 1) (some 72)) 76 1 (some 54)) 77 0 (some 54)) 76 3 (some 77)) 78 0 (some 54)) 76 4 (some 78)) 79 0 (some 54)) 76 5 (some 79)) 55 (0 + 1 + 1 + 1 + 1 + 1) (some 76)) 51 1 (some 53)) 81 2 (some 82)) 81 3 (some 83)) 81 0 (some 53)) 53 0 = some 3 from rfl) dX1_init_26 fX1_24 rfl ?_
  refine wp_putRF dX1_init_29 gX1_30 rfl rfl ?_
  refine wp_return dX1_init_32 rfl ?_
  refine wp_callI (as := [_, _]) (ls0 := [_, _, _]) (kc := 3) (ks := 172) (bc' := 0) (bs' := 0) dX5_init_52 vX5_38 rfl rfl (Nat.le_of_ble_eq_true rfl) (Nat.le_of_ble_eq_true rfl) (by decide) (by decide) ?_
  refine wp_aload_n dX0_init_0 rfl ?_
  refine wp_obj dX0_init_1 oX0_3 (by omega) (Nat.le_of_ble_eq_true rfl) ?_
  refine wp_aload_n dX0_init_4 rfl ?_
  refine wp_sipush dX0_init_5 ?_
  refine wp_newI (N := 160) dX0_init_8 rfl (by decide) ?_
  rw [zA (iv := (uI (uI (uI (uI (uI (uI (uI (uI (uI (uI (uI (uI (uI (uI (uI (uI (uI (uI (uI (uI (uI (uI (uI (uI (uI (uI (uI (uI (uI (uI IV8 56 0 (0)) 56 2 ((3) + ((0) * (71)))) 57 1 (((3) + ((0) * (71))) + (4))) 58 1 ((((3) + ((0) * (71))) + (4)) + (28))) 59 1 ((((3) + ((0) * (71))) + (4)) + (56))) 60 0 (0 + 1)) 60 2 ((3) + ((0 + 1) * (71)))) 61 1 (((3) + ((0 + 1) * (71))) + (4))) 62 1 ((((3) + ((0 + 1) * (71))) + (4)) + (28))) 63 1 ((((3) + ((0 + 1) * (71))) + (4)) + (56))) 64 0 (0 + 1 + 1)) 64 2 ((3) + ((0 + 1 + 1) * (71)))) 65 1 (((3) + ((0 + 1 + 1) * (71))) + (4))) 66 1 ((((3) + ((0 + 1 + 1) * (71))) + (4)) + (28))) 67 1 ((((3) + ((0 + 1 + 1) * (71))) + (4)) + (56))) 68 0 (0 + 1 + 1 + 1)) 68 2 ((3) + ((0 + 1 + 1 + 1) * (71)))) 69 1 (((3) + ((0 + 1 + 1 + 1) * (71))) + (4))) 70 1 ((((3) + ((0 + 1 + 1 + 1) * (71))) + (4)) + (28))) 71 1 ((((3) + ((0 + 1 + 1 + 1) * (71))) + (4)) + (56))) 72 0 (0 + 1 + 1 + 1 + 1)) 72 2 ((3) + ((0 + 1 + 1 + 1 + 1) * (71)))) 73 1 (((3) + ((0 + 1 + 1 + 1 + 1) * (71))) + (4))) 74 1 ((((3) + ((0 + 1 + 1 + 1 + 1) * (71))) + (4)) + (28))) 75 1 ((((3) + ((0 + 1 + 1 + 1 + 1) * (71))) + (4)) + (56))) 76 0 (0 + 1 + 1 + 1 + 1 + 1)) 76 2 ((3) + ((0 + 1 + 1 + 1 + 1 + 1) * (71)))) 77 1 (((3) + ((0 + 1 + 1 + 1 + 1 + 1) * (71))) + (4))) 78 1 ((((3) + ((0 + 1 + 1 + 1 + 1 + 1) * (71))) + (4)) + (28))) 79 1 ((((3) + ((0 + 1 + 1 + 1 + 1 + 1) * (71))) + (4)) + (56)))) (fun _ => rfl), zA (iv := Z0) (fun _ => rfl), zQ (rv := (uP (uP (uP (uP (uP (uP (uP (uP (uP (uP (uP (uP (uP (uP (uP (uP (uP (uP (uP (uP (uP (uP (uP (uP (uP (uP (uP (uP (uP (uP (uP (uP (uP (uP (uP (uP (uP (uP (uP (uP (uP (uP (uP (uP (uP (uP (uP (uP (uP (uP (uP (uP (uP (uP (uP (uP (uP (uP RV8 51 3 (some 52)) 51 0 (some 11)) 53 1 (some 54)) 53 2 (some 55)) 53 0 (some 3)) 56 1 (some 54)) 57 0 (some 54)) 56 3 (some 57)) 58 0 (some 54)) 56 4 (some 58)) 59 0 (some 54)) 56 5 (some 59)) 55 (0) (some 56)) 60 1 (some 54)) 61 0 (some 54)) 60 3 (some 61)) 62 0 (some 54)) 60 4 (some 62)) 63 0 (some 54)) 60 5 (some 63)) 55 (0 + 1) (some 60)) 64 1 (some 54)) 65 0 (some 54)) 64 3 (some 65)) 66 0 (some 54)) 64 4 (some 66)) 67 0 (some 54)) 64 5 (some 67)) 55 (0 + 1 + 1) (some 64)) 68 1 (some 54)) 69 0 (some 54)) 68 3 (some 69)) 70 0 (some 54)) 68 4 (some 70)) 71 0 (some 54)) 68 5 (some 71)) 55 (0 + 1 + 1 + 1) (some 68)) 72 1 (some 54)) 73 0 (some 54)) 72 3 (some 73)) 74 0 (some 54)) 72 4 (some 74)) 75 0 (some 54)) 72 5 (some 75)) 55 (0 + 1 + 1 + 1 + 1) (some 72)) 76 1 (some 54)) 77 0 (some 54)) 76 3 (some 77)) 78 0 (some 54)) 76 4 (some 78)) 79 0 (some 54)) 76 5 (some 79)) 55 (0 + 1 + 1 + 1 + 1 + 1) (some 76)) 51 1 (some 53)) 81 2 (some 82)) 81 3 (some 83)) 81 0 (some 53)) 81 1 (some 3))) (fun _ => rfl)]
  show wp _ _ _ _ (aR 84 :: _) [(3, 11), (3, 10), (0, 240), (3, 7), (0, 5), (0, 24), (0, 16), (3, 8), (0, 5), (0, 24), (0, 16), (3, 4), (0, 429), (1, 6), (3, 3), (3, 9), (3, 9), (3, 2), (3, 3), (3, 9), (3, 9), (3, 2), (3, 3), (3, 9), (3, 9), (3, 2), (3, 3), (3, 9), (3, 9), (3, 2), (3, 3), (3, 9), (3, 9), (3, 2), (3, 3), (3, 9), (3, 9), (3, 2), (3, 1), (0, 16), (0, 4), (3, 0), (0, 160), (0, 6), (0, 6), (3, 6), (0, 300), (2, 40), (0, 40), (0, 429), (0, 180), (3, 5), (0, 6), (3, 4), (0, 429), (1, 6), (3, 3), (3, 9), (3, 9), (3, 2), (3, 3), (3, 9), (3, 9), (3, 2), (3, 3), (3, 9), (3, 9), (3, 2), (3, 3), (3, 9), (3, 9), (3, 2), (3, 3), (3, 9), (3, 9), (3, 2), (3, 3), (3, 9), (3, 9), (3, 2), (3, 0), (3, 1), (0, 16), (0, 4), (0, 160)] _ _ _ _ _ _
  refine wp_putRF dX0_init_10 gX0_11 rfl rfl ?_
  refine wp_aload_n dX0_init_13 rfl ?_
  refine wp_bipush dX0_init_14 ?_
  refine wp_newI (N := 6) dX0_init_16 rfl (by decide) ?_
  rw [zA (iv := (uI (uI (uI (uI (uI (uI (uI (uI (uI (uI (uI (uI (uI (uI (uI (uI (uI (uI (uI (uI (uI (uI (uI (uI (uI (uI (uI (uI (uI (uI IV8 56 0 (0)) 56 2 ((3) + ((0) * (71)))) 57 1 (((3) + ((0) * (71))) + (4))) 58 1 ((((3) + ((0) * (71))) + (4)) + (28))) 59 1 ((((3) + ((0) * (71))) + (4)) + (56))) 60 0 (0 + 1)) 60 2 ((3) + ((0 + 1) * (71)))) 61 1 (((3) + ((0 + 1) * (71))) + (4))) 62 1 ((((3) + ((0 + 1) * (71))) + (4)) + (28))) 63 1 ((((3) + ((0 + 1) * (71))) + (4)) + (56))) 64 0 (0 + 1 + 1)) 64 2 ((3) + ((0 + 1 + 1) * (71)))) 65 1 (((3) + ((0 + 1 + 1) * (71))) + (4))) 66 1 ((((3) + ((0 + 1 + 1) * (71))) + (4)) + (28))) 67 1 ((((3) + ((0 + 1 + 1) * (71))) + (4)) + (56))) 68 0 (0 + 1 + 1 + 1)) 68 2 ((3) + ((0 + 1 + 1 + 1) * (71)))) 69 1 (((3) + ((0 + 1 + 1 + 1) * (71))) + (4))) 70 1 ((((3) + ((0 + 1 + 1 + 1) * (71))) + (4)) + (28))) 71 1 ((((3) + ((0 + 1 + 1 + 1) * (71))) + (4)) + (56))) 72 0 (0 + 1 + 1 + 1 + 1)) 72 2 ((3) + ((0 + 1 + 1 + 1 + 1) * (71)))) 73 1 (((3) + ((0 + 1 + 1 + 1 + 1) * (71))) + (4))) 74 1 ((((3) + ((0 + 1 + 1 + 1 + 1) * (71))) + (4)) + (28))) 75 1 ((((3) + ((0 + 1 + 1 + 1 + 1) * (71))) + (4)) + (56))) 76 0 (0 + 1 + 1 + 1 + 1 + 1)) 76 2 ((3) + ((0 + 1 + 1 + 1 + 1 + 1) * (71)))) 77 1 (((3) + ((0 + 1 + 1 + 1 + 1 + 1) * (71))) + (4))) 78 1 ((((3) + ((0 + 1 + 1 + 1 + 1 + 1) * (71))) + (4)) + (28))) 79 1 ((((3) + ((0 + 1 + 1 + 1 + 1 + 1) * (71))) + (4)) + (56)))) (fun _ => rfl), zA (iv := Z0) (fun _ => rfl), zQ (rv := (uP (uP (uP (uP (uP (uP (uP (uP (uP (uP (uP (uP (uP (uP (uP (uP (uP (uP (uP (uP (uP (uP (uP (uP (uP (uP (uP (uP (uP (uP (uP (uP (uP (uP (uP (uP (uP (uP (uP (uP (uP (uP (uP (uP (uP (uP (uP (uP (uP (uP (uP (uP (uP (uP (uP (uP (uP (uP (uP RV8 51 3 (some 52)) 51 0 (some 11)) 53 1 (some 54)) 53 2 (some 55)) 53 0 (some 3)) 56 1 (some 54)) 57 0 (some 54)) 56 3 (some 57)) 58 0 (some 54)) 56 4 (some 58)) 59 0 (some 54)) 56 5 (some 59)) 55 (0) (some 56)) 60 1 (some 54)) 61 0 (some 54)) 60 3 (some 61)) 62 0 (some 54)) 60 4 (some 62)) 63 0 (some 54)) 60 5 (some 63)) 55 (0 + 1) (some 60)) 64 1 (some 54)) 65 0 (some 54)) 64 3 (some 65)) 66 0 (some 54)) 64 4 (some 66)) 67 0 (some 54)) 64 5 (some 67)) 55 (0 + 1 + 1) (some 64)) 68 1 (some 54)) 69 0 (some 54)) 68 3 (some 69)) 70 0 (some 54)) 68 4 (some 70)) 71 0 (some 54)) 68 5 (some 71)) 55 (0 + 1 + 1 + 1) (some 68)) 72 1 (some 54)) 73 0 (some 54)) 72 3 (some 73)) 74 0 (some 54)) 72 4 (some 74)) 75 0 (some 54)) 72 5 (some 75)) 55 (0 + 1 + 1 + 1 + 1) (some 72)) 76 1 (some 54)) 77 0 (some 54)) 76 3 (some 77)) 78 0 (some 54)) 76 4 (some 78)) 79 0 (some 54)) 76 5 (some 79)) 55 (0 + 1 + 1 + 1 + 1 + 1) (some 76)) 51 1 (some 53)) 81 2 (some 82)) 81 3 (some 83)) 81 0 (some 53)) 81 1 (some 3)) 80 3 (some 84))) (fun _ => rfl)]
  show wp _ _ _ _ (aR 85 :: _) [(3, 11), (3, 10), (0, 240), (3, 7), (0, 5), (0, 24), (0, 16), (3, 8), (0, 5), (0, 24), (0, 16), (3, 4), (0, 429), (1, 6), (3, 3), (3, 9), (3, 9), (3, 2), (3, 3), (3, 9), (3, 9), (3, 2), (3, 3), (3, 9), (3, 9), (3, 2), (3, 3), (3, 9), (3, 9), (3, 2), (3, 3), (3, 9), (3, 9), (3, 2), (3, 3), (3, 9), (3, 9), (3, 2), (3, 1), (0, 16), (0, 4), (3, 0), (0, 160), (0, 6), (0, 6), (3, 6), (0, 300), (2, 40), (0, 40), (0, 429), (0, 180), (3, 5), (0, 6), (3, 4), (0, 429), (1, 6), (3, 3), (3, 9), (3, 9), (3, 2), (3, 3), (3, 9), (3, 9), (3, 2), (3, 3), (3, 9), (3, 9), (3, 2), (3, 3), (3, 9), (3, 9), (3, 2), (3, 3), (3, 9), (3, 9), (3, 2), (3, 3), (3, 9), (3, 9), (3, 2), (3, 0), (3, 1), (0, 16), (0, 4), (0, 160), (0, 6)] _ _ _ _ _ _
  refine wp_putRF dX0_init_18 gX0_15 rfl rfl ?_
  refine wp_aload_n dX0_init_21 rfl ?_
  refine wp_bipush dX0_init_22 ?_
  refine wp_newI (N := 6) dX0_init_24 rfl (by decide) ?_
  rw [zA (iv := (uI (uI (uI (uI (uI (uI (uI (uI (uI (uI (uI (uI (uI (uI (uI (uI (uI (uI (uI (uI (uI (uI (uI (uI (uI (uI (uI (uI (uI (uI IV8 56 0 (0)) 56 2 ((3) + ((0) * (71)))) 57 1 (((3) + ((0) * (71))) + (4))) 58 1 ((((3) + ((0) * (71))) + (4)) + (28))) 59 1 ((((3) + ((0) * (71))) + (4)) + (56))) 60 0 (0 + 1)) 60 2 ((3) + ((0 + 1) * (71)))) 61 1 (((3) + ((0 + 1) * (71))) + (4))) 62 1 ((((3) + ((0 + 1) * (71))) + (4)) + (28))) 63 1 ((((3) + ((0 + 1) * (71))) + (4)) + (56))) 64 0 (0 + 1 + 1)) 64 2 ((3) + ((0 + 1 + 1) * (71)))) 65 1 (((3) + ((0 + 1 + 1) * (71))) + (4))) 66 1 ((((3) + ((0 + 1 + 1) * (71))) + (4)) + (28))) 67 1 ((((3) + ((0 + 1 + 1) * (71))) + (4)) + (56))) 68 0 (0 + 1 + 1 + 1)) 68 2 ((3) + ((0 + 1 + 1 + 1) * (71)))) 69 1 (((3) + ((0 + 1 + 1 + 1) * (71))) + (4))) 70 1 ((((3) + ((0 + 1 + 1 + 1) * (71))) + (4)) + (28))) 71 1 ((((3) + ((0 + 1 + 1 + 1) * (71))) + (4)) + (56))) 72 0 (0 + 1 + 1 + 1 + 1)) 72 2 ((3) + ((0 + 1 + 1 + 1 + 1) * (71)))) 73 1 (((3) + ((0 + 1 + 1 + 1 + 1) * (71))) + (4))) 74 1 ((((3) + ((0 + 1 + 1 + 1 + 1) * (71))) + (4)) + (28))) 75 1 ((((3) + ((0 + 1 + 1 + 1 + 1) * (71))) + (4)) + (56))) 76 0 (0 + 1 + 1 + 1 + 1 + 1)) 76 2 ((3) + ((0 + 1 + 1 + 1 + 1 + 1) * (71)))) 77 1 (((3) + ((0 + 1 + 1 + 1 + 1 + 1) * (71))) + (4))) 78 1 ((((3) + ((0 + 1 + 1 + 1 + 1 + 1) * (71))) + (4)) + (28))) 79 1 ((((3) + ((0 + 1 + 1 + 1 + 1 + 1) * (71))) + (4)) + (56)))) (fun _ => rfl), zA (iv := Z0) (fun _ => rfl), zQ (rv := (uP (uP (uP (uP (uP (uP (uP (uP (uP (uP (uP (uP (uP (uP (uP (uP (uP (uP (uP (uP (uP (uP (uP (uP (uP (uP (uP (uP (uP (uP (uP (uP (uP (uP (uP (uP (uP (uP (uP (uP (uP (uP (uP (uP (uP (uP (uP (uP (uP (uP (uP (uP (uP (uP (uP (uP (uP (uP (uP (uP RV8 51 3 (some 52)) 51 0 (some 11)) 53 1 (some 54)) 53 2 (some 55)) 53 0 (some 3)) 56 1 (some 54)) 57 0 (some 54)) 56 3 (some 57)) 58 0 (some 54)) 56 4 (some 58)) 59 0 (some 54)) 56 5 (some 59)) 55 (0) (some 56)) 60 1 (some 54)) 61 0 (some 54)) 60 3 (some 61)) 62 0 (some 54)) 60 4 (some 62)) 63 0 (some 54)) 60 5 (some 63)) 55 (0 + 1) (some 60)) 64 1 (some 54)) 65 0 (some 54)) 64 3 (some 65)) 66 0 (some 54)) 64 4 (some 66)) 67 0 (some 54)) 64 5 (some 67)) 55 (0 + 1 + 1) (some 64)) 68 1 (some 54)) 69 0 (some 54)) 68 3 (some 69)) 70 0 (some 54)) 68 4 (some 70)) 71 0 (some 54)) 68 5 (some 71)) 55 (0 + 1 + 1 + 1) (some 68)) 72 1 (some 54)) 73 0 (some 54)) 72 3 (some 73)) 74 0 (some 54)) 72 4 (some 74)) 75 0 (some 54)) 72 5 (some 75)) 55 (0 + 1 + 1 + 1 + 1) (some 72)) 76 1 (some 54)) 77 0 (some 54)) 76 3 (some 77)) 78 0 (some 54)) 76 4 (some 78)) 79 0 (some 54)) 76 5 (some 79)) 55 (0 + 1 + 1 + 1 + 1 + 1) (some 76)) 51 1 (some 53)) 81 2 (some 82)) 81 3 (some 83)) 81 0 (some 53)) 81 1 (some 3)) 80 3 (some 84)) 80 4 (some 85))) (fun _ => rfl)]
  show wp _ _ _ _ (aR 86 :: _) [(3, 11), (3, 10), (0, 240), (3, 7), (0, 5), (0, 24), (0, 16), (3, 8), (0, 5), (0, 24), (0, 16), (3, 4), (0, 429), (1, 6), (3, 3), (3, 9), (3, 9), (3, 2), (3, 3), (3, 9), (3, 9), (3, 2), (3, 3), (3, 9), (3, 9), (3, 2), (3, 3), (3, 9), (3, 9), (3, 2), (3, 3), (3, 9), (3, 9), (3, 2), (3, 3), (3, 9), (3, 9), (3, 2), (3, 1), (0, 16), (0, 4), (3, 0), (0, 160), (0, 6), (0, 6), (3, 6), (0, 300), (2, 40), (0, 40), (0, 429), (0, 180), (3, 5), (0, 6), (3, 4), (0, 429), (1, 6), (3, 3), (3, 9), (3, 9), (3, 2), (3, 3), (3, 9), (3, 9), (3, 2), (3, 3), (3, 9), (3, 9), (3, 2), (3, 3), (3, 9), (3, 9), (3, 2), (3, 3), (3, 9), (3, 9), (3, 2), (3, 3), (3, 9), (3, 9), (3, 2), (3, 0), (3, 1), (0, 16), (0, 4), (0, 160), (0, 6), (0, 6)] _ _ _ _ _ _
  refine wp_putRF dX0_init_26 gX0_18 rfl rfl ?_
  refine wp_aload_n dX0_init_29 rfl ?_
  refine wp_aload_n dX0_init_30 rfl ?_
  refine wp_putRF dX0_init_31 gX0_21 rfl rfl ?_
  refine wp_aload_n dX0_init_34 rfl ?_
  refine wp_aload_n dX0_init_35 rfl ?_
  refine wp_getR (show (uP (uP (uP (uP (uP (uP (uP (uP (uP (uP (uP (uP (uP (uP (uP (uP (uP (uP (uP (uP (uP (uP (uP (uP (uP (uP (uP (uP (uP (uP (uP (uP (uP (uP (uP (uP (uP (uP (uP (uP (uP (uP (uP (uP (uP (uP (uP (uP (uP (uP (uP (uP (uP (uP (uP (uP (uP (uP (uP (uP (uP (uP RV8 51 3 (some 52)) 51 0 (some 11)) 53 1 (some 54)) 53 2 (some 55)) 53 0 (some 3)) 56 1 (some 54)) 57 0 (some 54)) 56 3 (some 57)) 58 0 (some 54)) 56 4 (some 58)) 59 0 (some 54)) 56 5 (some 59)) 55 (0) (some 56)) 60 1 (some 54)) 61 0 (some 54)) 60 3 (some 61)) 62 0 (some 54)) 60 4 (some 62)) 63 0 (some 54)) 60 5 (some 63)) 55 (0 + 1) (some 60)) 64 1 (some 54)) 65 0 (some 54)) 64 3 (some 65)) 66 0 (some 54)) 64 4 (some 66)) 67 0 (some 54)) 64 5 (some 67)) 55 (0 + 1 + 1) (some 64)) 68 1 (some 54)) 69 0 (some 54)) 68 3 (some 69)) 70 0 (some 54)) 68 4 (some 70)) 71 0 (some 54)) 68 5 (some 71)) 55 (0 + 1 + 1 + 1) (some 68)) 72 1 (some 54)) 73 0 (some 54)) 72 3 (some 73)) 74 0 (some 54)) 72 4 (some 74)) 75 0 (some 54)) 72 5 (some 75)) 55 (0 + 1 + 1 + 1 + 1) (some 72)) 76 1 (some 54)) 77 0 (some 54)) 76 3 (some 77)) 78 0 (some 54)) 76 4 (some 78)) 79 0 (some 54)) 76 5 (some 79)) 55 (0 + 1 + 1 + 1 + 1 + 1) (some 76)) 51 1 (some 53)) 81 2 (some 82)) 81 3 (some 83)) 81 0 (some 53)) 81 1 (some 3)) 80 3 (some 84)) 80 4 (some 85)) 80 5 (some 86)) 80 0 (some 53)) 53 0 = some 3 from rfl) dX0_init_36 fX0_25 rfl ?_
  refine wp_putRF dX0_init_39 gX0_31 rfl rfl ?_
  refine wp_aload_n dX0_init_42 rfl ?_
  refine wp_aload_n dX0_init_43 rfl ?_
  refine wp_putRF dX0_init_44 gX0_32 rfl rfl ?_
  refine wp_return dX0_init_47 rfl ?_
  refine wp_putRF dX5_init_55 gX5_41 rfl rfl ?_
  refine wp_return dX5_init_58 rfl ?_
  refine wp_putRF dX11_init_113 gX11_69 rfl rfl ?_
  exact k
def IV10 : aF := (uI IV9 0 9 (2))
def RV10 : aP := (uP RV9 0 8 (some 87))
theorem ci_9 {d : Nat} {R : aPost} (k : wp (d + 6) mX11_init 128 [some (aR 0)] [] [(3, 11), (3, 10), (0, 240), (3, 7), (0, 5), (0, 24), (0, 16), (3, 8), (0, 5), (0, 24), (0, 16), (3, 4), (0, 429), (1, 6), (3, 3), (3, 9), (3, 9), (3, 2), (3, 3), (3, 9), (3, 9), (3, 2), (3, 3), (3, 9), (3, 9), (3, 2), (3, 3), (3, 9), (3, 9), (3, 2), (3, 3), (3, 9), (3, 9), (3, 2), (3, 3), (3, 9), (3, 9), (3, 2), (3, 1), (0, 16), (0, 4), (3, 0), (0, 160), (0, 6), (0, 6), (3, 6), (0, 300), (2, 40), (0, 40), (0, 429), (0, 180), (3, 5), (0, 6), (3, 4), (0, 429), (1, 6), (3, 3), (3, 9), (3, 9), (3, 2), (3, 3), (3, 9), (3, 9), (3, 2), (3, 3), (3, 9), (3, 9), (3, 2), (3, 3), (3, 9), (3, 9), (3, 2), (3, 3), (3, 9), (3, 9), (3, 2), (3, 3), (3, 9), (3, 9), (3, 2), (3, 0), (3, 1), (0, 16), (0, 4), (0, 160), (0, 6), (0, 6), (0, 5)] IV10 Z0 RV10 0 0 R) : wp (d + 6) mX11_init 116 [some (aR 0)] [] [(3, 11), (3, 10), (0, 240), (3, 7), (0, 5), (0, 24), (0, 16), (3, 8), (0, 5), (0, 24), (0, 16), (3, 4), (0, 429), (1, 6), (3, 3), (3, 9), (3, 9), (3, 2), (3, 3), (3, 9), (3, 9), (3, 2), (3, 3), (3, 9), (3, 9), (3, 2), (3, 3), (3, 9), (3, 9), (3, 2), (3, 3), (3, 9), (3, 9), (3, 2), (3, 3), (3, 9), (3, 9), (3, 2), (3, 1), (0, 16), (0, 4), (3, 0), (0, 160), (0, 6), (0, 6), (3, 6), (0, 300), (2, 40), (0, 40), (0, 429), (0, 180), (3, 5), (0, 6), (3, 4), (0, 429), (1, 6), (3, 3), (3, 9), (3, 9), (3, 2), (3, 3), (3, 9), (3, 9), (3, 2), (3, 3), (3, 9), (3, 9), (3, 2), (3, 3), (3, 9), (3, 9), (3, 2), (3, 3), (3, 9), (3, 9), (3, 2), (3, 3), (3, 9), (3, 9), (3, 2), (3, 0), (3, 1), (0, 16), (0, 4), (0, 160), (0, 6), (0, 6)] IV9 Z0 RV9 1 5 R := by
  refine wp_aload_n dX11_init_116 rfl ?_
  refine wp_iconst dX11_init_117 ?_
  refine wp_newI (N := 5) dX11_init_118 rfl (by decide) ?_
  rw [zA (iv := IV9) (fun _ => rfl), zA (iv := Z0) (fun _ => rfl), zQ (rv := RV9) (fun _ => rfl)]
  show wp _ _ _ _ (aR 87 :: _) [(3, 11), (3, 10), (0, 240), (3, 7), (0, 5), (0, 24), (0, 16), (3, 8), (0, 5), (0, 24), (0, 16), (3, 4), (0, 429), (1, 6), (3, 3), (3, 9), (3, 9), (3, 2), (3, 3), (3, 9), (3, 9), (3, 2), (3, 3), (3, 9), (3, 9), (3, 2), (3, 3), (3, 9), (3, 9), (3, 2), (3, 3), (3, 9), (3, 9), (3, 2), (3, 3), (3, 9), (3, 9), (3, 2), (3, 1), (0, 16), (0, 4), (3, 0), (0, 160), (0, 6), (0, 6), (3, 6), (0, 300), (2, 40), (0, 40), (0, 429), (0, 180), (3, 5), (0, 6), (3, 4), (0, 429), (1, 6), (3, 3), (3, 9), (3, 9), (3, 2), (3, 3), (3, 9), (3, 9), (3, 2), (3, 3), (3, 9), (3, 9), (3, 2), (3, 3), (3, 9), (3, 9), (3, 2), (3, 3), (3, 9), (3, 9), (3, 2), (3, 3), (3, 9), (3, 9), (3, 2), (3, 0), (3, 1), (0, 16), (0, 4), (0, 160), (0, 6), (0, 6), (0, 5)] _ _ _ _ _ _
  refine wp_putRF dX11_init_120 gX11_73 rfl rfl ?_
  refine wp_aload_n dX11_init_123 rfl ?_
  refine wp_iconst dX11_init_124 ?_
  refine wp_putI dX11_init_125 fX11_77 rfl ?_
  exact k
