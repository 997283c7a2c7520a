def Z0 : aF := fun _ _ => 0
def N0 : aP := fun _ _ => none
theorem zA {iv : aF} {n : Nat} (h : ∀ b : Int, iv n b = 0) : uA iv n (fun _ => 0) = iv := by
  funext a b
  unfold uA
  by_cases e : a = n
  · rw [if_pos e, e, h]
  · rw [if_neg e]
theorem zQ {rv : aP} {n : Nat} (h : ∀ b : Int, rv n b = none) : uQ rv n (fun _ => none) = rv := by
  funext a b
  unfold uQ
  by_cases e : a = n
  · rw [if_pos e, e, h]
  · rw [if_neg e]
def F0i : Int → Int := up (fun _ => 0) 17 2
theorem i_iv : (uI Z0 0 17 2) = ST Z0 F0i (fun _ => 0) (fun _ => 0) (fun _ => 0) (fun _ => 0) (fun _ => 0) := by
  funext a b
  by_cases h : a = 0
  · subst h
    show (if (0 : Nat) = 0 ∧ b = 17 then (2 : Int) else 0) = (if b = 17 then 2 else 0)
    by_cases q : b = 17
    · rw [if_pos ⟨rfl, q⟩, if_pos q]
    · rw [if_neg (fun z => q z.2), if_neg q]
  · unfold uI
    rw [if_neg (fun z => h z.1)]
    unfold ST
    split <;> first | rfl | exact absurd rfl h
theorem i_rv : (uP (uP (uP (uP (uP (uP (uP (uP (uP (uP (uP (uP (uP (uP (uP (uP (uP N0 0 1 (some 1)) 0 5 (some 2)) 0 6 (some 3)) 0 7 (some 4)) 0 10 (some 5)) 0 11 (some 6)) 0 12 (some 7)) 0 15 (some 8)) 0 16 (some 9)) 0 18 (some 10)) 0 20 (some 11)) 0 21 (some 12)) 0 23 (some 13)) 0 24 (some 14)) 0 27 (some 15)) 0 28 (some 16)) 0 29 (some 17)) = RVR := by
  funext a b
  by_cases h : a = 0
  · subst h
    by_cases hb : b = 1 ∨ b = 5 ∨ b = 6 ∨ b = 7 ∨ b = 10 ∨ b = 11 ∨ b = 12 ∨ b = 15 ∨ b = 16 ∨ b = 18 ∨ b = 20 ∨ b = 21 ∨ b = 23 ∨ b = 24 ∨ b = 27 ∨ b = 28 ∨ b = 29
    · rcases hb with rfl | rfl | rfl | rfl | rfl | rfl | rfl | rfl | rfl | rfl | rfl | rfl | rfl | rfl | rfl | rfl | rfl <;> rfl
    · unfold RVR
      rw [if_pos rfl]
      unfold uP
      rw [if_neg (by omega), if_neg (by omega), if_neg (by omega), if_neg (by omega), if_neg (by omega), if_neg (by omega), if_neg (by omega), if_neg (by omega), if_neg (by omega), if_neg (by omega), if_neg (by omega), if_neg (by omega), if_neg (by omega), if_neg (by omega), if_neg (by omega), if_neg (by omega), if_neg (by omega)]
      split <;> first | rfl | (exfalso; omega)
  · unfold uP RVR
    rw [if_neg h, if_neg (by omega), if_neg (by omega), if_neg (by omega), if_neg (by omega), if_neg (by omega), if_neg (by omega), if_neg (by omega), if_neg (by omega), if_neg (by omega), if_neg (by omega), if_neg (by omega), if_neg (by omega), if_neg (by omega), if_neg (by omega), if_neg (by omega), if_neg (by omega), if_neg (by omega)]
    rfl
theorem s_init {d : Nat} {R : aPost} (k : R none SHR (ST Z0 F0i (fun _ => 0) (fun _ => 0) (fun _ => 0) (fun _ => 0) (fun _ => 0)) Z0 RVR) : wp (d + 1) mX12_init 0 [some (aR 0)] [] [(3, 12)] Z0 Z0 N0 17 26872 R := by
  refine wp_aload_n dX12_init_0 rfl ?_
  refine wp_obj dX12_init_1 oX12_3 (by omega) (Nat.le_of_ble_eq_true rfl) ?_
  refine wp_aload_n dX12_init_4 rfl ?_
  refine wp_sipush dX12_init_5 ?_
  refine wp_newI (N := 240) dX12_init_8 rfl (by decide) ?_
  rw [zA (iv := Z0) (fun _ => rfl), zQ (rv := N0) (fun _ => rfl)]
  show wp _ _ _ _ (aR 1 :: _) [(3, 12), (0, 240)] _ _ _ _ _ _
  refine wp_putRF dX12_init_10 gX12_9 rfl rfl ?_
  refine wp_aload_n dX12_init_13 rfl ?_
  refine wp_iconst dX12_init_14 ?_
  refine wp_newI (N := 5) dX12_init_15 rfl (by decide) ?_
  rw [zA (iv := Z0) (fun _ => rfl), zQ (rv := (uP N0 0 1 (some 1))) (fun _ => rfl)]
  show wp _ _ _ _ (aR 2 :: _) [(3, 12), (0, 240), (0, 5)] _ _ _ _ _ _
  refine wp_putRF dX12_init_17 gX12_13 rfl rfl ?_
  refine wp_aload_n dX12_init_20 rfl ?_
  refine wp_bipush dX12_init_21 ?_
  refine wp_newI (N := 24) dX12_init_23 rfl (by decide) ?_
  rw [zA (iv := Z0) (fun _ => rfl), zQ (rv := (uP (uP N0 0 1 (some 1)) 0 5 (some 2))) (fun _ => rfl)]
  show wp _ _ _ _ (aR 3 :: _) [(3, 12), (0, 240), (0, 5), (0, 24)] _ _ _ _ _ _
  refine wp_putRF dX12_init_25 gX12_16 rfl rfl ?_
  refine wp_aload_n dX12_init_28 rfl ?_
  refine wp_bipush dX12_init_29 ?_
  refine wp_newI (N := 16) dX12_init_31 rfl (by decide) ?_
  rw [zA (iv := Z0) (fun _ => rfl), zQ (rv := (uP (uP (uP N0 0 1 (some 1)) 0 5 (some 2)) 0 6 (some 3))) (fun _ => rfl)]
  show wp _ _ _ _ (aR 4 :: _) [(3, 12), (0, 240), (0, 5), (0, 24), (0, 16)] _ _ _ _ _ _
  refine wp_putRF dX12_init_33 gX12_19 rfl rfl ?_
  refine wp_aload_n dX12_init_36 rfl ?_
  refine wp_iconst dX12_init_37 ?_
  refine wp_newI (N := 5) dX12_init_38 rfl (by decide) ?_
  rw [zA (iv := Z0) (fun _ => rfl), zQ (rv := (uP (uP (uP (uP N0 0 1 (some 1)) 0 5 (some 2)) 0 6 (some 3)) 0 7 (some 4))) (fun _ => rfl)]
  show wp _ _ _ _ (aR 5 :: _) [(3, 12), (0, 240), (0, 5), (0, 24), (0, 16), (0, 5)] _ _ _ _ _ _
  refine wp_putRF dX12_init_40 gX12_22 rfl rfl ?_
  refine wp_aload_n dX12_init_43 rfl ?_
  refine wp_bipush dX12_init_44 ?_
  refine wp_newI (N := 24) dX12_init_46 rfl (by decide) ?_
  rw [zA (iv := Z0) (fun _ => rfl), zQ (rv := (uP (uP (uP (uP (uP N0 0 1 (some 1)) 0 5 (some 2)) 0 6 (some 3)) 0 7 (some 4)) 0 10 (some 5))) (fun _ => rfl)]
  show wp _ _ _ _ (aR 6 :: _) [(3, 12), (0, 240), (0, 5), (0, 24), (0, 16), (0, 5), (0, 24)] _ _ _ _ _ _
  refine wp_putRF dX12_init_48 gX12_25 rfl rfl ?_
  refine wp_aload_n dX12_init_51 rfl ?_
  refine wp_bipush dX12_init_52 ?_
  refine wp_newI (N := 16) dX12_init_54 rfl (by decide) ?_
  rw [zA (iv := Z0) (fun _ => rfl), zQ (rv := (uP (uP (uP (uP (uP (uP N0 0 1 (some 1)) 0 5 (some 2)) 0 6 (some 3)) 0 7 (some 4)) 0 10 (some 5)) 0 11 (some 6))) (fun _ => rfl)]
  show wp _ _ _ _ (aR 7 :: _) [(3, 12), (0, 240), (0, 5), (0, 24), (0, 16), (0, 5), (0, 24), (0, 16)] _ _ _ _ _ _
  refine wp_putRF dX12_init_56 gX12_28 rfl rfl ?_
  refine wp_aload_n dX12_init_59 rfl ?_
  refine wp_sipush dX12_init_60 ?_
  refine wp_newI (N := 550) dX12_init_63 rfl (by decide) ?_
  rw [zA (iv := Z0) (fun _ => rfl), zQ (rv := (uP (uP (uP (uP (uP (uP (uP N0 0 1 (some 1)) 0 5 (some 2)) 0 6 (some 3)) 0 7 (some 4)) 0 10 (some 5)) 0 11 (some 6)) 0 12 (some 7))) (fun _ => rfl)]
  show wp _ _ _ _ (aR 8 :: _) [(3, 12), (0, 240), (0, 5), (0, 24), (0, 16), (0, 5), (0, 24), (0, 16), (0, 550)] _ _ _ _ _ _
  refine wp_putRF dX12_init_65 gX12_31 rfl rfl ?_
  refine wp_aload_n dX12_init_68 rfl ?_
  refine wp_iconst dX12_init_69 ?_
  refine wp_newI (N := 5) dX12_init_70 rfl (by decide) ?_
  rw [zA (iv := Z0) (fun _ => rfl), zQ (rv := (uP (uP (uP (uP (uP (uP (uP (uP N0 0 1 (some 1)) 0 5 (some 2)) 0 6 (some 3)) 0 7 (some 4)) 0 10 (some 5)) 0 11 (some 6)) 0 12 (some 7)) 0 15 (some 8))) (fun _ => rfl)]
  show wp _ _ _ _ (aR 9 :: _) [(3, 12), (0, 240), (0, 5), (0, 24), (0, 16), (0, 5), (0, 24), (0, 16), (0, 550), (0, 5)] _ _ _ _ _ _
  refine wp_putRF dX12_init_72 gX12_34 rfl rfl ?_
  refine wp_aload_n dX12_init_75 rfl ?_
  refine wp_iconst dX12_init_76 ?_
  refine wp_putI dX12_init_77 fX12_37 rfl ?_
  refine wp_aload_n dX12_init_80 rfl ?_
  refine wp_bipush dX12_init_81 ?_
  refine wp_newI (N := 6) dX12_init_83 rfl (by decide) ?_
  rw [zA (iv := (uI Z0 0 17 2)) (fun _ => rfl), zA (iv := Z0) (fun _ => rfl), zQ (rv := (uP (uP (uP (uP (uP (uP (uP (uP (uP N0 0 1 (some 1)) 0 5 (some 2)) 0 6 (some 3)) 0 7 (some 4)) 0 10 (some 5)) 0 11 (some 6)) 0 12 (some 7)) 0 15 (some 8)) 0 16 (some 9))) (fun _ => rfl)]
  show wp _ _ _ _ (aR 10 :: _) [(3, 12), (0, 240), (0, 5), (0, 24), (0, 16), (0, 5), (0, 24), (0, 16), (0, 550), (0, 5), (0, 6)] _ _ _ _ _ _
  refine wp_putRF dX12_init_85 gX12_41 rfl rfl ?_
  refine wp_aload_n dX12_init_88 rfl ?_
  refine wp_bipush dX12_init_89 ?_
  refine wp_newI (N := 16) dX12_init_91 rfl (by decide) ?_
  rw [zA (iv := (uI Z0 0 17 2)) (fun _ => rfl), zA (iv := Z0) (fun _ => rfl), zQ (rv := (uP (uP (uP (uP (uP (uP (uP (uP (uP (uP N0 0 1 (some 1)) 0 5 (some 2)) 0 6 (some 3)) 0 7 (some 4)) 0 10 (some 5)) 0 11 (some 6)) 0 12 (some 7)) 0 15 (some 8)) 0 16 (some 9)) 0 18 (some 10))) (fun _ => rfl)]
  show wp _ _ _ _ (aR 11 :: _) [(3, 12), (0, 240), (0, 5), (0, 24), (0, 16), (0, 5), (0, 24), (0, 16), (0, 550), (0, 5), (0, 6), (0, 16)] _ _ _ _ _ _
  refine wp_putRF dX12_init_93 gX12_44 rfl rfl ?_
  refine wp_aload_n dX12_init_96 rfl ?_
  refine wp_bipush dX12_init_97 ?_
  refine wp_newI (N := 7) dX12_init_99 rfl (by decide) ?_
  rw [zA (iv := (uI Z0 0 17 2)) (fun _ => rfl), zA (iv := Z0) (fun _ => rfl), zQ (rv := (uP (uP (uP (uP (uP (uP (uP (uP (uP (uP (uP N0 0 1 (some 1)) 0 5 (some 2)) 0 6 (some 3)) 0 7 (some 4)) 0 10 (some 5)) 0 11 (some 6)) 0 12 (some 7)) 0 15 (some 8)) 0 16 (some 9)) 0 18 (some 10)) 0 20 (some 11))) (fun _ => rfl)]
  show wp _ _ _ _ (aR 12 :: _) [(3, 12), (0, 240), (0, 5), (0, 24), (0, 16), (0, 5), (0, 24), (0, 16), (0, 550), (0, 5), (0, 6), (0, 16), (0, 7)] _ _ _ _ _ _
  refine wp_putRF dX12_init_101 gX12_47 rfl rfl ?_
  refine wp_aload_n dX12_init_104 rfl ?_
  refine wp_bipush dX12_init_105 ?_
  refine wp_newI (N := 6) dX12_init_107 rfl (by decide) ?_
  rw [zA (iv := (uI Z0 0 17 2)) (fun _ => rfl), zA (iv := Z0) (fun _ => rfl), zQ (rv := (uP (uP (uP (uP (uP (uP (uP (uP (uP (uP (uP (uP N0 0 1 (some 1)) 0 5 (some 2)) 0 6 (some 3)) 0 7 (some 4)) 0 10 (some 5)) 0 11 (some 6)) 0 12 (some 7)) 0 15 (some 8)) 0 16 (some 9)) 0 18 (some 10)) 0 20 (some 11)) 0 21 (some 12))) (fun _ => rfl)]
  show wp _ _ _ _ (aR 13 :: _) [(3, 12), (0, 240), (0, 5), (0, 24), (0, 16), (0, 5), (0, 24), (0, 16), (0, 550), (0, 5), (0, 6), (0, 16), (0, 7), (0, 6)] _ _ _ _ _ _
  refine wp_putRF dX12_init_109 gX12_50 rfl rfl ?_
  refine wp_aload_n dX12_init_112 rfl ?_
  refine wp_sipush dX12_init_113 ?_
  refine wp_newI (N := 22000) dX12_init_116 rfl (by decide) ?_
  rw [zA (iv := (uI Z0 0 17 2)) (fun _ => rfl), zA (iv := Z0) (fun _ => rfl), zQ (rv := (uP (uP (uP (uP (uP (uP (uP (uP (uP (uP (uP (uP (uP N0 0 1 (some 1)) 0 5 (some 2)) 0 6 (some 3)) 0 7 (some 4)) 0 10 (some 5)) 0 11 (some 6)) 0 12 (some 7)) 0 15 (some 8)) 0 16 (some 9)) 0 18 (some 10)) 0 20 (some 11)) 0 21 (some 12)) 0 23 (some 13))) (fun _ => rfl)]
  show wp _ _ _ _ (aR 14 :: _) [(3, 12), (0, 240), (0, 5), (0, 24), (0, 16), (0, 5), (0, 24), (0, 16), (0, 550), (0, 5), (0, 6), (0, 16), (0, 7), (0, 6), (0, 22000)] _ _ _ _ _ _
  refine wp_putRF dX12_init_118 gX12_53 rfl rfl ?_
  refine wp_aload_n dX12_init_121 rfl ?_
  refine wp_sipush dX12_init_122 ?_
  refine wp_newI (N := 3321) dX12_init_125 rfl (by decide) ?_
  rw [zA (iv := (uI Z0 0 17 2)) (fun _ => rfl), zA (iv := Z0) (fun _ => rfl), zQ (rv := (uP (uP (uP (uP (uP (uP (uP (uP (uP (uP (uP (uP (uP (uP N0 0 1 (some 1)) 0 5 (some 2)) 0 6 (some 3)) 0 7 (some 4)) 0 10 (some 5)) 0 11 (some 6)) 0 12 (some 7)) 0 15 (some 8)) 0 16 (some 9)) 0 18 (some 10)) 0 20 (some 11)) 0 21 (some 12)) 0 23 (some 13)) 0 24 (some 14))) (fun _ => rfl)]
  show wp _ _ _ _ (aR 15 :: _) [(3, 12), (0, 240), (0, 5), (0, 24), (0, 16), (0, 5), (0, 24), (0, 16), (0, 550), (0, 5), (0, 6), (0, 16), (0, 7), (0, 6), (0, 22000), (0, 3321)] _ _ _ _ _ _
  refine wp_putRF dX12_init_127 gX12_56 rfl rfl ?_
  refine wp_aload_n dX12_init_130 rfl ?_
  refine wp_bipush dX12_init_131 ?_
  refine wp_newI (N := 81) dX12_init_133 rfl (by decide) ?_
  rw [zA (iv := (uI Z0 0 17 2)) (fun _ => rfl), zA (iv := Z0) (fun _ => rfl), zQ (rv := (uP (uP (uP (uP (uP (uP (uP (uP (uP (uP (uP (uP (uP (uP (uP N0 0 1 (some 1)) 0 5 (some 2)) 0 6 (some 3)) 0 7 (some 4)) 0 10 (some 5)) 0 11 (some 6)) 0 12 (some 7)) 0 15 (some 8)) 0 16 (some 9)) 0 18 (some 10)) 0 20 (some 11)) 0 21 (some 12)) 0 23 (some 13)) 0 24 (some 14)) 0 27 (some 15))) (fun _ => rfl)]
  show wp _ _ _ _ (aR 16 :: _) [(3, 12), (0, 240), (0, 5), (0, 24), (0, 16), (0, 5), (0, 24), (0, 16), (0, 550), (0, 5), (0, 6), (0, 16), (0, 7), (0, 6), (0, 22000), (0, 3321), (0, 81)] _ _ _ _ _ _
  refine wp_putRF dX12_init_135 gX12_59 rfl rfl ?_
  refine wp_aload_n dX12_init_138 rfl ?_
  refine wp_sipush dX12_init_139 ?_
  refine wp_newI (N := 550) dX12_init_142 rfl (by decide) ?_
  rw [zA (iv := (uI Z0 0 17 2)) (fun _ => rfl), zA (iv := Z0) (fun _ => rfl), zQ (rv := (uP (uP (uP (uP (uP (uP (uP (uP (uP (uP (uP (uP (uP (uP (uP (uP N0 0 1 (some 1)) 0 5 (some 2)) 0 6 (some 3)) 0 7 (some 4)) 0 10 (some 5)) 0 11 (some 6)) 0 12 (some 7)) 0 15 (some 8)) 0 16 (some 9)) 0 18 (some 10)) 0 20 (some 11)) 0 21 (some 12)) 0 23 (some 13)) 0 24 (some 14)) 0 27 (some 15)) 0 28 (some 16))) (fun _ => rfl)]
  show wp _ _ _ _ (aR 17 :: _) [(3, 12), (0, 240), (0, 5), (0, 24), (0, 16), (0, 5), (0, 24), (0, 16), (0, 550), (0, 5), (0, 6), (0, 16), (0, 7), (0, 6), (0, 22000), (0, 3321), (0, 81), (0, 550)] _ _ _ _ _ _
  refine wp_putRF dX12_init_144 gX12_62 rfl rfl ?_
  refine wp_return dX12_init_147 rfl ?_
  rw [← i_iv, ← i_rv] at k
  exact k
