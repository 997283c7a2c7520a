section R7
variable {d : Nat} {iv lw : aF} {F N G O T S : Int → Int} {R : aPost}
theorem l_begD {p n m0 c0 s : Int} (hp : 0 ≤ p ∧ p < 6) (hs : 0 ≤ s ∧ s ≤ 6) (m : Nat) : ∀ (i : Int) (N : Int → Int), 0 ≤ i → i + m = s → N (61 * p + 18) = s → 0 ≤ N (61 * p + 48) → N (61 * p + 48) + m ≤ 7 → (∀ N', N' = delL p m i N → R none SHR (ST iv F (up (waiF N' p 0) (61 * p + 32) 1) G O T S) lw RVR) → wp (d + 5) mX12_begin 74 [some (aR 0), some (aI p), some (aI 1), some (aI n), some (aI m0), some (aI c0), some (aI i)] [] SHR (ST iv F N G O T S) lw RVR 0 0 R := by
  induction m with
  | zero =>
    intro i N h1 h2 h3 h4 h5 k
    refine wp_iload dX12_begin_74 rfl ?_
    refine wp_aload_n dX12_begin_76 rfl ?_
    refine wp_iload_n dX12_begin_77 rfl ?_
    refine wp_bipush dX12_begin_78 ?_
    refine wp_callV (as := [_, _]) (ls0 := [_, _, _]) (kc := 0) (ks := 0) (bc' := 0) (bs' := 0) dX12_begin_80 vX12_161 rfl rfl rfl (Nat.le_of_ble_eq_true rfl) (Nat.le_of_ble_eq_true rfl) (by omega) (by omega) ?_
    refine s_of (by omega) (by omega) ?_
    refine wp_icmp_ge (tgt := 106) dX12_begin_83 rfl (fun h83 => ?_) (fun h83 => by exfalso; omega)
    refine wp_goto (tgt := 136) dX12_begin_106 rfl ?_
    refine wp_aload_n dX12_begin_136 rfl ?_
    refine wp_iload_n dX12_begin_137 rfl ?_
    refine wp_iconst dX12_begin_138 ?_
    refine wp_callV (as := [_, _]) (ls0 := [_, _, _]) (kc := 0) (ks := 0) (bc' := 0) (bs' := 0) dX12_begin_139 vX12_215 rfl rfl rfl (Nat.le_of_ble_eq_true rfl) (Nat.le_of_ble_eq_true rfl) (by omega) (by omega) ?_
    refine s_waitFor (by omega) (by omega) ?_
    refine wp_aload_n dX12_begin_142 rfl ?_
    refine wp_iload_n dX12_begin_143 rfl ?_
    refine wp_bipush dX12_begin_144 ?_
    refine wp_iload_n dX12_begin_146 rfl ?_
    refine wp_callV (as := [_, _, _]) (ls0 := [_, _, _, _]) (kc := 0) (ks := 0) (bc' := 0) (bs' := 0) dX12_begin_147 vX12_141 rfl rfl rfl (Nat.le_of_ble_eq_true rfl) (Nat.le_of_ble_eq_true rfl) (by omega) (by omega) ?_
    refine s_set (by omega) (by omega) ?_
    refine wp_return dX12_begin_150 rfl ?_
    exact k _ rfl
  | succ m ih =>
    intro i N h1 h2 h3 h4 h5 k
    refine wp_iload dX12_begin_74 rfl ?_
    refine wp_aload_n dX12_begin_76 rfl ?_
    refine wp_iload_n dX12_begin_77 rfl ?_
    refine wp_bipush dX12_begin_78 ?_
    refine wp_callV (as := [_, _]) (ls0 := [_, _, _]) (kc := 0) (ks := 0) (bc' := 0) (bs' := 0) dX12_begin_80 vX12_161 rfl rfl rfl (Nat.le_of_ble_eq_true rfl) (Nat.le_of_ble_eq_true rfl) (by omega) (by omega) ?_
    refine s_of (by omega) (by omega) ?_
    refine wp_icmp_ge (tgt := 106) dX12_begin_83 rfl (fun h83 => by exfalso; omega) (fun h83 => ?_)
    refine wp_aload_n dX12_begin_86 rfl ?_
    refine wp_iload_n dX12_begin_87 rfl ?_
    refine wp_aload_n dX12_begin_88 rfl ?_
    refine wp_iload_n dX12_begin_89 rfl ?_
    refine wp_iconst dX12_begin_90 ?_
    refine wp_iload dX12_begin_91 rfl ?_
    refine wp_iadd dX12_begin_93 ⟨by omega, by omega⟩ ?_
    refine wp_callV (as := [_, _]) (ls0 := [_, _, _]) (kc := 0) (ks := 0) (bc' := 0) (bs' := 0) dX12_begin_94 vX12_161 rfl rfl rfl (Nat.le_of_ble_eq_true rfl) (Nat.le_of_ble_eq_true rfl) (by omega) (by omega) ?_
    refine s_of (by omega) (by omega) ?_
    refine wp_callV (as := [_, _]) (ls0 := [_, _, _]) (kc := 0) (ks := 0) (bc' := 0) (bs' := 0) dX12_begin_97 vX12_184 rfl rfl rfl (Nat.le_of_ble_eq_true rfl) (Nat.le_of_ble_eq_true rfl) (by omega) (by omega) ?_
    refine s_writeCell (by omega) (by omega) ?_
    refine wp_iinc (ls' := [_, _, _, _, _, _, _]) dX12_begin_100 (by decide) rfl rfl ⟨by omega, by omega⟩ rfl ?_
    refine wp_goto (tgt := 74) dX12_begin_103 rfl ?_
    exact ih _ _ (by omega) (by omega) (by rw [encF_n h4 (by decide)]; exact h3) (by rw [encF_48]; omega) (by rw [encF_48]; omega) k
theorem s_begin0 {p n : Int} (hp : 0 ≤ p ∧ p < 6) (hP : Prm iv F) (hB : Bok (iv 5 0) (iv 5 1) N) (hn : 0 ≤ n ∧ n < 6) (h03 : n ≤ 3) (k : ∀ O', R none SHR (ST iv F (begF iv F N p 0 n) G O' T S) lw RVR) : wp (d + 5) mX12_begin 0 [some (aR 0), some (aI p), some (aI 0), some (aI n), none, none, none] [] SHR (ST iv F N G O T S) lw RVR 0 0 R := by
  obtain ⟨hW1, hW2, hO1, hO2, hT1, hT2, hI1, hI2, hF1, hF2⟩ := id hP
  have hmr := mny_r (iv := iv) (F := F) (N := N) (p := p) (kd := 0) (n := n) hP (hB.v18 hp).1 (by omega) (by decide)
  have h18 := hB.v18 hp
  refine wp_aload_n dX12_begin_0 rfl ?_
  refine wp_iload_n dX12_begin_1 rfl ?_
  refine wp_iload_n dX12_begin_2 rfl ?_
  refine wp_iload_n dX12_begin_3 rfl ?_
  refine wp_callV (as := [_, _, _]) (ls0 := [_, _, _, _, _]) (kc := 0) (ks := 0) (bc' := 0) (bs' := 0) dX12_begin_4 vX12_202 rfl rfl rfl (Nat.le_of_ble_eq_true rfl) (Nat.le_of_ble_eq_true rfl) (by omega) (by omega) ?_
  refine s_manyFor0 (by omega) hP hB (by omega) (fun O' hO' => ?_)
  refine wp_istore (ls' := [_, _, _, _, _, _, _]) dX12_begin_7 (by decide) rfl rfl ?_
  refine wp_iload dX12_begin_9 rfl ?_
  refine wp_iconst dX12_begin_11 ?_
  refine wp_icmp_ne (tgt := 16) dX12_begin_12 rfl (fun h12 => ?_) (fun h12 => ?_)
  · refine wp_iload_n dX12_begin_16 rfl ?_
    refine wp_iconst dX12_begin_17 ?_
    refine wp_icmp_ne (tgt := 32) dX12_begin_18 rfl (fun _ => ?_) (fun q => absurd q (by decide))
    refine wp_iconst dX12_begin_32 ?_
    refine wp_istore (ls' := [_, _, _, _, _, _, _]) dX12_begin_33 (by decide) rfl rfl ?_
    refine wp_aload_n dX12_begin_35 rfl ?_
    refine wp_iload_n dX12_begin_36 rfl ?_
    refine wp_iconst dX12_begin_37 ?_
    refine wp_iload_n dX12_begin_38 rfl ?_
    refine wp_iconst dX12_begin_39 ?_
    refine wp_iload_n dX12_begin_40 rfl ?_
    refine wp_if_eq (tgt := 49) dX12_begin_41 rfl (fun _ => ?_) (fun q => absurd q (by decide))
    refine wp_iload_n dX12_begin_49 rfl ?_
    refine wp_goto (tgt := 54) dX12_begin_50 rfl ?_
    refine wp_callV (as := [_, _, _, _, _]) (ls0 := [_, _, _, _, _, _]) (kc := 0) (ks := 0) (bc' := 0) (bs' := 0) dX12_begin_54 vX12_205 rfl rfl rfl (Nat.le_of_ble_eq_true rfl) (Nat.le_of_ble_eq_true rfl) (by omega) (by omega) ?_
    refine s_write (by omega) ?_
    refine wp_iload_n dX12_begin_57 rfl ?_
    refine wp_iconst dX12_begin_58 ?_
    refine wp_icmp_ne (tgt := 109) dX12_begin_59 rfl (fun _ => ?_) (fun q => absurd q (by decide))
    refine wp_iload_n dX12_begin_109 rfl ?_
    refine wp_iconst dX12_begin_110 ?_
    refine wp_icmp_ne (tgt := 121) dX12_begin_111 rfl (fun _ => ?_) (fun q => absurd q (by decide))
    refine wp_aload_n dX12_begin_121 rfl ?_
    refine wp_iload_n dX12_begin_122 rfl ?_
    refine wp_iload dX12_begin_123 rfl ?_
    refine wp_callV (as := [_, _]) (ls0 := [_, _, _, _]) (kc := 0) (ks := 0) (bc' := 0) (bs' := 0) dX12_begin_125 vX12_209 rfl rfl rfl (Nat.le_of_ble_eq_true rfl) (Nat.le_of_ble_eq_true rfl) (by omega) (by omega) ?_
    refine s_writeOffers (by omega) (by omega) (by rw [wriF_48]; omega) ?_
    refine wp_aload_n dX12_begin_128 rfl ?_
    refine wp_iload_n dX12_begin_129 rfl ?_
    refine wp_iconst dX12_begin_130 ?_
    refine wp_iload dX12_begin_131 rfl ?_
    refine wp_callV (as := [_, _, _]) (ls0 := [_, _, _, _, _]) (kc := 0) (ks := 0) (bc' := 0) (bs' := 0) dX12_begin_133 vX12_212 rfl rfl rfl (Nat.le_of_ble_eq_true rfl) (Nat.le_of_ble_eq_true rfl) (by omega) (by omega) ?_
    refine s_promise (by omega) (by omega) (by omega) ?_
    refine wp_aload_n dX12_begin_136 rfl ?_
    refine wp_iload_n dX12_begin_137 rfl ?_
    refine wp_iconst dX12_begin_138 ?_
    refine wp_callV (as := [_, _]) (ls0 := [_, _, _]) (kc := 0) (ks := 0) (bc' := 0) (bs' := 0) dX12_begin_139 vX12_215 rfl rfl rfl (Nat.le_of_ble_eq_true rfl) (Nat.le_of_ble_eq_true rfl) (by omega) (by omega) ?_
    refine s_waitFor (by omega) (by omega) ?_
    refine wp_aload_n dX12_begin_142 rfl ?_
    refine wp_iload_n dX12_begin_143 rfl ?_
    refine wp_bipush dX12_begin_144 ?_
    refine wp_iload_n dX12_begin_146 rfl ?_
    refine wp_callV (as := [_, _, _]) (ls0 := [_, _, _, _]) (kc := 0) (ks := 0) (bc' := 0) (bs' := 0) dX12_begin_147 vX12_141 rfl rfl rfl (Nat.le_of_ble_eq_true rfl) (Nat.le_of_ble_eq_true rfl) (by omega) (by omega) ?_
    refine s_set (by omega) (by omega) ?_
    refine wp_return dX12_begin_150 rfl ?_
    have hk := k O'
    rw [begF, if_neg h12, if_neg (show ¬ (0 : Int) = 1 by decide), if_neg (show ¬ (0 : Int) = 2 by decide), if_pos rfl] at hk
    rw [prmF_c (fun j a b => hO' (by omega) (by decide) j a b), encL_c _ _ _ (fun j a b => hO' (by omega) (by decide) j a (by omega))]
    exact hk
  · refine wp_return dX12_begin_15 rfl ?_
    have hk := k O'; rw [begF, if_pos h12] at hk; exact hk
theorem s_begin2 {p n : Int} (hp : 0 ≤ p ∧ p < 6) (hP : Prm iv F) (hB : Bok (iv 5 0) (iv 5 1) N) (hn : 0 ≤ n ∧ n < 6) (h03 : True) (k : ∀ O', R none SHR (ST iv F (begF iv F N p 2 n) G O' T S) lw RVR) : wp (d + 5) mX12_begin 0 [some (aR 0), some (aI p), some (aI 2), some (aI n), none, none, none] [] SHR (ST iv F N G O T S) lw RVR 0 0 R := by
  obtain ⟨hW1, hW2, hO1, hO2, hT1, hT2, hI1, hI2, hF1, hF2⟩ := id hP
  have hmr := mny_r (iv := iv) (F := F) (N := N) (p := p) (kd := 2) (n := n) hP (hB.v18 hp).1 (by omega) (by decide)
  have h18 := hB.v18 hp
  refine wp_aload_n dX12_begin_0 rfl ?_
  refine wp_iload_n dX12_begin_1 rfl ?_
  refine wp_iload_n dX12_begin_2 rfl ?_
  refine wp_iload_n dX12_begin_3 rfl ?_
  refine wp_callV (as := [_, _, _]) (ls0 := [_, _, _, _, _]) (kc := 0) (ks := 0) (bc' := 0) (bs' := 0) dX12_begin_4 vX12_202 rfl rfl rfl (Nat.le_of_ble_eq_true rfl) (Nat.le_of_ble_eq_true rfl) (by omega) (by omega) ?_
  refine s_manyFor2 (by omega) hP hB (by omega) (fun O' hO' => ?_)
  refine wp_istore (ls' := [_, _, _, _, _, _, _]) dX12_begin_7 (by decide) rfl rfl ?_
  refine wp_iload dX12_begin_9 rfl ?_
  refine wp_iconst dX12_begin_11 ?_
  refine wp_icmp_ne (tgt := 16) dX12_begin_12 rfl (fun h12 => ?_) (fun h12 => ?_)
  · refine wp_iload_n dX12_begin_16 rfl ?_
    refine wp_iconst dX12_begin_17 ?_
    refine wp_icmp_ne (tgt := 32) dX12_begin_18 rfl (fun q => absurd q (by decide)) (fun _ => ?_)
    refine wp_aload_n dX12_begin_21 rfl ?_
    refine wp_iload_n dX12_begin_22 rfl ?_
    refine wp_iconst dX12_begin_23 ?_
    refine wp_iload_n dX12_begin_24 rfl ?_
    refine wp_iadd dX12_begin_25 ⟨by omega, by omega⟩ ?_
    refine wp_callV (as := [_, _]) (ls0 := [_, _, _]) (kc := 0) (ks := 0) (bc' := 0) (bs' := 0) dX12_begin_26 vX12_161 rfl rfl rfl (Nat.le_of_ble_eq_true rfl) (Nat.le_of_ble_eq_true rfl) (by omega) (by omega) ?_
    refine s_of (by omega) (by omega) ?_
    refine wp_goto (tgt := 33) dX12_begin_29 rfl ?_
    refine wp_istore (ls' := [_, _, _, _, _, _, _]) dX12_begin_33 (by decide) rfl rfl ?_
    refine wp_aload_n dX12_begin_35 rfl ?_
    refine wp_iload_n dX12_begin_36 rfl ?_
    refine wp_iconst dX12_begin_37 ?_
    refine wp_iload_n dX12_begin_38 rfl ?_
    refine wp_iconst dX12_begin_39 ?_
    refine wp_iload_n dX12_begin_40 rfl ?_
    refine wp_if_eq (tgt := 49) dX12_begin_41 rfl (fun q => absurd q (by decide)) (fun _ => ?_)
    refine wp_iload_n dX12_begin_44 rfl ?_
    refine wp_iconst dX12_begin_45 ?_
    refine wp_icmp_ne (tgt := 53) dX12_begin_46 rfl (fun _ => ?_) (fun q => absurd q (by decide))
    refine wp_iconst dX12_begin_53 ?_
    refine wp_callV (as := [_, _, _, _, _]) (ls0 := [_, _, _, _, _, _]) (kc := 0) (ks := 0) (bc' := 0) (bs' := 0) dX12_begin_54 vX12_205 rfl rfl rfl (Nat.le_of_ble_eq_true rfl) (Nat.le_of_ble_eq_true rfl) (by omega) (by omega) ?_
    refine s_write (by omega) ?_
    refine wp_iload_n dX12_begin_57 rfl ?_
    refine wp_iconst dX12_begin_58 ?_
    refine wp_icmp_ne (tgt := 109) dX12_begin_59 rfl (fun _ => ?_) (fun q => absurd q (by decide))
    refine wp_iload_n dX12_begin_109 rfl ?_
    refine wp_iconst dX12_begin_110 ?_
    refine wp_icmp_ne (tgt := 121) dX12_begin_111 rfl (fun q => absurd q (by decide)) (fun _ => ?_)
    refine wp_aload_n dX12_begin_114 rfl ?_
    refine wp_iload_n dX12_begin_115 rfl ?_
    refine wp_iload dX12_begin_116 rfl ?_
    refine wp_callV (as := [_, _]) (ls0 := [_, _, _]) (kc := 0) (ks := 0) (bc' := 0) (bs' := 0) dX12_begin_118 vX12_184 rfl rfl rfl (Nat.le_of_ble_eq_true rfl) (Nat.le_of_ble_eq_true rfl) (by omega) (by omega) ?_
    refine s_writeCell (by omega) (by rw [wriF_48]; omega) ?_
    refine wp_aload_n dX12_begin_121 rfl ?_
    refine wp_iload_n dX12_begin_122 rfl ?_
    refine wp_iload dX12_begin_123 rfl ?_
    refine wp_callV (as := [_, _]) (ls0 := [_, _, _, _]) (kc := 0) (ks := 0) (bc' := 0) (bs' := 0) dX12_begin_125 vX12_209 rfl rfl rfl (Nat.le_of_ble_eq_true rfl) (Nat.le_of_ble_eq_true rfl) (by omega) (by omega) ?_
    refine s_writeOffers (by omega) (by omega) (by rw [encF_48, wriF_48]; omega) ?_
    refine wp_aload_n dX12_begin_128 rfl ?_
    refine wp_iload_n dX12_begin_129 rfl ?_
    refine wp_iconst dX12_begin_130 ?_
    refine wp_iload dX12_begin_131 rfl ?_
    refine wp_callV (as := [_, _, _]) (ls0 := [_, _, _, _, _]) (kc := 0) (ks := 0) (bc' := 0) (bs' := 0) dX12_begin_133 vX12_212 rfl rfl rfl (Nat.le_of_ble_eq_true rfl) (Nat.le_of_ble_eq_true rfl) (by omega) (by omega) ?_
    refine s_promise (by omega) (by omega) (by omega) ?_
    refine wp_aload_n dX12_begin_136 rfl ?_
    refine wp_iload_n dX12_begin_137 rfl ?_
    refine wp_iconst dX12_begin_138 ?_
    refine wp_callV (as := [_, _]) (ls0 := [_, _, _]) (kc := 0) (ks := 0) (bc' := 0) (bs' := 0) dX12_begin_139 vX12_215 rfl rfl rfl (Nat.le_of_ble_eq_true rfl) (Nat.le_of_ble_eq_true rfl) (by omega) (by omega) ?_
    refine s_waitFor (by omega) (by omega) ?_
    refine wp_aload_n dX12_begin_142 rfl ?_
    refine wp_iload_n dX12_begin_143 rfl ?_
    refine wp_bipush dX12_begin_144 ?_
    refine wp_iload_n dX12_begin_146 rfl ?_
    refine wp_callV (as := [_, _, _]) (ls0 := [_, _, _, _]) (kc := 0) (ks := 0) (bc' := 0) (bs' := 0) dX12_begin_147 vX12_141 rfl rfl rfl (Nat.le_of_ble_eq_true rfl) (Nat.le_of_ble_eq_true rfl) (by omega) (by omega) ?_
    refine s_set (by omega) (by omega) ?_
    refine wp_return dX12_begin_150 rfl ?_
    have hk := k O'
    rw [begF, if_neg h12, if_neg (show ¬ (2 : Int) = 1 by decide), if_pos rfl] at hk
    rw [prmF_c (fun j a b => hO' (by omega) (by decide) j a b), encL_c _ _ _ (fun j a b => hO' (by omega) (by decide) j a (by omega))]
    exact hk
  · refine wp_return dX12_begin_15 rfl ?_
    have hk := k O'; rw [begF, if_pos h12] at hk; exact hk
theorem s_begin3 {p n : Int} (hp : 0 ≤ p ∧ p < 6) (hP : Prm iv F) (hB : Bok (iv 5 0) (iv 5 1) N) (hn : 0 ≤ n ∧ n < 6) (h03 : True) (k : ∀ O', R none SHR (ST iv F (begF iv F N p 3 n) G O' T S) lw RVR) : wp (d + 5) mX12_begin 0 [some (aR 0), some (aI p), some (aI 3), some (aI n), none, none, none] [] SHR (ST iv F N G O T S) lw RVR 0 0 R := by
  obtain ⟨hW1, hW2, hO1, hO2, hT1, hT2, hI1, hI2, hF1, hF2⟩ := id hP
  have hmr := mny_r (iv := iv) (F := F) (N := N) (p := p) (kd := 3) (n := n) hP (hB.v18 hp).1 (by omega) (by decide)
  have h18 := hB.v18 hp
  refine wp_aload_n dX12_begin_0 rfl ?_
  refine wp_iload_n dX12_begin_1 rfl ?_
  refine wp_iload_n dX12_begin_2 rfl ?_
  refine wp_iload_n dX12_begin_3 rfl ?_
  refine wp_callV (as := [_, _, _]) (ls0 := [_, _, _, _, _]) (kc := 0) (ks := 0) (bc' := 0) (bs' := 0) dX12_begin_4 vX12_202 rfl rfl rfl (Nat.le_of_ble_eq_true rfl) (Nat.le_of_ble_eq_true rfl) (by omega) (by omega) ?_
  refine s_manyFor3 (by omega) hP hB (by omega) (fun O' hO' => ?_)
  refine wp_istore (ls' := [_, _, _, _, _, _, _]) dX12_begin_7 (by decide) rfl rfl ?_
  refine wp_iload dX12_begin_9 rfl ?_
  refine wp_iconst dX12_begin_11 ?_
  refine wp_icmp_ne (tgt := 16) dX12_begin_12 rfl (fun h12 => ?_) (fun h12 => ?_)
  · refine wp_iload_n dX12_begin_16 rfl ?_
    refine wp_iconst dX12_begin_17 ?_
    refine wp_icmp_ne (tgt := 32) dX12_begin_18 rfl (fun _ => ?_) (fun q => absurd q (by decide))
    refine wp_iconst dX12_begin_32 ?_
    refine wp_istore (ls' := [_, _, _, _, _, _, _]) dX12_begin_33 (by decide) rfl rfl ?_
    refine wp_aload_n dX12_begin_35 rfl ?_
    refine wp_iload_n dX12_begin_36 rfl ?_
    refine wp_iconst dX12_begin_37 ?_
    refine wp_iload_n dX12_begin_38 rfl ?_
    refine wp_iconst dX12_begin_39 ?_
    refine wp_iload_n dX12_begin_40 rfl ?_
    refine wp_if_eq (tgt := 49) dX12_begin_41 rfl (fun q => absurd q (by decide)) (fun _ => ?_)
    refine wp_iload_n dX12_begin_44 rfl ?_
    refine wp_iconst dX12_begin_45 ?_
    refine wp_icmp_ne (tgt := 53) dX12_begin_46 rfl (fun _ => ?_) (fun q => absurd q (by decide))
    refine wp_iconst dX12_begin_53 ?_
    refine wp_callV (as := [_, _, _, _, _]) (ls0 := [_, _, _, _, _, _]) (kc := 0) (ks := 0) (bc' := 0) (bs' := 0) dX12_begin_54 vX12_205 rfl rfl rfl (Nat.le_of_ble_eq_true rfl) (Nat.le_of_ble_eq_true rfl) (by omega) (by omega) ?_
    refine s_write (by omega) ?_
    refine wp_iload_n dX12_begin_57 rfl ?_
    refine wp_iconst dX12_begin_58 ?_
    refine wp_icmp_ne (tgt := 109) dX12_begin_59 rfl (fun _ => ?_) (fun q => absurd q (by decide))
    refine wp_iload_n dX12_begin_109 rfl ?_
    refine wp_iconst dX12_begin_110 ?_
    refine wp_icmp_ne (tgt := 121) dX12_begin_111 rfl (fun _ => ?_) (fun q => absurd q (by decide))
    refine wp_aload_n dX12_begin_121 rfl ?_
    refine wp_iload_n dX12_begin_122 rfl ?_
    refine wp_iload dX12_begin_123 rfl ?_
    refine wp_callV (as := [_, _]) (ls0 := [_, _, _, _]) (kc := 0) (ks := 0) (bc' := 0) (bs' := 0) dX12_begin_125 vX12_209 rfl rfl rfl (Nat.le_of_ble_eq_true rfl) (Nat.le_of_ble_eq_true rfl) (by omega) (by omega) ?_
    refine s_writeOffers (by omega) (by omega) (by rw [wriF_48]; omega) ?_
    refine wp_aload_n dX12_begin_128 rfl ?_
    refine wp_iload_n dX12_begin_129 rfl ?_
    refine wp_iconst dX12_begin_130 ?_
    refine wp_iload dX12_begin_131 rfl ?_
    refine wp_callV (as := [_, _, _]) (ls0 := [_, _, _, _, _]) (kc := 0) (ks := 0) (bc' := 0) (bs' := 0) dX12_begin_133 vX12_212 rfl rfl rfl (Nat.le_of_ble_eq_true rfl) (Nat.le_of_ble_eq_true rfl) (by omega) (by omega) ?_
    refine s_promise (by omega) (by omega) (by omega) ?_
    refine wp_aload_n dX12_begin_136 rfl ?_
    refine wp_iload_n dX12_begin_137 rfl ?_
    refine wp_iconst dX12_begin_138 ?_
    refine wp_callV (as := [_, _]) (ls0 := [_, _, _]) (kc := 0) (ks := 0) (bc' := 0) (bs' := 0) dX12_begin_139 vX12_215 rfl rfl rfl (Nat.le_of_ble_eq_true rfl) (Nat.le_of_ble_eq_true rfl) (by omega) (by omega) ?_
    refine s_waitFor (by omega) (by omega) ?_
    refine wp_aload_n dX12_begin_142 rfl ?_
    refine wp_iload_n dX12_begin_143 rfl ?_
    refine wp_bipush dX12_begin_144 ?_
    refine wp_iload_n dX12_begin_146 rfl ?_
    refine wp_callV (as := [_, _, _]) (ls0 := [_, _, _, _]) (kc := 0) (ks := 0) (bc' := 0) (bs' := 0) dX12_begin_147 vX12_141 rfl rfl rfl (Nat.le_of_ble_eq_true rfl) (Nat.le_of_ble_eq_true rfl) (by omega) (by omega) ?_
    refine s_set (by omega) (by omega) ?_
    refine wp_return dX12_begin_150 rfl ?_
    have hk := k O'
    rw [begF, if_neg h12, if_neg (show ¬ (3 : Int) = 1 by decide), if_neg (show ¬ (3 : Int) = 2 by decide), if_neg (show ¬ (3 : Int) = 0 by decide)] at hk
    rw [prmF_c (fun j a b => hO' (by omega) (by decide) j a b), encL_c _ _ _ (fun j a b => hO' (by omega) (by decide) j a (by omega))]
    exact hk
  · refine wp_return dX12_begin_15 rfl ?_
    have hk := k O'; rw [begF, if_pos h12] at hk; exact hk
theorem s_begin1 {p n : Int} (hp : 0 ≤ p ∧ p < 6) (hP : Prm iv F) (hB : Bok (iv 5 0) (iv 5 1) N) (hn : 0 ≤ n ∧ n < 6) (h03 : n ≤ 3) (k : ∀ O', R none SHR (ST iv F (begF iv F N p 1 n) G O' T S) lw RVR) : wp (d + 5) mX12_begin 0 [some (aR 0), some (aI p), some (aI 1), some (aI n), none, none, none] [] SHR (ST iv F N G O T S) lw RVR 0 0 R := by
  obtain ⟨hW1, hW2, hO1, hO2, hT1, hT2, hI1, hI2, hF1, hF2⟩ := id hP
  have hmr := mny_r (iv := iv) (F := F) (N := N) (p := p) (kd := 1) (n := n) hP (hB.v18 hp).1 (by omega) (by decide)
  have h18 := hB.v18 hp
  refine wp_aload_n dX12_begin_0 rfl ?_
  refine wp_iload_n dX12_begin_1 rfl ?_
  refine wp_iload_n dX12_begin_2 rfl ?_
  refine wp_iload_n dX12_begin_3 rfl ?_
  refine wp_callV (as := [_, _, _]) (ls0 := [_, _, _, _, _]) (kc := 0) (ks := 0) (bc' := 0) (bs' := 0) dX12_begin_4 vX12_202 rfl rfl rfl (Nat.le_of_ble_eq_true rfl) (Nat.le_of_ble_eq_true rfl) (by omega) (by omega) ?_
  refine s_manyFor1 (by omega) hP hB (by omega) (fun O' hO' => ?_)
  refine wp_istore (ls' := [_, _, _, _, _, _, _]) dX12_begin_7 (by decide) rfl rfl ?_
  refine wp_iload dX12_begin_9 rfl ?_
  refine wp_iconst dX12_begin_11 ?_
  refine wp_icmp_ne (tgt := 16) dX12_begin_12 rfl (fun h12 => ?_) (fun h12 => ?_)
  · refine wp_iload_n dX12_begin_16 rfl ?_
    refine wp_iconst dX12_begin_17 ?_
    refine wp_icmp_ne (tgt := 32) dX12_begin_18 rfl (fun _ => ?_) (fun q => absurd q (by decide))
    refine wp_iconst dX12_begin_32 ?_
    refine wp_istore (ls' := [_, _, _, _, _, _, _]) dX12_begin_33 (by decide) rfl rfl ?_
    refine wp_aload_n dX12_begin_35 rfl ?_
    refine wp_iload_n dX12_begin_36 rfl ?_
    refine wp_iconst dX12_begin_37 ?_
    refine wp_iload_n dX12_begin_38 rfl ?_
    refine wp_iconst dX12_begin_39 ?_
    refine wp_iload_n dX12_begin_40 rfl ?_
    refine wp_if_eq (tgt := 49) dX12_begin_41 rfl (fun q => absurd q (by decide)) (fun _ => ?_)
    refine wp_iload_n dX12_begin_44 rfl ?_
    refine wp_iconst dX12_begin_45 ?_
    refine wp_icmp_ne (tgt := 53) dX12_begin_46 rfl (fun q => absurd q (by decide)) (fun _ => ?_)
    refine wp_iload_n dX12_begin_49 rfl ?_
    refine wp_goto (tgt := 54) dX12_begin_50 rfl ?_
    refine wp_callV (as := [_, _, _, _, _]) (ls0 := [_, _, _, _, _, _]) (kc := 0) (ks := 0) (bc' := 0) (bs' := 0) dX12_begin_54 vX12_205 rfl rfl rfl (Nat.le_of_ble_eq_true rfl) (Nat.le_of_ble_eq_true rfl) (by omega) (by omega) ?_
    refine s_write (by omega) ?_
    refine wp_iload_n dX12_begin_57 rfl ?_
    refine wp_iconst dX12_begin_58 ?_
    refine wp_icmp_ne (tgt := 109) dX12_begin_59 rfl (fun q => absurd q (by decide)) (fun _ => ?_)
    refine wp_aload_n dX12_begin_62 rfl ?_
    refine wp_iload_n dX12_begin_63 rfl ?_
    refine wp_bipush dX12_begin_64 ?_
    refine wp_callV (as := [_, _]) (ls0 := [_, _, _]) (kc := 0) (ks := 0) (bc' := 0) (bs' := 0) dX12_begin_66 vX12_161 rfl rfl rfl (Nat.le_of_ble_eq_true rfl) (Nat.le_of_ble_eq_true rfl) (by omega) (by omega) ?_
    refine s_of (by omega) (by omega) ?_
    rw [wriF_n (by decide)]
    refine wp_iload dX12_begin_69 rfl ?_
    refine wp_isub dX12_begin_71 ⟨by omega, by omega⟩ ?_
    refine wp_istore (ls' := [_, _, _, _, _, _, _]) dX12_begin_72 (by decide) rfl rfl ?_
    refine l_begD hp h18 (mny iv F N p 1 n).toNat _ _ (by omega) (by omega) (by rw [wriF_n (by decide)]) (by rw [wriF_48]; omega) (by rw [wriF_48]; omega) (fun N' hN' => ?_)
    have hk := k O'
    rw [begF, if_neg h12, if_pos rfl] at hk
    rw [hN']
    exact hk
  · refine wp_return dX12_begin_15 rfl ?_
    have hk := k O'; rw [begF, if_pos h12] at hk; exact hk
theorem s_begin {p kd n : Int} (hp : 0 ≤ p ∧ p < 6) (hP : Prm iv F) (hB : Bok (iv 5 0) (iv 5 1) N) (hn : 0 ≤ n ∧ n < 6) (hkd : 0 ≤ kd ∧ kd ≤ 3) (h03 : kd ≤ 1 → n ≤ 3) (k : ∀ O', R none SHR (ST iv F (begF iv F N p kd n) G O' T S) lw RVR) : wp (d + 5) mX12_begin 0 [some (aR 0), some (aI p), some (aI kd), some (aI n), none, none, none] [] SHR (ST iv F N G O T S) lw RVR 0 0 R := by
  rcases (by omega : kd = 0 ∨ kd = 1 ∨ kd = 2 ∨ kd = 3) with rfl | rfl | rfl | rfl
  · exact s_begin0 hp hP hB hn (h03 (by decide)) k
  · exact s_begin1 hp hP hB hn (h03 (by decide)) k
  · exact s_begin2 hp hP hB hn trivial k
  · exact s_begin3 hp hP hB hn trivial k
theorem l_layTold {p : Int} (hp : 0 ≤ p ∧ p < 6) (hm : 0 ≤ N (61 * p + 48) ∧ N (61 * p + 48) ≤ 7) (hF : F 22 = N (61 * p + 48)) (m : Nat) : ∀ (i : Int) (T : Int → Int), 0 ≤ i → i + m = N (61 * p + 48) → (∀ j : Int, 0 ≤ j → j < i → T j = N (61 * p + (50 + j))) → (∀ T', (∀ j : Int, 0 ≤ j → j < N (61 * p + 48) → T' j = N (61 * p + (50 + j))) → R none SHR (ST iv F N G O T' S) lw RVR) → wp (d + 1) mX12_layTold 13 [some (aR 0), some (aI p), some (aI i)] [] SHR (ST iv F N G O T S) lw RVR 0 0 R := by
  induction m with
  | zero =>
    intro i T h1 h2 h3 k
    refine wp_iload_n dX12_layTold_13 rfl ?_
    refine wp_aload_n dX12_layTold_14 rfl ?_
    refine wp_getI dX12_layTold_15 fX12_218 rfl ?_
    try simp only [ST0, ST5, ST6, ST7, ST8, ST10, ST11, ST12, ST13]
    refine wp_icmp_ge (tgt := 42) dX12_layTold_18 rfl (fun h18 => ?_) (fun h18 => by exfalso; omega)
    refine wp_return dX12_layTold_42 rfl ?_
    exact k _ (fun j a b => h3 j a (by omega))
  | succ m ih =>
    intro i T h1 h2 h3 k
    refine wp_iload_n dX12_layTold_13 rfl ?_
    refine wp_aload_n dX12_layTold_14 rfl ?_
    refine wp_getI dX12_layTold_15 fX12_218 rfl ?_
    try simp only [ST0, ST5, ST6, ST7, ST8, ST10, ST11, ST12, ST13]
    refine wp_icmp_ge (tgt := 42) dX12_layTold_18 rfl (fun h18 => by exfalso; omega) (fun h18 => ?_)
    refine wp_aload_n dX12_layTold_21 rfl ?_
    refine wp_getR rfl dX12_layTold_22 fX12_47 rfl ?_
    refine wp_iload_n dX12_layTold_25 rfl ?_
    refine wp_aload_n dX12_layTold_26 rfl ?_
    refine wp_iload_n dX12_layTold_27 rfl ?_
    refine wp_bipush dX12_layTold_28 ?_
    refine wp_iload_n dX12_layTold_30 rfl ?_
    refine wp_iadd dX12_layTold_31 ⟨by omega, by omega⟩ ?_
    refine wp_callV (as := [_, _]) (ls0 := [_, _, _]) (kc := 0) (ks := 0) (bc' := 0) (bs' := 0) dX12_layTold_32 vX12_161 rfl rfl rfl (Nat.le_of_ble_eq_true rfl) (Nat.le_of_ble_eq_true rfl) (by omega) (by omega) ?_
    refine s_of (by omega) (by omega) ?_
    refine wp_iast dX12_layTold_35 rfl (by omega) (by omega) ?_
    try simp only [STu0, STu8, STu10, STu11, STu12, STu13]
    refine wp_iinc (ls' := [_, _, _]) dX12_layTold_36 (by decide) rfl rfl ⟨by omega, by omega⟩ rfl ?_
    refine wp_goto (tgt := 13) dX12_layTold_39 rfl ?_
    exact ih _ _ (by omega) (by omega) (fun j a b => (Decidable.em (j = i)).elim (fun e => by rw [e, up_s]) (fun e => by rw [up_n e]; exact h3 j a (by omega))) k
theorem s_layTold {p : Int} (hp : 0 ≤ p ∧ p < 6) (hm : 0 ≤ N (61 * p + 48) ∧ N (61 * p + 48) ≤ 7) (k : ∀ T', (∀ j : Int, 0 ≤ j → j < N (61 * p + 48) → T' j = N (61 * p + (50 + j))) → R none SHR (ST iv (up F 22 (N (61 * p + 48))) N G O T' S) lw RVR) : wp (d + 1) mX12_layTold 0 [some (aR 0), some (aI p), none] [] SHR (ST iv F N G O T S) lw RVR 0 0 R := by
  refine wp_aload_n dX12_layTold_0 rfl ?_
  refine wp_aload_n dX12_layTold_1 rfl ?_
  refine wp_iload_n dX12_layTold_2 rfl ?_
  refine wp_bipush dX12_layTold_3 ?_
  refine wp_callV (as := [_, _]) (ls0 := [_, _, _]) (kc := 0) (ks := 0) (bc' := 0) (bs' := 0) dX12_layTold_5 vX12_161 rfl rfl rfl (Nat.le_of_ble_eq_true rfl) (Nat.le_of_ble_eq_true rfl) (by omega) (by omega) ?_
  refine s_of (by omega) (by omega) ?_
  refine wp_putI dX12_layTold_8 fX12_218 rfl ?_
  try simp only [STu0, STu8, STu10, STu11, STu12, STu13]
  refine wp_iconst dX12_layTold_11 ?_
  refine wp_istore_n (ls' := [_, _, _]) dX12_layTold_12 (by decide) rfl rfl ?_
  exact l_layTold hp hm up_s (N (61 * p + 48)).toNat 0 T (by omega) (by omega) (fun j a b => by omega) k
def nxt (s : Int) : Int := if s = 255 then 1 else s + 1
def stpF (N : Int → Int) (p q : Int) : Int → Int := up N (61 * p + (26 + q)) (nxt (N (61 * p + (26 + q))))
def ansF (N : Int → Int) (p : Int) : Int → Int := if N (61 * p + 48) = 0 then up N (61 * p + 46) 1 else stpF (up N (61 * p + 46) 0) p 1
theorem nxt_r {s : Int} (h : 0 ≤ s ∧ s ≤ 255) : 0 ≤ nxt s ∧ nxt s ≤ 255 := by unfold nxt; split <;> omega
theorem Bok.bstpF {W Of p q : Int} {N : Int → Int} (h : Bok W Of N) (hp : 0 ≤ p ∧ p < 6) (hq : q = 0 ∨ q = 1) : Bok W Of (stpF N p q) :=
  h.bup (by omega) (by rw [kseq hq]; exact nxt_r (h.seq hp hq))
theorem Bok.bansF {W Of p : Int} {N : Int → Int} (h : Bok W Of N) (hp : 0 ≤ p ∧ p < 6) : Bok W Of (ansF N p) := by
  unfold ansF
  split
  · exact h.bup (by omega) (by rw [k46]; omega)
  · exact (h.bup (k := 46) (by omega) (by rw [k46]; omega)).bstpF hp (Or.inr rfl)
theorem s_nextOf {s : Int} {sh : aSh} {rv : aP} (hs : 0 ≤ s ∧ s ≤ 255) (k : R (some (aI (nxt s))) sh iv lw rv) : wp d mX12_nextOf 0 [some (aI s)] [] sh iv lw rv 0 0 R := by
  refine wp_iload_n dX12_nextOf_0 rfl ?_
  refine wp_sipush dX12_nextOf_1 ?_
  refine wp_icmp_ne (tgt := 11) dX12_nextOf_4 rfl (fun h4 => ?_) (fun h4 => ?_)
  · refine wp_iload_n dX12_nextOf_11 rfl ?_
    refine wp_iconst dX12_nextOf_12 ?_
    refine wp_iadd dX12_nextOf_13 ⟨by omega, by omega⟩ ?_
    refine wp_ireturn dX12_nextOf_14 rfl ?_
    unfold nxt at k; first | (rw [if_pos h4] at k; exact k) | (rw [if_neg h4] at k; exact k)
  · refine wp_iconst dX12_nextOf_7 ?_
    refine wp_goto (tgt := 14) dX12_nextOf_8 rfl ?_
    refine wp_ireturn dX12_nextOf_14 rfl ?_
    unfold nxt at k; first | (rw [if_pos h4] at k; exact k) | (rw [if_neg h4] at k; exact k)
theorem s_stepOn {p q : Int} (hp : 0 ≤ p ∧ p < 6) (hq : q = 0 ∨ q = 1) (hs : 0 ≤ N (61 * p + (26 + q)) ∧ N (61 * p + (26 + q)) ≤ 255) (k : R none SHR (ST iv F (stpF N p q) G O T S) lw RVR) : wp (d + 1) mX12_stepOn 0 [some (aR 0), some (aI p), some (aI q)] [] SHR (ST iv F N G O T S) lw RVR 0 0 R := by
  refine wp_aload_n dX12_stepOn_0 rfl ?_
  refine wp_iload_n dX12_stepOn_1 rfl ?_
  refine wp_bipush dX12_stepOn_2 ?_
  refine wp_iload_n dX12_stepOn_4 rfl ?_
  refine wp_iadd dX12_stepOn_5 ⟨by omega, by omega⟩ ?_
  refine wp_aload_n dX12_stepOn_6 rfl ?_
  refine wp_iload_n dX12_stepOn_7 rfl ?_
  refine wp_bipush dX12_stepOn_8 ?_
  refine wp_iload_n dX12_stepOn_10 rfl ?_
  refine wp_iadd dX12_stepOn_11 ⟨by omega, by omega⟩ ?_
  refine wp_callV (as := [_, _]) (ls0 := [_, _, _]) (kc := 0) (ks := 0) (bc' := 0) (bs' := 0) dX12_stepOn_12 vX12_161 rfl rfl rfl (Nat.le_of_ble_eq_true rfl) (Nat.le_of_ble_eq_true rfl) (by omega) (by omega) ?_
  refine s_of (by omega) (by omega) ?_
  refine wp_callS (as := [_]) (ls0 := [_]) (kc := 0) (ks := 0) (bc' := 0) (bs' := 0) dX12_stepOn_15 vX12_221 rfl rfl (Nat.le_of_ble_eq_true rfl) (Nat.le_of_ble_eq_true rfl) (by omega) (by omega) ?_
  refine s_nextOf (by omega) ?_
  refine wp_callV (as := [_, _, _]) (ls0 := [_, _, _, _]) (kc := 0) (ks := 0) (bc' := 0) (bs' := 0) dX12_stepOn_18 vX12_141 rfl rfl rfl (Nat.le_of_ble_eq_true rfl) (Nat.le_of_ble_eq_true rfl) (by omega) (by omega) ?_
  refine s_set (by omega) (by omega) ?_
  refine wp_return dX12_stepOn_21 rfl ?_
  exact k
theorem s_answerTaken {p : Int} (hp : 0 ≤ p ∧ p < 6) (hB : Bok (iv 5 0) (iv 5 1) N) (k : R none SHR (ST iv F (ansF N p) G O T S) lw RVR) : wp (d + 2) mX12_answerTaken 0 [some (aR 0), some (aI p)] [] SHR (ST iv F N G O T S) lw RVR 0 0 R := by
  have h48 := hB.v48 hp
  have hsq := hB.seq hp (q := 1) (Or.inr rfl)
  refine wp_aload_n dX12_answerTaken_0 rfl ?_
  refine wp_iload_n dX12_answerTaken_1 rfl ?_
  refine wp_bipush dX12_answerTaken_2 ?_
  refine wp_aload_n dX12_answerTaken_4 rfl ?_
  refine wp_iload_n dX12_answerTaken_5 rfl ?_
  refine wp_bipush dX12_answerTaken_6 ?_
  refine wp_callV (as := [_, _]) (ls0 := [_, _, _]) (kc := 0) (ks := 0) (bc' := 0) (bs' := 0) dX12_answerTaken_8 vX12_161 rfl rfl rfl (Nat.le_of_ble_eq_true rfl) (Nat.le_of_ble_eq_true rfl) (by omega) (by omega) ?_
  refine s_of (by omega) (by omega) ?_
  refine wp_if_ne (tgt := 18) dX12_answerTaken_11 rfl (fun h11 => ?_) (fun h11 => ?_)
  · refine wp_iconst dX12_answerTaken_18 ?_
    refine wp_callV (as := [_, _, _]) (ls0 := [_, _, _, _]) (kc := 0) (ks := 0) (bc' := 0) (bs' := 0) dX12_answerTaken_19 vX12_141 rfl rfl rfl (Nat.le_of_ble_eq_true rfl) (Nat.le_of_ble_eq_true rfl) (by omega) (by omega) ?_
    refine s_set (by omega) (by omega) ?_
    refine wp_aload_n dX12_answerTaken_22 rfl ?_
    refine wp_iload_n dX12_answerTaken_23 rfl ?_
    refine wp_bipush dX12_answerTaken_24 ?_
    refine wp_callV (as := [_, _]) (ls0 := [_, _, _]) (kc := 0) (ks := 0) (bc' := 0) (bs' := 0) dX12_answerTaken_26 vX12_161 rfl rfl rfl (Nat.le_of_ble_eq_true rfl) (Nat.le_of_ble_eq_true rfl) (by omega) (by omega) ?_
    refine s_of (by omega) (by omega) ?_
    rw [up_n (by omega)]
    refine wp_if_le (tgt := 38) dX12_answerTaken_29 rfl (fun h29 => ?_) (fun h29 => ?_)
    · refine wp_return dX12_answerTaken_38 rfl ?_
      unfold ansF at k; first | (rw [if_pos (by omega)] at k; exact k) | (rw [if_neg (by omega)] at k; exact k) | (exfalso; omega)
    · refine wp_aload_n dX12_answerTaken_32 rfl ?_
      refine wp_iload_n dX12_answerTaken_33 rfl ?_
      refine wp_iconst dX12_answerTaken_34 ?_
      refine wp_callV (as := [_, _]) (ls0 := [_, _, _]) (kc := 0) (ks := 0) (bc' := 0) (bs' := 0) dX12_answerTaken_35 vX12_225 rfl rfl rfl (Nat.le_of_ble_eq_true rfl) (Nat.le_of_ble_eq_true rfl) (by omega) (by omega) ?_
      refine s_stepOn (by omega) (by omega) (by rw [up_n (by omega)]; exact hsq) ?_
      refine wp_return dX12_answerTaken_38 rfl ?_
      unfold ansF at k; first | (rw [if_pos (by omega)] at k; exact k) | (rw [if_neg (by omega)] at k; exact k) | (exfalso; omega)
  · refine wp_iconst dX12_answerTaken_14 ?_
    refine wp_goto (tgt := 19) dX12_answerTaken_15 rfl ?_
    refine wp_callV (as := [_, _, _]) (ls0 := [_, _, _, _]) (kc := 0) (ks := 0) (bc' := 0) (bs' := 0) dX12_answerTaken_19 vX12_141 rfl rfl rfl (Nat.le_of_ble_eq_true rfl) (Nat.le_of_ble_eq_true rfl) (by omega) (by omega) ?_
    refine s_set (by omega) (by omega) ?_
    refine wp_aload_n dX12_answerTaken_22 rfl ?_
    refine wp_iload_n dX12_answerTaken_23 rfl ?_
    refine wp_bipush dX12_answerTaken_24 ?_
    refine wp_callV (as := [_, _]) (ls0 := [_, _, _]) (kc := 0) (ks := 0) (bc' := 0) (bs' := 0) dX12_answerTaken_26 vX12_161 rfl rfl rfl (Nat.le_of_ble_eq_true rfl) (Nat.le_of_ble_eq_true rfl) (by omega) (by omega) ?_
    refine s_of (by omega) (by omega) ?_
    rw [up_n (by omega)]
    refine wp_if_le (tgt := 38) dX12_answerTaken_29 rfl (fun h29 => ?_) (fun h29 => ?_)
    · refine wp_return dX12_answerTaken_38 rfl ?_
      unfold ansF at k; first | (rw [if_pos (by omega)] at k; exact k) | (rw [if_neg (by omega)] at k; exact k) | (exfalso; omega)
    · refine wp_aload_n dX12_answerTaken_32 rfl ?_
      refine wp_iload_n dX12_answerTaken_33 rfl ?_
      refine wp_iconst dX12_answerTaken_34 ?_
      refine wp_callV (as := [_, _]) (ls0 := [_, _, _]) (kc := 0) (ks := 0) (bc' := 0) (bs' := 0) dX12_answerTaken_35 vX12_225 rfl rfl rfl (Nat.le_of_ble_eq_true rfl) (Nat.le_of_ble_eq_true rfl) (by omega) (by omega) ?_
      refine s_stepOn (by omega) (by omega) (by rw [up_n (by omega)]; exact hsq) ?_
      refine wp_return dX12_answerTaken_38 rfl ?_
      unfold ansF at k; first | (rw [if_pos (by omega)] at k; exact k) | (rw [if_neg (by omega)] at k; exact k) | (exfalso; omega)
end R7
