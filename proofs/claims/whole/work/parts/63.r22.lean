section R22
variable {d : Nat} {iv lw : aF} {F N G O T S K : Int → Int} {R : aPost}
theorem l_cellRow (hP : Prm iv F) (hB : Bok (iv 5 0) (iv 5 1) N) (m : Nat) : ∀ p x : Int, 0 ≤ p → p + m = F 13 → (0 ≤ x ∧ x < 10 ^ p.toNat) → R (some (aI (crL N m p x))) SHR (ST iv F N G O T S) lw RVR → wp (d + 1) mX12_cellRow 4 [some (aR 0), some (aI x), some (aI p)] [] SHR (ST iv F N G O T S) lw RVR 0 0 R := by
  obtain ⟨hW1, hW2, hO1, hO2, hT1, hT2, hI1, hI2, hF1, hF2⟩ := id hP
  induction m with
  | zero =>
    intro p x h0 hm hx k
    refine wp_iload_n dX12_cellRow_4 rfl ?_
    refine wp_aload_n dX12_cellRow_5 rfl ?_
    refine wp_getI dX12_cellRow_6 fX12_138 rfl ?_
    try simp only [ST0, ST5, ST6, ST7, ST8, ST10, ST11, ST12, ST13]
    refine wp_icmp_ge (tgt := 31) dX12_cellRow_9 rfl (fun h9 => ?_) (fun h9 => by exfalso; omega)
    refine wp_iload_n dX12_cellRow_31 rfl ?_
    refine wp_ireturn dX12_cellRow_32 rfl ?_
    exact k
  | succ m ih =>
    intro p x h0 hm hx k
    have h18 := hB.v18 (p := p) (by omega)
    have hp10 : (10 : Int) ^ p.toNat ≤ 10 ^ 5 := by
      have : p.toNat ≤ 5 := by omega
      exact_mod_cast Nat.pow_le_pow_right (by decide : 0 < 10) this
    have e10 : (10 : Int) ^ (p + 1).toNat = 10 ^ p.toNat * 10 := by rw [toN1 h0, Int.pow_succ]
    refine wp_iload_n dX12_cellRow_4 rfl ?_
    refine wp_aload_n dX12_cellRow_5 rfl ?_
    refine wp_getI dX12_cellRow_6 fX12_138 rfl ?_
    try simp only [ST0, ST5, ST6, ST7, ST8, ST10, ST11, ST12, ST13]
    refine wp_icmp_ge (tgt := 31) dX12_cellRow_9 rfl (fun h9 => by exfalso; omega) (fun h9 => ?_)
    refine wp_bipush dX12_cellRow_12 ?_
    refine wp_iload_n dX12_cellRow_14 rfl ?_
    refine wp_imul dX12_cellRow_15 ⟨by omega, by omega⟩ ?_
    refine wp_aload_n dX12_cellRow_16 rfl ?_
    refine wp_iload_n dX12_cellRow_17 rfl ?_
    refine wp_bipush dX12_cellRow_18 ?_
    refine wp_callV (as := [_, _]) (ls0 := [_, _, _]) (kc := 0) (ks := 0) (bc' := 0) (bs' := 0) dX12_cellRow_20 vX12_161 rfl rfl rfl (Nat.le_of_ble_eq_true rfl) (Nat.le_of_ble_eq_true rfl) (by omega) (by omega) ?_
    refine s_of (by omega) (by omega) ?_
    refine wp_iadd dX12_cellRow_23 ⟨by omega, by omega⟩ ?_
    refine wp_istore_n (ls' := [_, _, _]) dX12_cellRow_24 (by decide) rfl rfl ?_
    refine wp_iinc (ls' := [_, _, _]) dX12_cellRow_25 (by decide) rfl rfl ⟨by omega, by omega⟩ rfl ?_
    refine wp_goto (tgt := 4) dX12_cellRow_28 rfl ?_
    exact ih _ _ (by omega) (by omega) (by rw [e10]; omega) (by rw [crL] at k; exact k)
theorem s_cellRow (hP : Prm iv F) (hB : Bok (iv 5 0) (iv 5 1) N) (k : R (some (aI (crw F N))) SHR (ST iv F N G O T S) lw RVR) : wp (d + 1) mX12_cellRow 0 [some (aR 0), none, none] [] SHR (ST iv F N G O T S) lw RVR 0 0 R := by
  obtain ⟨hW1, hW2, hO1, hO2, hT1, hT2, hI1, hI2, hF1, hF2⟩ := id hP
  refine wp_iconst dX12_cellRow_0 ?_
  refine wp_istore_n (ls' := [_, _, _]) dX12_cellRow_1 (by decide) rfl rfl ?_
  refine wp_iconst dX12_cellRow_2 ?_
  refine wp_istore_n (ls' := [_, _, _]) dX12_cellRow_3 (by decide) rfl rfl ?_
  exact l_cellRow hP hB (F 13).toNat _ _ (by omega) (by omega) (by decide) k
theorem l_st1 {N0 : Int → Int} {C : Int → Int} (m : Nat) : ∀ (i : Int) (F N G O T S K : Int → Int), 0 ≤ i → i + m = 81 → Prm iv F → Prm2 iv F → Inv iv F N → N 368 + m ≤ 14000 → Out N0 N → (∀ j : Int, 0 ≤ j → j < i → K j = C j) → (∀ j : Int, i ≤ j → j < 81 → C j = crw F (liN iv F (j - i).toNat N)) → (∀ (F' M G' O' T' S' K' : Int → Int), EqF F F' → Out N0 M → (∀ j : Int, 0 ≤ j → j < 81 → K' j = C j) → wp (d + 9) mX12_steady 42 [some (aR 0), some (aI 81), none, none] [] SHR (ST (uA iv 16 K') F' M G' O' T' S') lw RVR 0 0 R) → wp (d + 9) mX12_steady 16 [some (aR 0), some (aI i), none, none] [] SHR (ST (uA iv 16 K) F N G O T S) lw RVR 0 0 R := by
  induction m with
  | zero =>
    intro i F N G O T S K h0 hm hP hP2 hI hf hO hK hC k
    rw [show i = 81 by omega]
    refine wp_iload_n dX12_steady_16 rfl ?_
    refine wp_bipush dX12_steady_17 ?_
    refine wp_icmp_gt (tgt := 42) dX12_steady_19 rfl (fun h19 => ?_) (fun h19 => by exfalso; omega)
    exact k F N G O T S K EqF.rf hO (fun j a b => hK j a (by omega))
  | succ m ih =>
    intro i F N G O T S K h0 hm hP hP2 hI hf hO hK hC k
    have hB := hI.1
    have hL := Inv.liv hP hI (by omega)
    have hOl := Out.liv hP hI (by omega)
    have hq16 : ∀ (K : Int → Int), EqP iv (uA iv 16 K) F F := fun K => EqP.e1 (by decide) (by decide) (by decide)
    refine wp_iload_n dX12_steady_16 rfl ?_
    refine wp_bipush dX12_steady_17 ?_
    refine wp_icmp_gt (tgt := 42) dX12_steady_19 rfl (fun h19 => by exfalso; omega) (fun h19 => ?_)
    refine wp_aload_n dX12_steady_22 rfl ?_
    refine wp_getR rfl dX12_steady_23 fX12_59 rfl ?_
    refine wp_iload_n dX12_steady_26 rfl ?_
    refine wp_aload_n dX12_steady_27 rfl ?_
    refine wp_callV (as := []) (ls0 := [_, _, _]) (kc := 0) (ks := 0) (bc' := 0) (bs' := 0) dX12_steady_28 vX12_360 rfl rfl rfl (Nat.le_of_ble_eq_true rfl) (Nat.le_of_ble_eq_true rfl) (by omega) (by omega) ?_
    refine s_cellRow (Prm_q (hq16 _) hP) hB ?_
    refine wp_iast dX12_steady_31 rfl (by omega) (by omega) ?_
    try simp only [STu0, STu8, STu10, STu11, STu12, STu13, STu14, STu15, STu16, STu17, STu9, uA_s, uA_uA]
    refine wp_aload_n dX12_steady_32 rfl ?_
    refine wp_callV (as := []) (ls0 := [_, _]) (kc := 0) (ks := 0) (bc' := 0) (bs' := 0) dX12_steady_33 vX12_299 rfl rfl rfl (Nat.le_of_ble_eq_true rfl) (Nat.le_of_ble_eq_true rfl) (by omega) (by omega) ?_
    refine s_liveI (Prm_q (hq16 _) hP) (Prm2_q (hq16 _) hP2) (Inv_q (hq16 _) hI) (by omega) (fun F3 G3 O3 T3 S3 f1 f3 => ?_)
    rw [livF_q (hq16 _)]
    have q3 := F3q (iv := iv) f1
    refine wp_iinc (ls' := [_, _, _, _]) dX12_steady_36 (by decide) rfl rfl ⟨by omega, by omega⟩ rfl ?_
    refine wp_goto (tgt := 16) dX12_steady_39 rfl ?_
    refine ih _ _ _ _ _ _ _ _ (by omega) (by omega) (Prm_q q3.1 hP) (Prm2_q q3.1 hP2) (Inv_q q3.1 hL.1) (by rw [hL.2.1]; omega) (hO.tr hOl) (fun j a b => ?_) (fun j a b => ?_) (fun F' M G' O' T' S' K' e1 e2 e3 => ?_)
    · by_cases e : j = i
      · rw [e, up_s, hC i (by omega) (by omega), show (i - i).toNat = 0 by omega, liN]
      · rw [up_n e]; exact hK j a (by omega)
    · rw [hC j (by omega) b, show (j - i).toNat = (j - (i + 1)).toNat + 1 by omega, liN, liN_q q3.1]; unfold crw; rw [q3.1.2.2.2.1]
    · exact k F' M G' O' T' S' K' (q3.2.tr e1) e2 e3
theorem l_st3 {C : Int → Int} {n : Int} (hn : 0 ≤ n ∧ n ≤ 40) (hK : ∀ j : Int, 0 ≤ j → j < 81 → K j = C j) (k : ∀ v3 : aV, ∀ f : Int, ((f = 1 ∧ ∀ z : Int, 1 ≤ z → z ≤ 40 → C (n + z) = C n) ∨ (f = 0 ∧ ¬ ∀ z : Int, 1 ≤ z → z ≤ 40 → C (n + z) = C n)) → wp (d + 9) mX12_steady 98 [some (aR 0), some (aI n), some (aI f), some v3] [] SHR (ST (uA iv 16 K) F N G O T S) lw RVR 0 0 R) (m : Nat) : ∀ i f : Int, 1 ≤ i → i + m = 41 → ((f = 1 ∧ ∀ z : Int, 1 ≤ z → z < i → C (n + z) = C n) ∨ (f = 0 ∧ ¬ ∀ z : Int, 1 ≤ z → z ≤ 40 → C (n + z) = C n)) → wp (d + 9) mX12_steady 59 [some (aR 0), some (aI n), some (aI f), some (aI i)] [] SHR (ST (uA iv 16 K) F N G O T S) lw RVR 0 0 R := by
  induction m with
  | zero =>
    intro i f h0 hm hf
    refine wp_iload_n dX12_steady_59 rfl ?_
    refine wp_bipush dX12_steady_60 ?_
    refine wp_icmp_gt (tgt := 98) dX12_steady_62 rfl (fun h62 => ?_) (fun h62 => by exfalso; omega)
    exact k _ f (hf.imp (fun h => ⟨h.1, fun z a b => h.2 z a (by omega)⟩) id)
  | succ m ih =>
    intro i f h0 hm hf
    refine wp_iload_n dX12_steady_59 rfl ?_
    refine wp_bipush dX12_steady_60 ?_
    refine wp_icmp_gt (tgt := 98) dX12_steady_62 rfl (fun h62 => by exfalso; omega) (fun h62 => ?_)
    refine wp_iload_n dX12_steady_65 rfl ?_
    refine wp_if_eq (tgt := 90) dX12_steady_66 rfl (fun h66 => ?_) (fun h66 => ?_)
    · refine wp_iconst dX12_steady_90 ?_
      refine wp_istore_n (ls' := [_, _, _, _]) dX12_steady_91 (by decide) rfl rfl ?_
      refine wp_iinc (ls' := [_, _, _, _]) dX12_steady_92 (by decide) rfl rfl ⟨by omega, by omega⟩ rfl ?_
      refine wp_goto (tgt := 59) dX12_steady_95 rfl ?_
      refine ih _ _ (by omega) (by omega) ?_
      first
      | exact Or.inl ⟨rfl, fun z a b => by
          by_cases e : z = i
          · rw [e]; exact h83
          · rcases hf with hf | hf
            · exact hf.2 z a (by omega)
            · omega⟩
      | exact Or.inr ⟨rfl, fun z => h83 (z i (by omega) (by omega))⟩
      | exact Or.inr ⟨rfl, by
          rcases hf with hf | hf
          · omega
          · exact hf.2⟩
    · refine wp_aload_n dX12_steady_69 rfl ?_
      refine wp_getR rfl dX12_steady_70 fX12_59 rfl ?_
      refine wp_iload_n dX12_steady_73 rfl ?_
      refine wp_iload_n dX12_steady_74 rfl ?_
      refine wp_iadd dX12_steady_75 ⟨by omega, by omega⟩ ?_
      refine wp_iald dX12_steady_76 rfl (by omega) (by omega) ?_
      try simp only [ST0, ST5, ST6, ST7, ST8, ST10, ST11, ST12, ST13, ST14, ST15, ST16, ST17, uA_s]
      rw [hK _ (by omega) (by omega)]
      refine wp_aload_n dX12_steady_77 rfl ?_
      refine wp_getR rfl dX12_steady_78 fX12_59 rfl ?_
      refine wp_iload_n dX12_steady_81 rfl ?_
      refine wp_iald dX12_steady_82 rfl (by omega) (by omega) ?_
      try simp only [ST0, ST5, ST6, ST7, ST8, ST10, ST11, ST12, ST13, ST14, ST15, ST16, ST17, uA_s]
      rw [hK _ (by omega) (by omega)]
      refine wp_icmp_ne (tgt := 90) dX12_steady_83 rfl (fun h83 => ?_) (fun h83 => ?_)
      · refine wp_iconst dX12_steady_90 ?_
        refine wp_istore_n (ls' := [_, _, _, _]) dX12_steady_91 (by decide) rfl rfl ?_
        refine wp_iinc (ls' := [_, _, _, _]) dX12_steady_92 (by decide) rfl rfl ⟨by omega, by omega⟩ rfl ?_
        refine wp_goto (tgt := 59) dX12_steady_95 rfl ?_
        refine ih _ _ (by omega) (by omega) ?_
        first
        | exact Or.inl ⟨rfl, fun z a b => by
            by_cases e : z = i
            · rw [e]; exact h83
            · rcases hf with hf | hf
              · exact hf.2 z a (by omega)
              · omega⟩
        | exact Or.inr ⟨rfl, fun z => h83 (z i (by omega) (by omega))⟩
        | exact Or.inr ⟨rfl, by
            rcases hf with hf | hf
            · omega
            · exact hf.2⟩
      · refine wp_iconst dX12_steady_86 ?_
        refine wp_goto (tgt := 91) dX12_steady_87 rfl ?_
        refine wp_istore_n (ls' := [_, _, _, _]) dX12_steady_91 (by decide) rfl rfl ?_
        refine wp_iinc (ls' := [_, _, _, _]) dX12_steady_92 (by decide) rfl rfl ⟨by omega, by omega⟩ rfl ?_
        refine wp_goto (tgt := 59) dX12_steady_95 rfl ?_
        refine ih _ _ (by omega) (by omega) ?_
        first
        | exact Or.inl ⟨rfl, fun z a b => by
            by_cases e : z = i
            · rw [e]; exact h83
            · rcases hf with hf | hf
              · exact hf.2 z a (by omega)
              · omega⟩
        | exact Or.inr ⟨rfl, fun z => h83 (z i (by omega) (by omega))⟩
        | exact Or.inr ⟨rfl, by
            rcases hf with hf | hf
            · omega
            · exact hf.2⟩
theorem l_st2 {C : Int → Int} (hK : ∀ j : Int, 0 ≤ j → j < 81 → K j = C j) (m : Nat) : ∀ (n : Int) (v2 v3 : Option aV), 0 ≤ n → n + m = 41 → R (some (aI (stR C m n))) SHR (ST (uA iv 16 K) F N G O T S) lw RVR → wp (d + 9) mX12_steady 49 [some (aR 0), some (aI n), v2, v3] [] SHR (ST (uA iv 16 K) F N G O T S) lw RVR 0 0 R := by
  induction m with
  | zero =>
    intro n v2 v3 h0 hm k
    refine wp_iload_n dX12_steady_49 rfl ?_
    refine wp_bipush dX12_steady_50 ?_
    refine wp_icmp_gt (tgt := 110) dX12_steady_52 rfl (fun h52 => ?_) (fun h52 => by exfalso; omega)
    refine wp_iconst dX12_steady_110 ?_
    refine wp_ireturn dX12_steady_111 rfl ?_
    rw [stR] at k; exact k
  | succ m ih =>
    intro n v2 v3 h0 hm k
    rw [stR] at k
    refine wp_iload_n dX12_steady_49 rfl ?_
    refine wp_bipush dX12_steady_50 ?_
    refine wp_icmp_gt (tgt := 110) dX12_steady_52 rfl (fun h52 => by exfalso; omega) (fun h52 => ?_)
    refine wp_iconst dX12_steady_55 ?_
    refine wp_istore_n (ls' := [_, _, _, _]) dX12_steady_56 (by decide) rfl rfl ?_
    refine wp_iconst dX12_steady_57 ?_
    refine wp_istore_n (ls' := [_, _, _, _]) dX12_steady_58 (by decide) rfl rfl ?_
    refine l_st3 (by omega) hK (fun v3 f hf => ?_) 40 1 1 (by omega) (by omega) (Or.inl ⟨rfl, fun z a b => by omega⟩)
    refine wp_iload_n dX12_steady_98 rfl ?_
    refine wp_if_eq (tgt := 104) dX12_steady_99 rfl (fun h99 => ?_) (fun h99 => ?_)
    · refine wp_iinc (ls' := [_, _, _, _]) dX12_steady_104 (by decide) rfl rfl ⟨by omega, by omega⟩ rfl ?_
      refine wp_goto (tgt := 49) dX12_steady_107 rfl ?_
      rcases hf with hf | hf
      · omega
      · rw [if_neg hf.2] at k; exact ih _ _ _ (by omega) (by omega) k
    · refine wp_iload_n dX12_steady_102 rfl ?_
      refine wp_ireturn dX12_steady_103 rfl ?_
      rcases hf with hf | hf
      · rw [if_pos hf.2] at k; exact k
      · omega
noncomputable def aSteady (iv : aF) (F N : Int → Int) : Int := if F 13 = 0 then -1 else stR (cAt iv F N) 41 0
theorem s_steady (hT : Tld iv F N) (k : ∀ (E' : aF) (F' G' O' T' S' : Int → Int), EqE iv E' → EqF F F' → R (some (aI (aSteady iv F N))) SHR (ST E' F' N G' O' T' S') lw RVR) : wp (d + 9) mX12_steady 0 [some (aR 0), none, none, none] [] SHR (ST iv F N G O T S) lw RVR 0 0 R := by
  obtain ⟨hr, hP2, h9, h8, hc, h25, hT2⟩ := id hT
  have hrd : ∀ (K : Int → Int), EqE iv (uA iv 15 K) := fun K i hi => uA_n (by omega)
  have hq15 : ∀ (K : Int → Int), EqP iv (uA iv 15 K) F F := fun K => EqP.e1 (by decide) (by decide) (by decide)
  have hrd16 : ∀ (K K' : Int → Int), EqE iv (uA (uA iv 15 K) 16 K') := fun K K' i hi => by rw [uA_n (by omega), uA_n (by omega)]
  refine wp_aload_n dX12_steady_0 rfl ?_
  refine wp_getI dX12_steady_1 fX12_138 rfl ?_
  try simp only [ST0, ST5, ST6, ST7, ST8, ST10, ST11, ST12, ST13]
  refine wp_if_ne (tgt := 9) dX12_steady_4 rfl (fun h4 => ?_) (fun h4 => ?_)
  · refine wp_aload_n dX12_steady_9 rfl ?_
    refine wp_iconst dX12_steady_10 ?_
    refine wp_callV (as := [_]) (ls0 := [_, _, _]) (kc := 0) (ks := 0) (bc' := 0) (bs' := 0) dX12_steady_11 vX12_348 rfl rfl rfl (Nat.le_of_ble_eq_true rfl) (Nat.le_of_ble_eq_true rfl) (by omega) (by omega) ?_
    refine s_putAside (by omega) ?_
    refine wp_iconst dX12_steady_14 ?_
    refine wp_istore_n (ls' := [_, _, _, _]) dX12_steady_15 (by decide) rfl rfl ?_
    obtain ⟨hP, hI⟩ := hT2 (by omega)
    rw [show ST (uA iv 15 (cpW (iv 15) N (369 * 0) 369)) F N G O T S = ST (uA (uA iv 15 (cpW (iv 15) N (369 * 0) 369)) 16 (uA iv 15 (cpW (iv 15) N (369 * 0) 369) 16)) F N G O T S by rw [uA_id]]
    refine l_st1 (iv := uA iv 15 (cpW (iv 15) N (369 * 0) 369)) (N0 := N) (C := cAt iv F N) 81 0 F N _ _ _ _ _ (by omega) (by omega) (Prm_q (hq15 _) hP) (Prm2_q (hq15 _) hP2) (Inv_q (hq15 _) hI) (by omega) Out.rf (fun j a b => by omega) (fun j a b => by unfold cAt; rw [liN_q (hq15 _), show j - 0 = j by omega]) (fun F' M G' O' T' S' K' e1 e2 e3 => ?_)
    have hk := k (uA (uA iv 15 (cpW (iv 15) N (369 * 0) 369)) 16 K') F' G' O' T' S' (hrd16 _ _) e1
    unfold aSteady at hk
    rw [if_neg h4] at hk
    refine wp_aload_n dX12_steady_42 rfl ?_
    refine wp_iconst dX12_steady_43 ?_
    refine wp_callV (as := [_]) (ls0 := [_, _, _]) (kc := 0) (ks := 0) (bc' := 0) (bs' := 0) dX12_steady_44 vX12_351 rfl rfl rfl (Nat.le_of_ble_eq_true rfl) (Nat.le_of_ble_eq_true rfl) (by omega) (by omega) ?_
    refine s_takeBack (by omega) ?_
    refine wp_iconst dX12_steady_47 ?_
    refine wp_istore_n (ls' := [_, _, _, _]) dX12_steady_48 (by decide) rfl rfl ?_
    rw [uA_n (by decide : (15 : Nat) ≠ 16), uA_s, back_eq e2]
    exact l_st2 e3 41 0 _ _ (by omega) (by omega) hk
  · refine wp_iconst dX12_steady_7 ?_
    refine wp_ireturn dX12_steady_8 rfl ?_
    have k := k iv F G O T S EqE.rf EqF.rf
    unfold aSteady at k; rw [if_pos h4] at k; exact k
theorem cn1_x0 {x : Int} (hx : x = 0 ↔ AllA F N) : (if x = 0 then (0 : Int) else 1) = cn1 (¬ AllA F N) := by
  by_cases e : x = 0
  · rw [if_pos e, cn1_f (fun z => z (hx.mp e))]
  · rw [if_neg e, cn1_t (fun z => e (hx.mpr z))]
theorem hmN_q {E E' : aF} {F F' : Int → Int} {fr p : Int} (h : EqP E E' F F') (m : Nat) : ∀ (k : Int) (N : Int → Int), hmN E' F' fr p m k N = hmN E F fr p m k N := by
  have hs : ∀ (k : Int) (N : Int → Int), hmS E' F' fr p k N = hmS E F fr p k N := fun k N => by unfold hmS; rw [livF_q h]
  induction m with
  | zero => intro k N; rfl
  | succ m ih => intro k N; rw [hmN, hmN, ih, hs, show AllA F' (hmS E F fr p k N) = AllA F (hmS E F fr p k N) from propext (AllA_q h.2.2.2.1)]
theorem hmV_q {E E' : aF} {F F' : Int → Int} {fr p : Int} (h : EqP E E' F F') : hmV E' F' N fr p = hmV E F N fr p := by unfold hmV; rw [liN_q h, hmN_q h]
theorem hmN_r {E : aF} {fr p : Int} (m : Nat) : ∀ (k : Int) (N : Int → Int), 0 ≤ hmN E F fr p m k N ∧ hmN E F fr p m k N ≤ m := by
  induction m with
  | zero => intro k N; exact ⟨Int.le_refl _, Int.le_refl _⟩
  | succ m ih => intro k N; have h1 := ih (k + 1) (hmS E F fr p k N); rw [hmN]; unfold cn1; split <;> omega
theorem hmV_r {E : aF} {fr p : Int} : -1 ≤ hmV E F N fr p ∧ hmV E F N fr p ≤ 30 := by
  have := hmN_r (E := E) (F := F) (fr := fr) (p := p) 30 0 N
  unfold hmV; split <;> omega
theorem hmS_ok {E : aF} {fr p k : Int} (hP : Prm E F) (hI : Inv E F N) (hfr : N 368 ≤ 14000) (hp : 0 ≤ p ∧ p < 6) : Inv E F (hmS E F fr p k N) ∧ Out N (hmS E F fr p k N) ∧ hmS E F fr p k N 368 = N 368 + 1 := by
  unfold hmS
  split
  · have h1 := hI.drop (p := p) hP hp
    have e : up N (61 * p + 43) 0 368 = N 368 := up_n (by omega)
    have h2 := Inv.liv hP h1 (by omega)
    exact ⟨h2.1, (Out.rf.u (by omega)).tr (Out.liv hP h1 (by omega)), by rw [h2.2.1, e]⟩
  · have h2 := Inv.liv hP hI hfr
    exact ⟨h2.1, Out.liv hP hI hfr, h2.2.1⟩
theorem l_harm1 {N0 : Int → Int} {fr p : Int} (hp : 0 ≤ p ∧ p < 6) (m : Nat) : ∀ (i n f : Int) (F N G O T S : Int → Int), 0 ≤ i → i + m = 30 → (0 ≤ n ∧ n ≤ i) → Prm iv F → Prm2 iv F → Inv iv F N → N 368 + m ≤ 14000 → Out N0 N → (∀ (F' M G' O' T' S' : Int → Int) (f' : Int), EqF F F' → Out N0 M → ((fr < i ∨ 30 ≤ fr) → f' = f) → ((i ≤ fr ∧ fr < 30) → f' = if liN iv F (fr - i).toNat N (61 * p + 43) = 1 then 1 else 0) → wp (d + 9) mX12_harmOf 77 [some (aR 0), some (aI fr), some (aI p), some (aI (n + hmN iv F fr p m i N)), some (aI f'), some (aI 30)] [] SHR (ST iv F' M G' O' T' S') lw RVR 0 0 R) → wp (d + 9) mX12_harmOf 13 [some (aR 0), some (aI fr), some (aI p), some (aI n), some (aI f), some (aI i)] [] SHR (ST iv F N G O T S) lw RVR 0 0 R := by
  induction m with
  | zero =>
    intro i n f F N G O T S h0 hm hn hP hP2 hI hf hO k
    have hk := k F N G O T S f EqF.rf hO (fun _ => rfl) (fun h => by omega)
    rw [hmN, Int.add_zero] at hk
    rw [show i = 30 by omega]
    refine wp_iload dX12_harmOf_13 rfl ?_
    refine wp_bipush dX12_harmOf_15 ?_
    refine wp_icmp_ge (tgt := 77) dX12_harmOf_17 rfl (fun h17 => ?_) (fun h17 => by exfalso; omega)
    exact hk
  | succ m ih =>
    intro i n f F N G O T S h0 hm hn hP hP2 hI hf hO k
    have hs := hmS_ok (fr := fr) (p := p) (k := i) hP hI (by omega) hp
    have hBs := hs.1.1
    by_cases hfi : i = fr
    · have hd := hI.drop (p := p) hP hp
      have e368 : up N (61 * p + 43) 0 368 = N 368 := up_n (by omega)
      have es : hmS iv F fr p i N = livF iv F (up N (61 * p + 43) 0) := by unfold hmS; rw [if_pos hfi]
      refine wp_iload dX12_harmOf_13 rfl ?_
      refine wp_bipush dX12_harmOf_15 ?_
      refine wp_icmp_ge (tgt := 77) dX12_harmOf_17 rfl (fun h17 => by exfalso; omega) (fun h17 => ?_)
      refine wp_iload dX12_harmOf_20 rfl ?_
      refine wp_iload_n dX12_harmOf_22 rfl ?_
      refine wp_icmp_ne (tgt := 52) dX12_harmOf_23 rfl (fun h23 => by exfalso; omega) (fun h23 => ?_)
      refine wp_aload_n dX12_harmOf_26 rfl ?_
      refine wp_iload_n dX12_harmOf_27 rfl ?_
      refine wp_bipush dX12_harmOf_28 ?_
      refine wp_callV (as := [_, _]) (ls0 := [_, _, _]) (kc := 0) (ks := 0) (bc' := 0) (bs' := 0) dX12_harmOf_30 vX12_161 rfl rfl rfl (Nat.le_of_ble_eq_true rfl) (Nat.le_of_ble_eq_true rfl) (by omega) (by omega) ?_
      refine s_of (by omega) (by omega) ?_
      refine wp_iconst dX12_harmOf_33 ?_
      refine wp_icmp_ne (tgt := 41) dX12_harmOf_34 rfl (fun h34 => ?_) (fun h34 => ?_)
      · refine wp_iconst dX12_harmOf_41 ?_
        refine wp_istore (ls' := [_, _, _, _, _, _]) dX12_harmOf_42 (by decide) rfl rfl ?_
        refine wp_aload_n dX12_harmOf_44 rfl ?_
        refine wp_iload_n dX12_harmOf_45 rfl ?_
        refine wp_bipush dX12_harmOf_46 ?_
        refine wp_iconst dX12_harmOf_48 ?_
        refine wp_callV (as := [_, _, _]) (ls0 := [_, _, _, _]) (kc := 0) (ks := 0) (bc' := 0) (bs' := 0) dX12_harmOf_49 vX12_141 rfl rfl rfl (Nat.le_of_ble_eq_true rfl) (Nat.le_of_ble_eq_true rfl) (by omega) (by omega) ?_
        refine s_set (by omega) (by omega) ?_
        refine wp_aload_n dX12_harmOf_52 rfl ?_
        refine wp_callV (as := []) (ls0 := [_, _]) (kc := 0) (ks := 0) (bc' := 0) (bs' := 0) dX12_harmOf_53 vX12_299 rfl rfl rfl (Nat.le_of_ble_eq_true rfl) (Nat.le_of_ble_eq_true rfl) (by omega) (by omega) ?_
        refine s_liveI hP hP2 hd (by omega) (fun F3 G3 O3 T3 S3 f1 f3 => ?_)
        rw [← es]
        have q3 := F3q (iv := iv) f1
        have hPq := Prm_q q3.1 hP
        refine wp_iload_n dX12_harmOf_56 rfl ?_
        refine wp_aload_n dX12_harmOf_57 rfl ?_
        refine wp_callV (as := []) (ls0 := [_, _, _]) (kc := 0) (ks := 0) (bc' := 0) (bs' := 0) dX12_harmOf_58 vX12_357 rfl rfl rfl (Nat.le_of_ble_eq_true rfl) (Nat.le_of_ble_eq_true rfl) (by omega) (by omega) ?_
        refine s_atOdds0 hPq hBs (fun x hx => ?_)
        have hx := cn1_x0 hx
        rw [show AllA F3 (hmS iv F fr p i N) = AllA F (hmS iv F fr p i N) from propext (AllA_q q3.1.2.2.2.1)] at hx
        refine wp_if_eq (tgt := 68) dX12_harmOf_61 rfl (fun h61 => ?_) (fun h61 => ?_)
        · rw [if_pos h61] at hx
          refine wp_iconst dX12_harmOf_68 ?_
          refine wp_iadd dX12_harmOf_69 ⟨by omega, by omega⟩ ?_
          refine wp_istore_n (ls' := [_, _, _, _, _, _]) dX12_harmOf_70 (by decide) rfl rfl ?_
          refine wp_iinc (ls' := [_, _, _, _, _, _]) dX12_harmOf_71 (by decide) rfl rfl ⟨by omega, by omega⟩ rfl ?_
          refine wp_goto (tgt := 13) dX12_harmOf_74 rfl ?_
          refine ih _ _ _ _ _ _ _ _ _ (by omega) (by omega) (by omega) hPq (Prm2_q q3.1 hP2) (Inv_q q3.1 hs.1) (by rw [hs.2.2]; omega) (hO.tr hs.2.1) (fun F' M G' O' T' S' f' e1 e2 e3 e4 => ?_)
          have hk := k F' M G' O' T' S' f' (q3.2.tr e1) e2 (fun z => by omega) (fun z => by
            rw [e3 (by omega), show (fr - i).toNat = 0 by omega, liN]
            first | rw [if_neg h34] | rw [if_pos h34])
          rw [hmN, ← hx, ← Int.add_assoc] at hk
          rw [hmN_q q3.1]
          exact hk
        · rw [if_neg h61] at hx
          refine wp_iconst dX12_harmOf_64 ?_
          refine wp_goto (tgt := 69) dX12_harmOf_65 rfl ?_
          refine wp_iadd dX12_harmOf_69 ⟨by omega, by omega⟩ ?_
          refine wp_istore_n (ls' := [_, _, _, _, _, _]) dX12_harmOf_70 (by decide) rfl rfl ?_
          refine wp_iinc (ls' := [_, _, _, _, _, _]) dX12_harmOf_71 (by decide) rfl rfl ⟨by omega, by omega⟩ rfl ?_
          refine wp_goto (tgt := 13) dX12_harmOf_74 rfl ?_
          refine ih _ _ _ _ _ _ _ _ _ (by omega) (by omega) (by omega) hPq (Prm2_q q3.1 hP2) (Inv_q q3.1 hs.1) (by rw [hs.2.2]; omega) (hO.tr hs.2.1) (fun F' M G' O' T' S' f' e1 e2 e3 e4 => ?_)
          have hk := k F' M G' O' T' S' f' (q3.2.tr e1) e2 (fun z => by omega) (fun z => by
            rw [e3 (by omega), show (fr - i).toNat = 0 by omega, liN]
            first | rw [if_neg h34] | rw [if_pos h34])
          rw [hmN, ← hx, ← Int.add_assoc] at hk
          rw [hmN_q q3.1]
          exact hk
      · refine wp_iconst dX12_harmOf_37 ?_
        refine wp_goto (tgt := 42) dX12_harmOf_38 rfl ?_
        refine wp_istore (ls' := [_, _, _, _, _, _]) dX12_harmOf_42 (by decide) rfl rfl ?_
        refine wp_aload_n dX12_harmOf_44 rfl ?_
        refine wp_iload_n dX12_harmOf_45 rfl ?_
        refine wp_bipush dX12_harmOf_46 ?_
        refine wp_iconst dX12_harmOf_48 ?_
        refine wp_callV (as := [_, _, _]) (ls0 := [_, _, _, _]) (kc := 0) (ks := 0) (bc' := 0) (bs' := 0) dX12_harmOf_49 vX12_141 rfl rfl rfl (Nat.le_of_ble_eq_true rfl) (Nat.le_of_ble_eq_true rfl) (by omega) (by omega) ?_
        refine s_set (by omega) (by omega) ?_
        refine wp_aload_n dX12_harmOf_52 rfl ?_
        refine wp_callV (as := []) (ls0 := [_, _]) (kc := 0) (ks := 0) (bc' := 0) (bs' := 0) dX12_harmOf_53 vX12_299 rfl rfl rfl (Nat.le_of_ble_eq_true rfl) (Nat.le_of_ble_eq_true rfl) (by omega) (by omega) ?_
        refine s_liveI hP hP2 hd (by omega) (fun F3 G3 O3 T3 S3 f1 f3 => ?_)
        rw [← es]
        have q3 := F3q (iv := iv) f1
        have hPq := Prm_q q3.1 hP
        refine wp_iload_n dX12_harmOf_56 rfl ?_
        refine wp_aload_n dX12_harmOf_57 rfl ?_
        refine wp_callV (as := []) (ls0 := [_, _, _]) (kc := 0) (ks := 0) (bc' := 0) (bs' := 0) dX12_harmOf_58 vX12_357 rfl rfl rfl (Nat.le_of_ble_eq_true rfl) (Nat.le_of_ble_eq_true rfl) (by omega) (by omega) ?_
        refine s_atOdds0 hPq hBs (fun x hx => ?_)
        have hx := cn1_x0 hx
        rw [show AllA F3 (hmS iv F fr p i N) = AllA F (hmS iv F fr p i N) from propext (AllA_q q3.1.2.2.2.1)] at hx
        refine wp_if_eq (tgt := 68) dX12_harmOf_61 rfl (fun h61 => ?_) (fun h61 => ?_)
        · rw [if_pos h61] at hx
          refine wp_iconst dX12_harmOf_68 ?_
          refine wp_iadd dX12_harmOf_69 ⟨by omega, by omega⟩ ?_
          refine wp_istore_n (ls' := [_, _, _, _, _, _]) dX12_harmOf_70 (by decide) rfl rfl ?_
          refine wp_iinc (ls' := [_, _, _, _, _, _]) dX12_harmOf_71 (by decide) rfl rfl ⟨by omega, by omega⟩ rfl ?_
          refine wp_goto (tgt := 13) dX12_harmOf_74 rfl ?_
          refine ih _ _ _ _ _ _ _ _ _ (by omega) (by omega) (by omega) hPq (Prm2_q q3.1 hP2) (Inv_q q3.1 hs.1) (by rw [hs.2.2]; omega) (hO.tr hs.2.1) (fun F' M G' O' T' S' f' e1 e2 e3 e4 => ?_)
          have hk := k F' M G' O' T' S' f' (q3.2.tr e1) e2 (fun z => by omega) (fun z => by
            rw [e3 (by omega), show (fr - i).toNat = 0 by omega, liN]
            first | rw [if_neg h34] | rw [if_pos h34])
          rw [hmN, ← hx, ← Int.add_assoc] at hk
          rw [hmN_q q3.1]
          exact hk
        · rw [if_neg h61] at hx
          refine wp_iconst dX12_harmOf_64 ?_
          refine wp_goto (tgt := 69) dX12_harmOf_65 rfl ?_
          refine wp_iadd dX12_harmOf_69 ⟨by omega, by omega⟩ ?_
          refine wp_istore_n (ls' := [_, _, _, _, _, _]) dX12_harmOf_70 (by decide) rfl rfl ?_
          refine wp_iinc (ls' := [_, _, _, _, _, _]) dX12_harmOf_71 (by decide) rfl rfl ⟨by omega, by omega⟩ rfl ?_
          refine wp_goto (tgt := 13) dX12_harmOf_74 rfl ?_
          refine ih _ _ _ _ _ _ _ _ _ (by omega) (by omega) (by omega) hPq (Prm2_q q3.1 hP2) (Inv_q q3.1 hs.1) (by rw [hs.2.2]; omega) (hO.tr hs.2.1) (fun F' M G' O' T' S' f' e1 e2 e3 e4 => ?_)
          have hk := k F' M G' O' T' S' f' (q3.2.tr e1) e2 (fun z => by omega) (fun z => by
            rw [e3 (by omega), show (fr - i).toNat = 0 by omega, liN]
            first | rw [if_neg h34] | rw [if_pos h34])
          rw [hmN, ← hx, ← Int.add_assoc] at hk
          rw [hmN_q q3.1]
          exact hk
    · have es : hmS iv F fr p i N = livF iv F N := by unfold hmS; rw [if_neg hfi]
      refine wp_iload dX12_harmOf_13 rfl ?_
      refine wp_bipush dX12_harmOf_15 ?_
      refine wp_icmp_ge (tgt := 77) dX12_harmOf_17 rfl (fun h17 => by exfalso; omega) (fun h17 => ?_)
      refine wp_iload dX12_harmOf_20 rfl ?_
      refine wp_iload_n dX12_harmOf_22 rfl ?_
      refine wp_icmp_ne (tgt := 52) dX12_harmOf_23 rfl (fun h23 => ?_) (fun h23 => by exfalso; omega)
      refine wp_aload_n dX12_harmOf_52 rfl ?_
      refine wp_callV (as := []) (ls0 := [_, _]) (kc := 0) (ks := 0) (bc' := 0) (bs' := 0) dX12_harmOf_53 vX12_299 rfl rfl rfl (Nat.le_of_ble_eq_true rfl) (Nat.le_of_ble_eq_true rfl) (by omega) (by omega) ?_
      refine s_liveI hP hP2 hI (by omega) (fun F3 G3 O3 T3 S3 f1 f3 => ?_)
      rw [← es]
      have q3 := F3q (iv := iv) f1
      have hPq := Prm_q q3.1 hP
      refine wp_iload_n dX12_harmOf_56 rfl ?_
      refine wp_aload_n dX12_harmOf_57 rfl ?_
      refine wp_callV (as := []) (ls0 := [_, _, _]) (kc := 0) (ks := 0) (bc' := 0) (bs' := 0) dX12_harmOf_58 vX12_357 rfl rfl rfl (Nat.le_of_ble_eq_true rfl) (Nat.le_of_ble_eq_true rfl) (by omega) (by omega) ?_
      refine s_atOdds0 hPq hBs (fun x hx => ?_)
      have hx := cn1_x0 hx
      rw [show AllA F3 (hmS iv F fr p i N) = AllA F (hmS iv F fr p i N) from propext (AllA_q q3.1.2.2.2.1)] at hx
      refine wp_if_eq (tgt := 68) dX12_harmOf_61 rfl (fun h61 => ?_) (fun h61 => ?_)
      · rw [if_pos h61] at hx
        refine wp_iconst dX12_harmOf_68 ?_
        refine wp_iadd dX12_harmOf_69 ⟨by omega, by omega⟩ ?_
        refine wp_istore_n (ls' := [_, _, _, _, _, _]) dX12_harmOf_70 (by decide) rfl rfl ?_
        refine wp_iinc (ls' := [_, _, _, _, _, _]) dX12_harmOf_71 (by decide) rfl rfl ⟨by omega, by omega⟩ rfl ?_
        refine wp_goto (tgt := 13) dX12_harmOf_74 rfl ?_
        refine ih _ _ _ _ _ _ _ _ _ (by omega) (by omega) (by omega) hPq (Prm2_q q3.1 hP2) (Inv_q q3.1 hs.1) (by rw [hs.2.2]; omega) (hO.tr hs.2.1) (fun F' M G' O' T' S' f' e1 e2 e3 e4 => ?_)
        have hk := k F' M G' O' T' S' f' (q3.2.tr e1) e2 (fun z => e3 (by omega)) (fun z => by
          rw [e4 (by omega), liN_q q3.1, show (fr - i).toNat = (fr - (i + 1)).toNat + 1 by omega, liN, es])
        rw [hmN, ← hx, ← Int.add_assoc] at hk
        rw [hmN_q q3.1]
        exact hk
      · rw [if_neg h61] at hx
        refine wp_iconst dX12_harmOf_64 ?_
        refine wp_goto (tgt := 69) dX12_harmOf_65 rfl ?_
        refine wp_iadd dX12_harmOf_69 ⟨by omega, by omega⟩ ?_
        refine wp_istore_n (ls' := [_, _, _, _, _, _]) dX12_harmOf_70 (by decide) rfl rfl ?_
        refine wp_iinc (ls' := [_, _, _, _, _, _]) dX12_harmOf_71 (by decide) rfl rfl ⟨by omega, by omega⟩ rfl ?_
        refine wp_goto (tgt := 13) dX12_harmOf_74 rfl ?_
        refine ih _ _ _ _ _ _ _ _ _ (by omega) (by omega) (by omega) hPq (Prm2_q q3.1 hP2) (Inv_q q3.1 hs.1) (by rw [hs.2.2]; omega) (hO.tr hs.2.1) (fun F' M G' O' T' S' f' e1 e2 e3 e4 => ?_)
        have hk := k F' M G' O' T' S' f' (q3.2.tr e1) e2 (fun z => e3 (by omega)) (fun z => by
          rw [e4 (by omega), liN_q q3.1, show (fr - i).toNat = (fr - (i + 1)).toNat + 1 by omega, liN, es])
        rw [hmN, ← hx, ← Int.add_assoc] at hk
        rw [hmN_q q3.1]
        exact hk
theorem s_harmOf {fr p : Int} (hp : 0 ≤ p ∧ p < 6) (hfr : 0 ≤ fr ∧ fr < 30) (hP : Prm iv F) (hP2 : Prm2 iv F) (hI : Inv iv F N) (hf : N 368 ≤ 13000) (k : ∀ (E' : aF) (F' G' O' T' S' : Int → Int), EqE iv E' → EqF F F' → R (some (aI (hmV iv F N fr p))) SHR (ST E' F' N G' O' T' S') lw RVR) : wp (d + 9) mX12_harmOf 0 [some (aR 0), some (aI fr), some (aI p), none, none, none] [] SHR (ST iv F N G O T S) lw RVR 0 0 R := by
  have hrd : ∀ (K : Int → Int), EqE iv (uA iv 15 K) := fun K i hi => uA_n (by omega)
  have hq15 : ∀ (K : Int → Int), EqP iv (uA iv 15 K) F F := fun K => EqP.e1 (by decide) (by decide) (by decide)
  refine wp_aload_n dX12_harmOf_0 rfl ?_
  refine wp_iconst dX12_harmOf_1 ?_
  refine wp_callV (as := [_]) (ls0 := [_, _, _]) (kc := 0) (ks := 0) (bc' := 0) (bs' := 0) dX12_harmOf_2 vX12_348 rfl rfl rfl (Nat.le_of_ble_eq_true rfl) (Nat.le_of_ble_eq_true rfl) (by omega) (by omega) ?_
  refine s_putAside (by omega) ?_
  refine wp_iconst dX12_harmOf_5 ?_
  refine wp_istore_n (ls' := [_, _, _, _, _, _]) dX12_harmOf_6 (by decide) rfl rfl ?_
  refine wp_iconst dX12_harmOf_7 ?_
  refine wp_istore (ls' := [_, _, _, _, _, _]) dX12_harmOf_8 (by decide) rfl rfl ?_
  refine wp_iconst dX12_harmOf_10 ?_
  refine wp_istore (ls' := [_, _, _, _, _, _]) dX12_harmOf_11 (by decide) rfl rfl ?_
  refine l_harm1 (iv := uA iv 15 (cpW (iv 15) N (369 * 0) 369)) (N0 := N) hp 30 0 0 1 F N _ _ _ _ (by omega) (by omega) (by omega) (Prm_q (hq15 _) hP) (Prm2_q (hq15 _) hP2) (Inv_q (hq15 _) hI) (by omega) Out.rf (fun F' M G' O' T' S' f' e1 e2 e3 e4 => ?_)
  have e5 := e4 (by omega)
  rw [liN_q (hq15 _), show fr - 0 = fr by omega] at e5
  rw [hmN_q (hq15 _)]
  have hk := k (uA iv 15 (cpW (iv 15) N (369 * 0) 369)) F' G' O' T' S' (hrd _) e1
  unfold hmV at hk
  by_cases hl : liN iv F fr.toNat N (61 * p + 43) = 1
  · rw [if_pos hl] at e5 hk
    subst e5
    refine wp_aload_n dX12_harmOf_77 rfl ?_
    refine wp_iconst dX12_harmOf_78 ?_
    refine wp_callV (as := [_]) (ls0 := [_, _, _]) (kc := 0) (ks := 0) (bc' := 0) (bs' := 0) dX12_harmOf_79 vX12_351 rfl rfl rfl (Nat.le_of_ble_eq_true rfl) (Nat.le_of_ble_eq_true rfl) (by omega) (by omega) ?_
    refine s_takeBack (by omega) ?_
    refine wp_iload dX12_harmOf_82 rfl ?_
    refine wp_if_eq (tgt := 91) dX12_harmOf_84 rfl (fun q => absurd q (by decide)) (fun _ => ?_)
    refine wp_iload_n dX12_harmOf_87 rfl ?_
    refine wp_goto (tgt := 92) dX12_harmOf_88 rfl ?_
    refine wp_ireturn dX12_harmOf_92 rfl ?_
    rw [uA_s, back_eq e2, Int.zero_add]; exact hk
  · rw [if_neg hl] at e5 hk
    subst e5
    refine wp_aload_n dX12_harmOf_77 rfl ?_
    refine wp_iconst dX12_harmOf_78 ?_
    refine wp_callV (as := [_]) (ls0 := [_, _, _]) (kc := 0) (ks := 0) (bc' := 0) (bs' := 0) dX12_harmOf_79 vX12_351 rfl rfl rfl (Nat.le_of_ble_eq_true rfl) (Nat.le_of_ble_eq_true rfl) (by omega) (by omega) ?_
    refine s_takeBack (by omega) ?_
    refine wp_iload dX12_harmOf_82 rfl ?_
    refine wp_if_eq (tgt := 91) dX12_harmOf_84 rfl (fun _ => ?_) (fun q => absurd q (by decide))
    refine wp_iconst dX12_harmOf_91 ?_
    refine wp_ireturn dX12_harmOf_92 rfl ?_
    rw [uA_s, back_eq e2]; exact hk
end R22
