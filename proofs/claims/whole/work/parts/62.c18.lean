section C18
variable {d b : Nat} {sh : aSh} {iv lw E : aF} {rv : aP} {D O T S K C w N F : Int → Int} {R : aPost} {p : Int}
theorem l_allAgree (hN : NtA sh rv iv b) (hl : PlA sh rv iv E F) (hP : Prm E F) (hR : Rel w N) (hB : Bok (E 5 0) (E 5 1) N) (hrr : ∀ a : Int, 0 ≤ a → a < F 13 → RR N a) (kt : AllA F N → R (some (aI 1)) sh (uA (CD iv b D O T S K C) (12 + 42 * b) w) lw rv) (kf : ¬ (AllA F N) → R (some (aI 0)) sh (uA (CD iv b D O T S K C) (12 + 42 * b) w) lw rv) (m : Nat) : ∀ p : Int, 0 ≤ p → p + m = F 13 → (∀ a : Int, 0 ≤ a → a < p → Agr N a) → wp (d + 2) mX4_allAgree 2 [some (aR (11 + 42 * b)), some (aI p)] [] sh (uA (CD iv b D O T S K C) (12 + 42 * b) w) lw rv 0 0 R := by
  obtain ⟨hW1, hW2, hO1, hO2, hT1, hT2, hI1, hI2, hF1, hF2⟩ := id hP
  induction m with
  | zero =>
    intro p h0 hm ha
    refine wp_iload_n dX4_allAgree_2 rfl ?_
    refine wp_aload_n dX4_allAgree_3 rfl ?_
    refine wp_getR hN.r11p dX4_allAgree_4 fX4_21 hN.s11 ?_
    refine wp_callV (as := []) (ls0 := [_]) (kc := 0) (ks := 0) (bc' := 0) (bs' := 0) dX4_allAgree_7 vX4_40 hl.1 rfl rfl (Nat.le_of_ble_eq_true rfl) (Nat.le_of_ble_eq_true rfl) (by omega) (by omega) ?_
    refine n_pairs (hN.pl hl) ?_
    refine wp_icmp_ge (tgt := 33) dX4_allAgree_10 rfl (fun h10 => ?_) (fun h10 => by exfalso; omega)
    refine wp_iconst dX4_allAgree_33 ?_
    refine wp_zreturn dX4_allAgree_34 rfl (Or.inr rfl) ?_
    exact kt (fun a x y => ha a x (by omega))
  | succ m ih =>
    intro p h0 hm ha
    have hp : 0 ≤ p ∧ p < 6 := by omega
    refine wp_iload_n dX4_allAgree_2 rfl ?_
    refine wp_aload_n dX4_allAgree_3 rfl ?_
    refine wp_getR hN.r11p dX4_allAgree_4 fX4_21 hN.s11 ?_
    refine wp_callV (as := []) (ls0 := [_]) (kc := 0) (ks := 0) (bc' := 0) (bs' := 0) dX4_allAgree_7 vX4_40 hl.1 rfl rfl (Nat.le_of_ble_eq_true rfl) (Nat.le_of_ble_eq_true rfl) (by omega) (by omega) ?_
    refine n_pairs (hN.pl hl) ?_
    refine wp_icmp_ge (tgt := 33) dX4_allAgree_10 rfl (fun h10 => by exfalso; omega) (fun h10 => ?_)
    refine wp_aload_n dX4_allAgree_13 rfl ?_
    refine wp_getR hN.r11l dX4_allAgree_14 fX4_17 hN.s11 ?_
    refine wp_iload_n dX4_allAgree_17 rfl ?_
    refine wp_aaldL dX4_allAgree_18 hN.s13 (by omega) (by omega) (hN.r13 hp) ?_
    refine wp_callV (as := []) (ls0 := [_]) (kc := 0) (ks := 0) (bc' := 0) (bs' := 0) dX4_allAgree_19 vX4_61 (hN.sl hp) rfl rfl (Nat.le_of_ble_eq_true rfl) (Nat.le_of_ble_eq_true rfl) (by omega) (by omega) ?_
    refine k_agrees (hN.lk hp) hR hB (hrr _ (by omega) (by omega)) (fun h19 => ?_) (fun h19 => ?_)
    · refine wp_if_ne (tgt := 27) dX4_allAgree_22 rfl (fun _ => ?_) (fun q => absurd q (by decide))
      refine wp_iinc (ls' := [_, _]) dX4_allAgree_27 (by decide) rfl rfl ⟨by omega, by omega⟩ rfl ?_
      refine wp_goto (tgt := 2) dX4_allAgree_30 rfl ?_
      exact ih _ (by omega) (by omega) (fun a x y => by
        by_cases e : a = p
        · rw [e]; exact h19
        · exact ha a x (by omega))
    · refine wp_if_ne (tgt := 27) dX4_allAgree_22 rfl (fun q => absurd q (by decide)) (fun _ => ?_)
      refine wp_iconst dX4_allAgree_25 ?_
      refine wp_zreturn dX4_allAgree_26 rfl (Or.inl rfl) ?_
      exact kf (fun z => h19 (z p h0 (by omega)))
theorem x_allAgree (hN : NtA sh rv iv b) (hl : PlA sh rv iv E F) (hP : Prm E F) (hR : Rel w N) (hB : Bok (E 5 0) (E 5 1) N) (hrr : ∀ a : Int, 0 ≤ a → a < F 13 → RR N a) (kt : AllA F N → R (some (aI 1)) sh (uA (CD iv b D O T S K C) (12 + 42 * b) w) lw rv) (kf : ¬ (AllA F N) → R (some (aI 0)) sh (uA (CD iv b D O T S K C) (12 + 42 * b) w) lw rv) : wp (d + 2) mX4_allAgree 0 [some (aR (11 + 42 * b)), none] [] sh (uA (CD iv b D O T S K C) (12 + 42 * b) w) lw rv 0 0 R := by
  obtain ⟨hW1, hW2, hO1, hO2, hT1, hT2, hI1, hI2, hF1, hF2⟩ := id hP
  refine wp_iconst dX4_allAgree_0 ?_
  refine wp_istore_n (ls' := [_, _]) dX4_allAgree_1 (by decide) rfl rfl ?_
  exact l_allAgree hN hl hP hR hB hrr kt kf (F 13).toNat _ (by omega) (by omega) (fun a x y => by omega)
theorem l_letters (hN : NtA sh rv iv b) (hl : PlA sh rv iv E F) (hP : Prm E F) (hR : Rel w N) (hB : Bok (E 5 0) (E 5 1) N) (k : R (some (aI (cntP (LtP N) (F 13).toNat))) sh (uA (CD iv b D O T S K C) (12 + 42 * b) w) lw rv) (m : Nat) : ∀ p x : Int, 0 ≤ p → p + m = F 13 → x = cntP (LtP N) p.toNat → wp (d + 1) mX4_lettersUnderWay 4 [some (aR (11 + 42 * b)), some (aI x), some (aI p)] [] sh (uA (CD iv b D O T S K C) (12 + 42 * b) w) lw rv 0 0 R := by
  obtain ⟨hW1, hW2, hO1, hO2, hT1, hT2, hI1, hI2, hF1, hF2⟩ := id hP
  induction m with
  | zero =>
    intro p x h0 hm hx
    refine wp_iload_n dX4_lettersUnderWay_4 rfl ?_
    refine wp_aload_n dX4_lettersUnderWay_5 rfl ?_
    refine wp_getR hN.r11p dX4_lettersUnderWay_6 fX4_21 hN.s11 ?_
    refine wp_callV (as := []) (ls0 := [_]) (kc := 0) (ks := 0) (bc' := 0) (bs' := 0) dX4_lettersUnderWay_9 vX4_40 hl.1 rfl rfl (Nat.le_of_ble_eq_true rfl) (Nat.le_of_ble_eq_true rfl) (by omega) (by omega) ?_
    refine n_pairs (hN.pl hl) ?_
    refine wp_icmp_ge (tgt := 39) dX4_lettersUnderWay_12 rfl (fun h12 => ?_) (fun h12 => by exfalso; omega)
    refine wp_iload_n dX4_lettersUnderWay_39 rfl ?_
    refine wp_ireturn dX4_lettersUnderWay_40 rfl ?_
    rw [hx, show p = F 13 by omega]; exact k
  | succ m ih =>
    intro p x h0 hm hx
    have hp : 0 ≤ p ∧ p < 6 := by omega
    have hr := cntP_r (Q := LtP N) p.toNat
    refine wp_iload_n dX4_lettersUnderWay_4 rfl ?_
    refine wp_aload_n dX4_lettersUnderWay_5 rfl ?_
    refine wp_getR hN.r11p dX4_lettersUnderWay_6 fX4_21 hN.s11 ?_
    refine wp_callV (as := []) (ls0 := [_]) (kc := 0) (ks := 0) (bc' := 0) (bs' := 0) dX4_lettersUnderWay_9 vX4_40 hl.1 rfl rfl (Nat.le_of_ble_eq_true rfl) (Nat.le_of_ble_eq_true rfl) (by omega) (by omega) ?_
    refine n_pairs (hN.pl hl) ?_
    refine wp_icmp_ge (tgt := 39) dX4_lettersUnderWay_12 rfl (fun h12 => by exfalso; omega) (fun h12 => ?_)
    refine wp_aload_n dX4_lettersUnderWay_15 rfl ?_
    refine wp_getR hN.r11l dX4_lettersUnderWay_16 fX4_17 hN.s11 ?_
    refine wp_iload_n dX4_lettersUnderWay_19 rfl ?_
    refine wp_aaldL dX4_lettersUnderWay_20 hN.s13 (by omega) (by omega) (hN.r13 hp) ?_
    refine wp_getR (hN.rlm hp) dX4_lettersUnderWay_21 fX4_52 (hN.sl hp) ?_
    refine wp_callV (as := []) (ls0 := [_]) (kc := 0) (ks := 0) (bc' := 0) (bs' := 0) dX4_lettersUnderWay_24 vX4_87 (hN.sm hp) rfl rfl (Nat.le_of_ble_eq_true rfl) (Nat.le_of_ble_eq_true rfl) (by omega) (by omega) ?_
    refine t_isUnderWay (hN.lk hp).sM hR (fun h24 => ?_) (fun h24 => ?_)
    · have hc := cn1_t (P := LtP N p) h24
      refine wp_if_eq (tgt := 33) dX4_lettersUnderWay_27 rfl (fun q => absurd q (by decide)) (fun _ => ?_)
      refine wp_iinc (ls' := [_, _, _]) dX4_lettersUnderWay_30 (by decide) rfl rfl ⟨by omega, by omega⟩ rfl ?_
      refine wp_iinc (ls' := [_, _, _]) dX4_lettersUnderWay_33 (by decide) rfl rfl ⟨by omega, by omega⟩ rfl ?_
      refine wp_goto (tgt := 4) dX4_lettersUnderWay_36 rfl ?_
      exact ih _ _ (by omega) (by omega) (by rw [toN1 h0, cntP, toNI h0, hc]; omega)
    · have hc := cn1_f (P := LtP N p) h24
      refine wp_if_eq (tgt := 33) dX4_lettersUnderWay_27 rfl (fun _ => ?_) (fun q => absurd q (by decide))
      refine wp_iinc (ls' := [_, _, _]) dX4_lettersUnderWay_33 (by decide) rfl rfl ⟨by omega, by omega⟩ rfl ?_
      refine wp_goto (tgt := 4) dX4_lettersUnderWay_36 rfl ?_
      exact ih _ _ (by omega) (by omega) (by rw [toN1 h0, cntP, toNI h0, hc]; omega)
theorem x_letters (hN : NtA sh rv iv b) (hl : PlA sh rv iv E F) (hP : Prm E F) (hR : Rel w N) (hB : Bok (E 5 0) (E 5 1) N) (k : R (some (aI (cntP (LtP N) (F 13).toNat))) sh (uA (CD iv b D O T S K C) (12 + 42 * b) w) lw rv) : wp (d + 1) mX4_lettersUnderWay 0 [some (aR (11 + 42 * b)), none, none] [] sh (uA (CD iv b D O T S K C) (12 + 42 * b) w) lw rv 0 0 R := by
  obtain ⟨hW1, hW2, hO1, hO2, hT1, hT2, hI1, hI2, hF1, hF2⟩ := id hP
  refine wp_iconst dX4_lettersUnderWay_0 ?_
  refine wp_istore_n (ls' := [_, _, _]) dX4_lettersUnderWay_1 (by decide) rfl rfl ?_
  refine wp_iconst dX4_lettersUnderWay_2 ?_
  refine wp_istore_n (ls' := [_, _, _]) dX4_lettersUnderWay_3 (by decide) rfl rfl ?_
  exact l_letters hN hl hP hR hB k (F 13).toNat _ _ (by omega) (by omega) rfl
theorem l_both (hN : NtA sh rv iv b) (hl : PlA sh rv iv E F) (hP : Prm E F) (hR : Rel w N) (hB : Bok (E 5 0) (E 5 1) N) (k : R (some (aI (shA N (F 13).toNat))) sh (uA (CD iv b D O T S K C) (12 + 42 * b) w) lw rv) (m : Nat) : ∀ p x : Int, 0 ≤ p → p + m = F 13 → x = shA N p.toNat → wp (d + 2) mX4_cellsOfBoth 4 [some (aR (11 + 42 * b)), some (aI x), some (aI p)] [] sh (uA (CD iv b D O T S K C) (12 + 42 * b) w) lw rv 0 0 R := by
  obtain ⟨hW1, hW2, hO1, hO2, hT1, hT2, hI1, hI2, hF1, hF2⟩ := id hP
  induction m with
  | zero =>
    intro p x h0 hm hx
    refine wp_iload_n dX4_cellsOfBoth_4 rfl ?_
    refine wp_aload_n dX4_cellsOfBoth_5 rfl ?_
    refine wp_getR hN.r11p dX4_cellsOfBoth_6 fX4_21 hN.s11 ?_
    refine wp_callV (as := []) (ls0 := [_]) (kc := 0) (ks := 0) (bc' := 0) (bs' := 0) dX4_cellsOfBoth_9 vX4_40 hl.1 rfl rfl (Nat.le_of_ble_eq_true rfl) (Nat.le_of_ble_eq_true rfl) (by omega) (by omega) ?_
    refine n_pairs (hN.pl hl) ?_
    refine wp_icmp_ge (tgt := 45) dX4_cellsOfBoth_12 rfl (fun h12 => ?_) (fun h12 => by exfalso; omega)
    refine wp_iload_n dX4_cellsOfBoth_45 rfl ?_
    refine wp_ireturn dX4_cellsOfBoth_46 rfl ?_
    rw [hx, show p = F 13 by omega]; exact k
  | succ m ih =>
    intro p x h0 hm hx
    have hp : 0 ≤ p ∧ p < 6 := by omega
    have hr := shA_r hB p.toNat (by omega)
    have hr2 := shP_r (N := N) (p := p) (hB.v18 hp)
    refine wp_iload_n dX4_cellsOfBoth_4 rfl ?_
    refine wp_aload_n dX4_cellsOfBoth_5 rfl ?_
    refine wp_getR hN.r11p dX4_cellsOfBoth_6 fX4_21 hN.s11 ?_
    refine wp_callV (as := []) (ls0 := [_]) (kc := 0) (ks := 0) (bc' := 0) (bs' := 0) dX4_cellsOfBoth_9 vX4_40 hl.1 rfl rfl (Nat.le_of_ble_eq_true rfl) (Nat.le_of_ble_eq_true rfl) (by omega) (by omega) ?_
    refine n_pairs (hN.pl hl) ?_
    refine wp_icmp_ge (tgt := 45) dX4_cellsOfBoth_12 rfl (fun h12 => by exfalso; omega) (fun h12 => ?_)
    refine wp_iload_n dX4_cellsOfBoth_15 rfl ?_
    refine wp_aload_n dX4_cellsOfBoth_16 rfl ?_
    refine wp_getR hN.r11l dX4_cellsOfBoth_17 fX4_17 hN.s11 ?_
    refine wp_iload_n dX4_cellsOfBoth_20 rfl ?_
    refine wp_aaldL dX4_cellsOfBoth_21 hN.s13 (by omega) (by omega) (hN.r13 hp) ?_
    refine wp_getR (hN.rls hp) dX4_cellsOfBoth_22 fX4_65 (hN.sl hp) ?_
    refine wp_aload_n dX4_cellsOfBoth_25 rfl ?_
    refine wp_getR hN.r11l dX4_cellsOfBoth_26 fX4_17 hN.s11 ?_
    refine wp_iload_n dX4_cellsOfBoth_29 rfl ?_
    refine wp_aaldL dX4_cellsOfBoth_30 hN.s13 (by omega) (by omega) (hN.r13 hp) ?_
    refine wp_getR (hN.rlr hp) dX4_cellsOfBoth_31 fX4_74 (hN.sl hp) ?_
    refine wp_callV (as := [_]) (ls0 := [_, _, _, _, _]) (kc := 0) (ks := 0) (bc' := 0) (bs' := 0) dX4_cellsOfBoth_34 vX4_90 (hN.ss hp) rfl rfl (Nat.le_of_ble_eq_true rfl) (Nat.le_of_ble_eq_true rfl) (by omega) (by omega) ?_
    refine c_alsoIn (hN.lk hp).sS (hN.lk hp).sR hR hB ?_
    refine wp_iadd dX4_cellsOfBoth_37 ⟨by omega, by omega⟩ ?_
    refine wp_istore_n (ls' := [_, _, _]) dX4_cellsOfBoth_38 (by decide) rfl rfl ?_
    refine wp_iinc (ls' := [_, _, _]) dX4_cellsOfBoth_39 (by decide) rfl rfl ⟨by omega, by omega⟩ rfl ?_
    refine wp_goto (tgt := 4) dX4_cellsOfBoth_42 rfl ?_
    exact ih _ _ (by omega) (by omega) (by rw [toN1 h0, shA, toNI h0, hx])
theorem x_both (hN : NtA sh rv iv b) (hl : PlA sh rv iv E F) (hP : Prm E F) (hR : Rel w N) (hB : Bok (E 5 0) (E 5 1) N) (k : R (some (aI (shA N (F 13).toNat))) sh (uA (CD iv b D O T S K C) (12 + 42 * b) w) lw rv) : wp (d + 2) mX4_cellsOfBoth 0 [some (aR (11 + 42 * b)), none, none] [] sh (uA (CD iv b D O T S K C) (12 + 42 * b) w) lw rv 0 0 R := by
  obtain ⟨hW1, hW2, hO1, hO2, hT1, hT2, hI1, hI2, hF1, hF2⟩ := id hP
  refine wp_iconst dX4_cellsOfBoth_0 ?_
  refine wp_istore_n (ls' := [_, _, _]) dX4_cellsOfBoth_1 (by decide) rfl rfl ?_
  refine wp_iconst dX4_cellsOfBoth_2 ?_
  refine wp_istore_n (ls' := [_, _, _]) dX4_cellsOfBoth_3 (by decide) rfl rfl ?_
  exact l_both hN hl hP hR hB k (F 13).toNat _ _ (by omega) (by omega) rfl
theorem l_loseL (hN : NtA sh rv iv b) (hl : PlA sh rv iv E F) (hP : Prm E F) (m : Nat) : ∀ (p : Int) (w N : Int → Int), 0 ≤ p → p + m = F 13 → Rel w N → (∀ w', Rel w' (drL m p N) → R none sh (uA (CD iv b D O T S K C) (12 + 42 * b) w') lw rv) → wp (d + 1) mX4_loseLetters 2 [some (aR (11 + 42 * b)), some (aI p)] [] sh (uA (CD iv b D O T S K C) (12 + 42 * b) w) lw rv 0 0 R := by
  obtain ⟨hW1, hW2, hO1, hO2, hT1, hT2, hI1, hI2, hF1, hF2⟩ := id hP
  induction m with
  | zero =>
    intro p w N h0 hm hR k
    refine wp_iload_n dX4_loseLetters_2 rfl ?_
    refine wp_aload_n dX4_loseLetters_3 rfl ?_
    refine wp_getR hN.r11p dX4_loseLetters_4 fX4_21 hN.s11 ?_
    refine wp_callV (as := []) (ls0 := [_]) (kc := 0) (ks := 0) (bc' := 0) (bs' := 0) dX4_loseLetters_7 vX4_40 hl.1 rfl rfl (Nat.le_of_ble_eq_true rfl) (Nat.le_of_ble_eq_true rfl) (by omega) (by omega) ?_
    refine n_pairs (hN.pl hl) ?_
    refine wp_icmp_ge (tgt := 31) dX4_loseLetters_10 rfl (fun h10 => ?_) (fun h10 => by exfalso; omega)
    refine wp_return dX4_loseLetters_31 rfl ?_
    exact k w hR
  | succ m ih =>
    intro p w N h0 hm hR k
    have hp : 0 ≤ p ∧ p < 6 := by omega
    refine wp_iload_n dX4_loseLetters_2 rfl ?_
    refine wp_aload_n dX4_loseLetters_3 rfl ?_
    refine wp_getR hN.r11p dX4_loseLetters_4 fX4_21 hN.s11 ?_
    refine wp_callV (as := []) (ls0 := [_]) (kc := 0) (ks := 0) (bc' := 0) (bs' := 0) dX4_loseLetters_7 vX4_40 hl.1 rfl rfl (Nat.le_of_ble_eq_true rfl) (Nat.le_of_ble_eq_true rfl) (by omega) (by omega) ?_
    refine n_pairs (hN.pl hl) ?_
    refine wp_icmp_ge (tgt := 31) dX4_loseLetters_10 rfl (fun h10 => by exfalso; omega) (fun h10 => ?_)
    refine wp_aload_n dX4_loseLetters_13 rfl ?_
    refine wp_getR hN.r11l dX4_loseLetters_14 fX4_17 hN.s11 ?_
    refine wp_iload_n dX4_loseLetters_17 rfl ?_
    refine wp_aaldL dX4_loseLetters_18 hN.s13 (by omega) (by omega) (hN.r13 hp) ?_
    refine wp_getR (hN.rlm hp) dX4_loseLetters_19 fX4_52 (hN.sl hp) ?_
    refine wp_callV (as := []) (ls0 := [_]) (kc := 0) (ks := 0) (bc' := 0) (bs' := 0) dX4_loseLetters_22 vX4_56 (hN.sm hp) rfl rfl (Nat.le_of_ble_eq_true rfl) (Nat.le_of_ble_eq_true rfl) (by omega) (by omega) ?_
    refine t_drop (hN.lk hp).sM hR (fun w hR => ?_)
    refine wp_iinc (ls' := [_, _]) dX4_loseLetters_25 (by decide) rfl rfl ⟨by omega, by omega⟩ rfl ?_
    refine wp_goto (tgt := 2) dX4_loseLetters_28 rfl ?_
    exact ih _ _ _ (by omega) (by omega) hR k
theorem x_loseL (hN : NtA sh rv iv b) (hl : PlA sh rv iv E F) (hP : Prm E F) (hR : Rel w N) (k : ∀ w', Rel w' (drL (F 13).toNat 0 N) → R none sh (uA (CD iv b D O T S K C) (12 + 42 * b) w') lw rv) : wp (d + 1) mX4_loseLetters 0 [some (aR (11 + 42 * b)), none] [] sh (uA (CD iv b D O T S K C) (12 + 42 * b) w) lw rv 0 0 R := by
  obtain ⟨hW1, hW2, hO1, hO2, hT1, hT2, hI1, hI2, hF1, hF2⟩ := id hP
  refine wp_iconst dX4_loseLetters_0 ?_
  refine wp_istore_n (ls' := [_, _]) dX4_loseLetters_1 (by decide) rfl rfl ?_
  exact l_loseL hN hl hP (F 13).toNat _ _ _ (by omega) (by omega) hR k
/-- the pair with most at key z, the lowest of several -/
def tpL (N : Int → Int) (z : Int) : Nat → Int → Int → Int
  | 0, _, x => x
  | m + 1, p, x => tpL N z m (p + 1) (if N (61 * x + z) < N (61 * p + z) then p else x)
def gk (z : Int) : Int := if z = 9 then 18 else if z = 4 then 57 else 58
theorem l_greatest {z : Int} (hz : z = 9 ∨ z = 4 ∨ z = 3) (hN : NtA sh rv iv b) (hl : PlA sh rv iv E F) (hP : Prm E F) (hR : Rel w N) (m : Nat) : ∀ p x : Int, 1 ≤ p → (p + m = F 13 ∨ (m = 0 ∧ F 13 ≤ p)) → (0 ≤ x ∧ x < 6) → R (some (aI (tpL N (gk z) m p x))) sh (uA (CD iv b D O T S K C) (12 + 42 * b) w) lw rv → wp (d + 2) mX4_greatest 4 [some (aR (11 + 42 * b)), some (aI z), some (aI x), some (aI p)] [] sh (uA (CD iv b D O T S K C) (12 + 42 * b) w) lw rv 0 0 R := by
  obtain ⟨hW1, hW2, hO1, hO2, hT1, hT2, hI1, hI2, hF1, hF2⟩ := id hP
  induction m with
  | zero =>
    intro p x h0 hm hx k
    refine wp_iload_n dX4_greatest_4 rfl ?_
    refine wp_aload_n dX4_greatest_5 rfl ?_
    refine wp_getR hN.r11p dX4_greatest_6 fX4_21 hN.s11 ?_
    refine wp_callV (as := []) (ls0 := [_]) (kc := 0) (ks := 0) (bc' := 0) (bs' := 0) dX4_greatest_9 vX4_40 hl.1 rfl rfl (Nat.le_of_ble_eq_true rfl) (Nat.le_of_ble_eq_true rfl) (by omega) (by omega) ?_
    refine n_pairs (hN.pl hl) ?_
    refine wp_icmp_ge (tgt := 46) dX4_greatest_12 rfl (fun h12 => ?_) (fun h12 => by exfalso; omega)
    refine wp_iload_n dX4_greatest_46 rfl ?_
    refine wp_ireturn dX4_greatest_47 rfl ?_
    exact k
  | succ m ih =>
    intro p x h0 hm hx k
    have hp : 0 ≤ p ∧ p < 6 := by omega
    refine wp_iload_n dX4_greatest_4 rfl ?_
    refine wp_aload_n dX4_greatest_5 rfl ?_
    refine wp_getR hN.r11p dX4_greatest_6 fX4_21 hN.s11 ?_
    refine wp_callV (as := []) (ls0 := [_]) (kc := 0) (ks := 0) (bc' := 0) (bs' := 0) dX4_greatest_9 vX4_40 hl.1 rfl rfl (Nat.le_of_ble_eq_true rfl) (Nat.le_of_ble_eq_true rfl) (by omega) (by omega) ?_
    refine n_pairs (hN.pl hl) ?_
    refine wp_icmp_ge (tgt := 46) dX4_greatest_12 rfl (fun h12 => by exfalso; omega) (fun h12 => ?_)
    refine wp_aload_n dX4_greatest_15 rfl ?_
    refine wp_getR hN.r11l dX4_greatest_16 fX4_17 hN.s11 ?_
    refine wp_iload_n dX4_greatest_19 rfl ?_
    refine wp_aaldL dX4_greatest_20 hN.s13 (by omega) (by omega) (hN.r13 hp) ?_
    refine wp_iload_n dX4_greatest_21 rfl ?_
    refine wp_callV (as := [_]) (ls0 := [_, _]) (kc := 0) (ks := 0) (bc' := 0) (bs' := 0) dX4_greatest_22 vX4_94 (hN.sl hp) rfl rfl (Nat.le_of_ble_eq_true rfl) (Nat.le_of_ble_eq_true rfl) (by omega) (by omega) ?_
    refine k_tell (hN.lk hp) hR ?_
    refine wp_aload_n dX4_greatest_25 rfl ?_
    refine wp_getR hN.r11l dX4_greatest_26 fX4_17 hN.s11 ?_
    refine wp_iload_n dX4_greatest_29 rfl ?_
    refine wp_aaldL dX4_greatest_30 hN.s13 (by omega) (by omega) (hN.r13 hx) ?_
    refine wp_iload_n dX4_greatest_31 rfl ?_
    refine wp_callV (as := [_]) (ls0 := [_, _]) (kc := 0) (ks := 0) (bc' := 0) (bs' := 0) dX4_greatest_32 vX4_94 (hN.sl hx) rfl rfl (Nat.le_of_ble_eq_true rfl) (Nat.le_of_ble_eq_true rfl) (by omega) (by omega) ?_
    refine k_tell (hN.lk hx) hR ?_
    have ee : ∀ a : Int, (if z = 3 then N (61 * a + 58) else if z = 4 then N (61 * a + 57) else if z = 5 then N (61 * a + 59) else if z = 6 then N (61 * a + 60) else if z = 7 then N (61 * a + 26) else if z = 8 then N (61 * a + 27) else if z = 9 then N (61 * a + 18) else if z = 10 then N (61 * a + 25) else -1) = N (61 * a + gk z) := fun a => by
      unfold gk; rcases hz with rfl | rfl | rfl <;> rfl
    rw [ee, ee]
    refine wp_icmp_le (tgt := 40) dX4_greatest_35 rfl (fun h35 => ?_) (fun h35 => ?_)
    · rw [tpL, if_neg (by omega)] at k
      refine wp_iinc (ls' := [_, _, _, _]) dX4_greatest_40 (by decide) rfl rfl ⟨by omega, by omega⟩ rfl ?_
      refine wp_goto (tgt := 4) dX4_greatest_43 rfl ?_
      exact ih _ _ (by omega) (by omega) (by omega) k
    · rw [tpL, if_pos (by omega)] at k
      refine wp_iload_n dX4_greatest_38 rfl ?_
      refine wp_istore_n (ls' := [_, _, _, _]) dX4_greatest_39 (by decide) rfl rfl ?_
      refine wp_iinc (ls' := [_, _, _, _]) dX4_greatest_40 (by decide) rfl rfl ⟨by omega, by omega⟩ rfl ?_
      refine wp_goto (tgt := 4) dX4_greatest_43 rfl ?_
      exact ih _ _ (by omega) (by omega) (by omega) k
theorem x_greatest {z : Int} (hz : z = 9 ∨ z = 4 ∨ z = 3) (hN : NtA sh rv iv b) (hl : PlA sh rv iv E F) (hP : Prm E F) (hR : Rel w N) (k : R (some (aI (tpL N (gk z) ((F 13).toNat - 1) 1 0))) sh (uA (CD iv b D O T S K C) (12 + 42 * b) w) lw rv) : wp (d + 2) mX4_greatest 0 [some (aR (11 + 42 * b)), some (aI z), none, none] [] sh (uA (CD iv b D O T S K C) (12 + 42 * b) w) lw rv 0 0 R := by
  obtain ⟨hW1, hW2, hO1, hO2, hT1, hT2, hI1, hI2, hF1, hF2⟩ := id hP
  refine wp_iconst dX4_greatest_0 ?_
  refine wp_istore_n (ls' := [_, _, _, _]) dX4_greatest_1 (by decide) rfl rfl ?_
  refine wp_iconst dX4_greatest_2 ?_
  refine wp_istore_n (ls' := [_, _, _, _]) dX4_greatest_3 (by decide) rfl rfl ?_
  exact l_greatest hz hN hl hP hR ((F 13).toNat - 1) _ _ (by omega) (by omega) (by omega) k
def fbL (N : Int → Int) : Nat → Int → Int
  | 0, _ => -1
  | m + 1, p => if bad N p = -1 then fbL N m (p + 1) else N (61 * p + (0 + bad N p))
theorem l_fbad (hN : NtA sh rv iv b) (hl : PlA sh rv iv E F) (hP : Prm E F) (hR : Rel w N) (hB : Bok (E 5 0) (E 5 1) N) (m : Nat) : ∀ (p : Int) (v2 : Option aV), 0 ≤ p → p + m = F 13 → R (some (aI (fbL N m p))) sh (uA (CD iv b D O T S K C) (12 + 42 * b) w) lw rv → wp (d + 2) mX4_firstBadCell 2 [some (aR (11 + 42 * b)), some (aI p), v2] [] sh (uA (CD iv b D O T S K C) (12 + 42 * b) w) lw rv 0 0 R := by
  obtain ⟨hW1, hW2, hO1, hO2, hT1, hT2, hI1, hI2, hF1, hF2⟩ := id hP
  induction m with
  | zero =>
    intro p v2 h0 hm k
    refine wp_iload_n dX4_firstBadCell_2 rfl ?_
    refine wp_aload_n dX4_firstBadCell_3 rfl ?_
    refine wp_getR hN.r11p dX4_firstBadCell_4 fX4_21 hN.s11 ?_
    refine wp_callV (as := []) (ls0 := [_]) (kc := 0) (ks := 0) (bc' := 0) (bs' := 0) dX4_firstBadCell_7 vX4_40 hl.1 rfl rfl (Nat.le_of_ble_eq_true rfl) (Nat.le_of_ble_eq_true rfl) (by omega) (by omega) ?_
    refine n_pairs (hN.pl hl) ?_
    refine wp_icmp_ge (tgt := 51) dX4_firstBadCell_10 rfl (fun h10 => ?_) (fun h10 => by exfalso; omega)
    refine wp_iconst dX4_firstBadCell_51 ?_
    refine wp_ireturn dX4_firstBadCell_52 rfl ?_
    exact k
  | succ m ih =>
    intro p v2 h0 hm k
    have hp : 0 ≤ p ∧ p < 6 := by omega
    have h18 := hB.v18 hp
    have hbr := bad_r (N := N) (p := p) h18.1
    refine wp_iload_n dX4_firstBadCell_2 rfl ?_
    refine wp_aload_n dX4_firstBadCell_3 rfl ?_
    refine wp_getR hN.r11p dX4_firstBadCell_4 fX4_21 hN.s11 ?_
    refine wp_callV (as := []) (ls0 := [_]) (kc := 0) (ks := 0) (bc' := 0) (bs' := 0) dX4_firstBadCell_7 vX4_40 hl.1 rfl rfl (Nat.le_of_ble_eq_true rfl) (Nat.le_of_ble_eq_true rfl) (by omega) (by omega) ?_
    refine n_pairs (hN.pl hl) ?_
    refine wp_icmp_ge (tgt := 51) dX4_firstBadCell_10 rfl (fun h10 => by exfalso; omega) (fun h10 => ?_)
    refine wp_aload_n dX4_firstBadCell_13 rfl ?_
    refine wp_getR hN.r11l dX4_firstBadCell_14 fX4_17 hN.s11 ?_
    refine wp_iload_n dX4_firstBadCell_17 rfl ?_
    refine wp_aaldL dX4_firstBadCell_18 hN.s13 (by omega) (by omega) (hN.r13 hp) ?_
    refine wp_getR (hN.rls hp) dX4_firstBadCell_19 fX4_65 (hN.sl hp) ?_
    refine wp_callV (as := []) (ls0 := [_, _, _, _, _]) (kc := 0) (ks := 0) (bc' := 0) (bs' := 0) dX4_firstBadCell_22 vX4_97 (hN.ss hp) rfl rfl (Nat.le_of_ble_eq_true rfl) (Nat.le_of_ble_eq_true rfl) (by omega) (by omega) ?_
    refine c_badPlace (hN.lk hp).sS hR hB rfl ?_
    refine wp_istore_n (ls' := [_, _, _]) dX4_firstBadCell_25 (by decide) rfl rfl ?_
    refine wp_iload_n dX4_firstBadCell_26 rfl ?_
    refine wp_iconst dX4_firstBadCell_27 ?_
    refine wp_icmp_eq (tgt := 45) dX4_firstBadCell_28 rfl (fun h28 => ?_) (fun h28 => ?_)
    · rw [fbL, if_pos h28] at k
      refine wp_iinc (ls' := [_, _, _]) dX4_firstBadCell_45 (by decide) rfl rfl ⟨by omega, by omega⟩ rfl ?_
      refine wp_goto (tgt := 2) dX4_firstBadCell_48 rfl ?_
      exact ih _ _ (by omega) (by omega) k
    · rw [fbL, if_neg h28] at k
      refine wp_aload_n dX4_firstBadCell_31 rfl ?_
      refine wp_getR hN.r11l dX4_firstBadCell_32 fX4_17 hN.s11 ?_
      refine wp_iload_n dX4_firstBadCell_35 rfl ?_
      refine wp_aaldL dX4_firstBadCell_36 hN.s13 (by omega) (by omega) (hN.r13 hp) ?_
      refine wp_getR (hN.rls hp) dX4_firstBadCell_37 fX4_65 (hN.sl hp) ?_
      refine wp_iload_n dX4_firstBadCell_40 rfl ?_
      refine wp_callV (as := [_]) (ls0 := [_, _]) (kc := 0) (ks := 0) (bc' := 0) (bs' := 0) dX4_firstBadCell_41 vX4_84 (hN.ss hp) rfl rfl (Nat.le_of_ble_eq_true rfl) (Nat.le_of_ble_eq_true rfl) (by omega) (by omega) ?_
      refine c_numberAt (hN.lk hp).sS hR hB ?_
      rw [mq0, bq0, if_pos (by omega)]
      refine wp_ireturn dX4_firstBadCell_44 rfl ?_
      exact k
theorem x_fbad (hN : NtA sh rv iv b) (hl : PlA sh rv iv E F) (hP : Prm E F) (hR : Rel w N) (hB : Bok (E 5 0) (E 5 1) N) (k : R (some (aI (fbL N (F 13).toNat 0))) sh (uA (CD iv b D O T S K C) (12 + 42 * b) w) lw rv) : wp (d + 2) mX4_firstBadCell 0 [some (aR (11 + 42 * b)), none, none] [] sh (uA (CD iv b D O T S K C) (12 + 42 * b) w) lw rv 0 0 R := by
  obtain ⟨hW1, hW2, hO1, hO2, hT1, hT2, hI1, hI2, hF1, hF2⟩ := id hP
  refine wp_iconst dX4_firstBadCell_0 ?_
  refine wp_istore_n (ls' := [_, _, _]) dX4_firstBadCell_1 (by decide) rfl rfl ?_
  exact l_fbad hN hl hP hR hB (F 13).toNat _ _ (by omega) (by omega) k
def Clp (F N : Int → Int) (p : Int) : Prop := ∃ i a : Int, (0 ≤ i ∧ i < N (61 * p + 18)) ∧ (0 ≤ a ∧ a < F 13) ∧ ¬ a = p ∧ ¬ plc N a 0 (N (61 * p + (0 + i))) = -1
theorem l_coll1 {a : Int} (hN : NtA sh rv iv b) (hl : PlA sh rv iv E F) (hP : Prm E F) (hp : 0 ≤ p ∧ p < 6) (hpF : p < F 13) (ha : 0 ≤ a ∧ a < F 13) (hne : ¬ a = p) (hR : Rel w N) (hB : Bok (E 5 0) (E 5 1) N) (kt : Clp F N p → R (some (aI 1)) sh (uA (CD iv b D O T S K C) (12 + 42 * b) w) lw rv) (k : ∀ v4, (∀ i : Int, 0 ≤ i → i < N (61 * p + 18) → plc N a 0 (N (61 * p + (0 + i))) = -1) → wp (d + 2) mX4_collides 70 [some (aR (11 + 42 * b)), some (aI p), some (aR (sid b p)), some (aI a), v4] [] sh (uA (CD iv b D O T S K C) (12 + 42 * b) w) lw rv 0 0 R) (m : Nat) : ∀ i : Int, 0 ≤ i → i + m = N (61 * p + 18) → (∀ z : Int, 0 ≤ z → z < i → plc N a 0 (N (61 * p + (0 + z))) = -1) → wp (d + 2) mX4_collides 26 [some (aR (11 + 42 * b)), some (aI p), some (aR (sid b p)), some (aI a), some (aI i)] [] sh (uA (CD iv b D O T S K C) (12 + 42 * b) w) lw rv 0 0 R := by
  obtain ⟨hW1, hW2, hO1, hO2, hT1, hT2, hI1, hI2, hF1, hF2⟩ := id hP
  have ha6 : 0 ≤ a ∧ a < 6 := by omega
  have h18 := hB.v18 hp
  induction m with
  | zero =>
    intro i h0 hm hz
    refine wp_iload_n dX4_collides_26 rfl ?_
    refine wp_iload_n dX4_collides_27 rfl ?_
    refine wp_icmp_eq (tgt := 70) dX4_collides_28 rfl (fun h28 => by exfalso; omega) (fun h28 => ?_)
    refine wp_iload dX4_collides_31 rfl ?_
    refine wp_aload_n dX4_collides_33 rfl ?_
    refine wp_callV (as := []) (ls0 := [_]) (kc := 0) (ks := 0) (bc' := 0) (bs' := 0) dX4_collides_34 vX4_81 (hN.ss hp) rfl rfl (Nat.le_of_ble_eq_true rfl) (Nat.le_of_ble_eq_true rfl) (by omega) (by omega) ?_
    refine c_size (hN.lk hp).sS hR ?_
    rw [mq0]
    refine wp_icmp_ge (tgt := 70) dX4_collides_37 rfl (fun h37 => ?_) (fun h37 => by exfalso; omega)
    exact k _ (fun z x y => hz z x (by omega))
  | succ m ih =>
    intro i h0 hm hz
    refine wp_iload_n dX4_collides_26 rfl ?_
    refine wp_iload_n dX4_collides_27 rfl ?_
    refine wp_icmp_eq (tgt := 70) dX4_collides_28 rfl (fun h28 => by exfalso; omega) (fun h28 => ?_)
    refine wp_iload dX4_collides_31 rfl ?_
    refine wp_aload_n dX4_collides_33 rfl ?_
    refine wp_callV (as := []) (ls0 := [_]) (kc := 0) (ks := 0) (bc' := 0) (bs' := 0) dX4_collides_34 vX4_81 (hN.ss hp) rfl rfl (Nat.le_of_ble_eq_true rfl) (Nat.le_of_ble_eq_true rfl) (by omega) (by omega) ?_
    refine c_size (hN.lk hp).sS hR ?_
    rw [mq0]
    refine wp_icmp_ge (tgt := 70) dX4_collides_37 rfl (fun h37 => by exfalso; omega) (fun h37 => ?_)
    refine wp_aload_n dX4_collides_40 rfl ?_
    refine wp_getR hN.r11l dX4_collides_41 fX4_17 hN.s11 ?_
    refine wp_iload_n dX4_collides_44 rfl ?_
    refine wp_aaldL dX4_collides_45 hN.s13 (by omega) (by omega) (hN.r13 ha6) ?_
    refine wp_getR (hN.rls ha6) dX4_collides_46 fX4_65 (hN.sl ha6) ?_
    refine wp_aload_n dX4_collides_49 rfl ?_
    refine wp_iload dX4_collides_50 rfl ?_
    refine wp_callV (as := [_]) (ls0 := [_, _]) (kc := 0) (ks := 0) (bc' := 0) (bs' := 0) dX4_collides_52 vX4_84 (hN.ss hp) rfl rfl (Nat.le_of_ble_eq_true rfl) (Nat.le_of_ble_eq_true rfl) (by omega) (by omega) ?_
    refine c_numberAt (hN.lk hp).sS hR hB ?_
    rw [mq0, bq0, if_pos (by omega)]
    refine wp_callV (as := [_]) (ls0 := [_, _, _, _]) (kc := 0) (ks := 0) (bc' := 0) (bs' := 0) dX4_collides_55 vX4_111 (hN.ss ha6) rfl rfl (Nat.le_of_ble_eq_true rfl) (Nat.le_of_ble_eq_true rfl) (by omega) (by omega) ?_
    refine c_placeOf (hN.lk ha6).sS hR hB ?_
    refine wp_iconst dX4_collides_58 ?_
    refine wp_icmp_eq (tgt := 64) dX4_collides_59 rfl (fun h59 => ?_) (fun h59 => ?_)
    · refine wp_iinc (ls' := [_, _, _, _, _]) dX4_collides_64 (by decide) rfl rfl ⟨by omega, by omega⟩ rfl ?_
      refine wp_goto (tgt := 26) dX4_collides_67 rfl ?_
      exact ih _ (by omega) (by omega) (fun z x y => by
        by_cases e : z = i
        · rw [e]; exact h59
        · exact hz z x (by omega))
    · refine wp_iconst dX4_collides_62 ?_
      refine wp_zreturn dX4_collides_63 rfl (Or.inr rfl) ?_
      exact kt ⟨i, a, ⟨h0, by omega⟩, ha, hne, h59⟩
theorem l_coll2 (hN : NtA sh rv iv b) (hl : PlA sh rv iv E F) (hP : Prm E F) (hp : 0 ≤ p ∧ p < 6) (hpF : p < F 13) (hR : Rel w N) (hB : Bok (E 5 0) (E 5 1) N) (kt : Clp F N p → R (some (aI 1)) sh (uA (CD iv b D O T S K C) (12 + 42 * b) w) lw rv) (kf : ¬ Clp F N p → R (some (aI 0)) sh (uA (CD iv b D O T S K C) (12 + 42 * b) w) lw rv) (m : Nat) : ∀ (a : Int) (v4 : Option aV), 0 ≤ a → a + m = F 13 → (∀ y i : Int, 0 ≤ y → y < a → ¬ y = p → 0 ≤ i → i < N (61 * p + 18) → plc N y 0 (N (61 * p + (0 + i))) = -1) → wp (d + 2) mX4_collides 12 [some (aR (11 + 42 * b)), some (aI p), some (aR (sid b p)), some (aI a), v4] [] sh (uA (CD iv b D O T S K C) (12 + 42 * b) w) lw rv 0 0 R := by
  obtain ⟨hW1, hW2, hO1, hO2, hT1, hT2, hI1, hI2, hF1, hF2⟩ := id hP
  have h18 := hB.v18 hp
  induction m with
  | zero =>
    intro a v4 h0 hm hz
    refine wp_iload_n dX4_collides_12 rfl ?_
    refine wp_aload_n dX4_collides_13 rfl ?_
    refine wp_getR hN.r11p dX4_collides_14 fX4_21 hN.s11 ?_
    refine wp_callV (as := []) (ls0 := [_]) (kc := 0) (ks := 0) (bc' := 0) (bs' := 0) dX4_collides_17 vX4_40 hl.1 rfl rfl (Nat.le_of_ble_eq_true rfl) (Nat.le_of_ble_eq_true rfl) (by omega) (by omega) ?_
    refine n_pairs (hN.pl hl) ?_
    refine wp_icmp_ge (tgt := 76) dX4_collides_20 rfl (fun h20 => ?_) (fun h20 => by exfalso; omega)
    refine wp_iconst dX4_collides_76 ?_
    refine wp_zreturn dX4_collides_77 rfl (Or.inl rfl) ?_
    exact kf (fun ⟨i, y, h1, h2, h3, h4⟩ => h4 (hz y i h2.1 (by omega) h3 h1.1 h1.2))
  | succ m ih =>
    intro a v4 h0 hm hz
    by_cases e : a = p
    · skip
      refine wp_iload_n dX4_collides_12 rfl ?_
      refine wp_aload_n dX4_collides_13 rfl ?_
      refine wp_getR hN.r11p dX4_collides_14 fX4_21 hN.s11 ?_
      refine wp_callV (as := []) (ls0 := [_]) (kc := 0) (ks := 0) (bc' := 0) (bs' := 0) dX4_collides_17 vX4_40 hl.1 rfl rfl (Nat.le_of_ble_eq_true rfl) (Nat.le_of_ble_eq_true rfl) (by omega) (by omega) ?_
      refine n_pairs (hN.pl hl) ?_
      refine wp_icmp_ge (tgt := 76) dX4_collides_20 rfl (fun h20 => by exfalso; omega) (fun h20 => ?_)
      refine wp_iconst dX4_collides_23 ?_
      refine wp_istore (ls' := [_, _, _, _, _]) dX4_collides_24 (by decide) rfl rfl ?_
      refine wp_iload_n dX4_collides_26 rfl ?_
      refine wp_iload_n dX4_collides_27 rfl ?_
      refine wp_icmp_eq (tgt := 70) dX4_collides_28 rfl (fun h28 => ?_) (fun h28 => by exfalso; omega)
      refine wp_iinc (ls' := [_, _, _, _, _]) dX4_collides_70 (by decide) rfl rfl ⟨by omega, by omega⟩ rfl ?_
      refine wp_goto (tgt := 12) dX4_collides_73 rfl ?_
      exact ih _ _ (by omega) (by omega) (fun y i x1 x2 x3 x4 x5 => hz y i x1 (by omega) x3 x4 x5)
    · skip
      refine wp_iload_n dX4_collides_12 rfl ?_
      refine wp_aload_n dX4_collides_13 rfl ?_
      refine wp_getR hN.r11p dX4_collides_14 fX4_21 hN.s11 ?_
      refine wp_callV (as := []) (ls0 := [_]) (kc := 0) (ks := 0) (bc' := 0) (bs' := 0) dX4_collides_17 vX4_40 hl.1 rfl rfl (Nat.le_of_ble_eq_true rfl) (Nat.le_of_ble_eq_true rfl) (by omega) (by omega) ?_
      refine n_pairs (hN.pl hl) ?_
      refine wp_icmp_ge (tgt := 76) dX4_collides_20 rfl (fun h20 => by exfalso; omega) (fun h20 => ?_)
      refine wp_iconst dX4_collides_23 ?_
      refine wp_istore (ls' := [_, _, _, _, _]) dX4_collides_24 (by decide) rfl rfl ?_
      refine l_coll1 hN hl hP hp hpF (a := a) (by omega) e hR hB kt (fun v4 hno => ?_) (N (61 * p + 18)).toNat _ (by omega) (by omega) (fun z x y => by omega)
      refine wp_iinc (ls' := [_, _, _, _, _]) dX4_collides_70 (by decide) rfl rfl ⟨by omega, by omega⟩ rfl ?_
      refine wp_goto (tgt := 12) dX4_collides_73 rfl ?_
      exact ih _ _ (by omega) (by omega) (fun y i x1 x2 x3 x4 x5 => by
        by_cases e2 : y = a
        · rw [e2]; exact hno i x4 x5
        · exact hz y i x1 (by omega) x3 x4 x5)
theorem x_collides (hN : NtA sh rv iv b) (hl : PlA sh rv iv E F) (hP : Prm E F) (hp : 0 ≤ p ∧ p < 6) (hpF : p < F 13) (hR : Rel w N) (hB : Bok (E 5 0) (E 5 1) N) (kt : Clp F N p → R (some (aI 1)) sh (uA (CD iv b D O T S K C) (12 + 42 * b) w) lw rv) (kf : ¬ (Clp F N p) → R (some (aI 0)) sh (uA (CD iv b D O T S K C) (12 + 42 * b) w) lw rv) : wp (d + 2) mX4_collides 0 [some (aR (11 + 42 * b)), some (aI p), none, none, none] [] sh (uA (CD iv b D O T S K C) (12 + 42 * b) w) lw rv 0 0 R := by
  obtain ⟨hW1, hW2, hO1, hO2, hT1, hT2, hI1, hI2, hF1, hF2⟩ := id hP
  refine wp_aload_n dX4_collides_0 rfl ?_
  refine wp_getR hN.r11l dX4_collides_1 fX4_17 hN.s11 ?_
  refine wp_iload_n dX4_collides_4 rfl ?_
  refine wp_aaldL dX4_collides_5 hN.s13 (by omega) (by omega) (hN.r13 hp) ?_
  refine wp_getR (hN.rls hp) dX4_collides_6 fX4_65 (hN.sl hp) ?_
  refine wp_astore_n (ls' := [_, _, _, _, _]) dX4_collides_9 (by decide) rfl rfl ?_
  refine wp_iconst dX4_collides_10 ?_
  refine wp_istore_n (ls' := [_, _, _, _, _]) dX4_collides_11 (by decide) rfl rfl ?_
  exact l_coll2 hN hl hP hp hpF hR hB kt kf (F 13).toNat _ _ (by omega) (by omega) (fun y i x1 x2 => by omega)
def Mkd (F N : Int → Int) (z p : Int) : Prop := (z = 0 ∧ Clp F N p) ∨ (z = 1 ∧ N (61 * p + 28) = 1) ∨ (z = 2 ∧ N (61 * p + 29) = 1) ∨ (z = 3 ∧ N (61 * p + 43) = 1) ∨ (z = 4 ∧ ¬ Agr N p)
theorem x_isMarked {z : Int} (hz : 0 ≤ z ∧ z ≤ 4) (hN : NtA sh rv iv b) (hl : PlA sh rv iv E F) (hP : Prm E F) (hp : 0 ≤ p ∧ p < 6) (hpF : p < F 13) (hR : Rel w N) (hB : Bok (E 5 0) (E 5 1) N) (hrr : ∀ a : Int, 0 ≤ a → a < F 13 → RR N a) (kt : Mkd F N z p → R (some (aI 1)) sh (uA (CD iv b D O T S K C) (12 + 42 * b) w) lw rv) (kf : ¬ (Mkd F N z p) → R (some (aI 0)) sh (uA (CD iv b D O T S K C) (12 + 42 * b) w) lw rv) : wp (d + 3) mX4_isMarked 0 [some (aR (11 + 42 * b)), some (aI p), some (aI z)] [] sh (uA (CD iv b D O T S K C) (12 + 42 * b) w) lw rv 0 0 R := by
  obtain ⟨hW1, hW2, hO1, hO2, hT1, hT2, hI1, hI2, hF1, hF2⟩ := id hP
  refine wp_iload_n dX4_isMarked_0 rfl ?_
  rcases (by omega : z = 0 ∨ z = 1 ∨ z = 2 ∨ z = 3 ∨ (z < 0 ∨ 3 < z)) with h1 | h1 | h1 | h1 | h1
  · refine wp_tswIn (tgt := 32) dX4_isMarked_1 (by omega) (by omega) (by rw [h1]; rfl) rfl ?_
    refine wp_aload_n dX4_isMarked_32 rfl ?_
    refine wp_iload_n dX4_isMarked_33 rfl ?_
    refine wp_callV (as := [_]) (ls0 := [_, _, _, _, _]) (kc := 0) (ks := 0) (bc' := 0) (bs' := 0) dX4_isMarked_34 vX4_104 hN.s11 rfl rfl (Nat.le_of_ble_eq_true rfl) (Nat.le_of_ble_eq_true rfl) (by omega) (by omega) ?_
    refine x_collides hN hl hP hp hpF hR hB (fun h34 => ?_) (fun h34 => ?_)
    · refine wp_zreturn dX4_isMarked_37 rfl (Or.inr rfl) ?_
      exact kt (Or.inl ⟨h1, h34⟩)
    · refine wp_zreturn dX4_isMarked_37 rfl (Or.inl rfl) ?_
      exact kf (fun y => by unfold Mkd at y; rcases y with y | y | y | y | y; exact h34 y.2; all_goals omega)
  · refine wp_tswIn (tgt := 38) dX4_isMarked_1 (by omega) (by omega) (by rw [h1]; rfl) rfl ?_
    refine wp_aload_n dX4_isMarked_38 rfl ?_
    refine wp_getR hN.r11l dX4_isMarked_39 fX4_17 hN.s11 ?_
    refine wp_iload_n dX4_isMarked_42 rfl ?_
    refine wp_aaldL dX4_isMarked_43 hN.s13 (by omega) (by omega) (hN.r13 hp) ?_
    refine wp_getR (hN.rls hp) dX4_isMarked_44 fX4_65 (hN.sl hp) ?_
    refine wp_callV (as := []) (ls0 := [_]) (kc := 0) (ks := 0) (bc' := 0) (bs' := 0) dX4_isMarked_47 vX4_108 (hN.ss hp) rfl rfl (Nat.le_of_ble_eq_true rfl) (Nat.le_of_ble_eq_true rfl) (by omega) (by omega) ?_
    refine c_isWaiting (hN.lk hp).sS hR (fun h47 => ?_) (fun h47 => ?_)
    all_goals rw [show (28 : Int) + 0 = 28 from rfl] at h47
    · refine wp_zreturn dX4_isMarked_50 rfl (Or.inr rfl) ?_
      exact kt (Or.inr (Or.inl ⟨h1, h47⟩))
    · refine wp_zreturn dX4_isMarked_50 rfl (Or.inl rfl) ?_
      exact kf (fun y => by unfold Mkd at y; rcases y with y | y | y | y | y <;> omega)
  · refine wp_tswIn (tgt := 51) dX4_isMarked_1 (by omega) (by omega) (by rw [h1]; rfl) rfl ?_
    refine wp_aload_n dX4_isMarked_51 rfl ?_
    refine wp_getR hN.r11l dX4_isMarked_52 fX4_17 hN.s11 ?_
    refine wp_iload_n dX4_isMarked_55 rfl ?_
    refine wp_aaldL dX4_isMarked_56 hN.s13 (by omega) (by omega) (hN.r13 hp) ?_
    refine wp_getR (hN.rlr hp) dX4_isMarked_57 fX4_74 (hN.sl hp) ?_
    refine wp_callV (as := []) (ls0 := [_]) (kc := 0) (ks := 0) (bc' := 0) (bs' := 0) dX4_isMarked_60 vX4_108 (hN.sr hp) rfl rfl (Nat.le_of_ble_eq_true rfl) (Nat.le_of_ble_eq_true rfl) (by omega) (by omega) ?_
    refine c_isWaiting (hN.lk hp).sR hR (fun h60 => ?_) (fun h60 => ?_)
    all_goals rw [show (28 : Int) + 1 = 29 from rfl] at h60
    · refine wp_zreturn dX4_isMarked_63 rfl (Or.inr rfl) ?_
      exact kt (Or.inr (Or.inr (Or.inl ⟨h1, h60⟩)))
    · refine wp_zreturn dX4_isMarked_63 rfl (Or.inl rfl) ?_
      exact kf (fun y => by unfold Mkd at y; rcases y with y | y | y | y | y <;> omega)
  · refine wp_tswIn (tgt := 64) dX4_isMarked_1 (by omega) (by omega) (by rw [h1]; rfl) rfl ?_
    refine wp_aload_n dX4_isMarked_64 rfl ?_
    refine wp_getR hN.r11l dX4_isMarked_65 fX4_17 hN.s11 ?_
    refine wp_iload_n dX4_isMarked_68 rfl ?_
    refine wp_aaldL dX4_isMarked_69 hN.s13 (by omega) (by omega) (hN.r13 hp) ?_
    refine wp_getR (hN.rlm hp) dX4_isMarked_70 fX4_52 (hN.sl hp) ?_
    refine wp_callV (as := []) (ls0 := [_]) (kc := 0) (ks := 0) (bc' := 0) (bs' := 0) dX4_isMarked_73 vX4_87 (hN.sm hp) rfl rfl (Nat.le_of_ble_eq_true rfl) (Nat.le_of_ble_eq_true rfl) (by omega) (by omega) ?_
    refine t_isUnderWay (hN.lk hp).sM hR (fun h73 => ?_) (fun h73 => ?_)
    · refine wp_zreturn dX4_isMarked_76 rfl (Or.inr rfl) ?_
      exact kt (Or.inr (Or.inr (Or.inr (Or.inl ⟨h1, h73⟩))))
    · refine wp_zreturn dX4_isMarked_76 rfl (Or.inl rfl) ?_
      exact kf (fun y => by unfold Mkd at y; rcases y with y | y | y | y | y <;> omega)
  · refine wp_tswOut (tgt := 77) dX4_isMarked_1 (by omega) rfl ?_
    refine wp_aload_n dX4_isMarked_77 rfl ?_
    refine wp_getR hN.r11l dX4_isMarked_78 fX4_17 hN.s11 ?_
    refine wp_iload_n dX4_isMarked_81 rfl ?_
    refine wp_aaldL dX4_isMarked_82 hN.s13 (by omega) (by omega) (hN.r13 hp) ?_
    refine wp_callV (as := []) (ls0 := [_]) (kc := 0) (ks := 0) (bc' := 0) (bs' := 0) dX4_isMarked_83 vX4_61 (hN.sl hp) rfl rfl (Nat.le_of_ble_eq_true rfl) (Nat.le_of_ble_eq_true rfl) (by omega) (by omega) ?_
    refine k_agrees (hN.lk hp) hR hB (hrr p (by omega) (by omega)) (fun h83 => ?_) (fun h83 => ?_)
    · refine wp_if_ne (tgt := 93) dX4_isMarked_86 rfl (fun _ => ?_) (fun q => absurd q (by decide))
      refine wp_iconst dX4_isMarked_93 ?_
      refine wp_zreturn dX4_isMarked_94 rfl (Or.inl rfl) ?_
      exact kf (fun y => by unfold Mkd at y; rcases y with y | y | y | y | y; omega; omega; omega; omega; exact y.2 h83)
    · refine wp_if_ne (tgt := 93) dX4_isMarked_86 rfl (fun q => absurd q (by decide)) (fun _ => ?_)
      refine wp_iconst dX4_isMarked_89 ?_
      refine wp_goto (tgt := 94) dX4_isMarked_90 rfl ?_
      refine wp_zreturn dX4_isMarked_94 rfl (Or.inr rfl) ?_
      exact kt (Or.inr (Or.inr (Or.inr (Or.inr ⟨by omega, h83⟩))))
theorem l_pairBits {z : Int} (hz : 0 ≤ z ∧ z ≤ 4) (hN : NtA sh rv iv b) (hl : PlA sh rv iv E F) (hP : Prm E F) (hR : Rel w N) (hB : Bok (E 5 0) (E 5 1) N) (hrr : ∀ a : Int, 0 ≤ a → a < F 13 → RR N a) (k : ∀ x, Bts x (Blw (Mkd F N z) (F 13)) → R (some (aI x)) sh (uA (CD iv b D O T S K C) (12 + 42 * b) w) lw rv) (m : Nat) : ∀ p x : Int, 0 ≤ p → p + m = F 13 → Bts x (Blw (Mkd F N z) p) → wp (d + 4) mX4_pairBits 4 [some (aR (11 + 42 * b)), some (aI z), some (aI x), some (aI p)] [] sh (uA (CD iv b D O T S K C) (12 + 42 * b) w) lw rv 0 0 R := by
  obtain ⟨hW1, hW2, hO1, hO2, hT1, hT2, hI1, hI2, hF1, hF2⟩ := id hP
  induction m with
  | zero =>
    intro p x h0 hm hx
    refine wp_iload_n dX4_pairBits_4 rfl ?_
    refine wp_aload_n dX4_pairBits_5 rfl ?_
    refine wp_getR hN.r11p dX4_pairBits_6 fX4_21 hN.s11 ?_
    refine wp_callV (as := []) (ls0 := [_]) (kc := 0) (ks := 0) (bc' := 0) (bs' := 0) dX4_pairBits_9 vX4_40 hl.1 rfl rfl (Nat.le_of_ble_eq_true rfl) (Nat.le_of_ble_eq_true rfl) (by omega) (by omega) ?_
    refine n_pairs (hN.pl hl) ?_
    refine wp_icmp_ge (tgt := 36) dX4_pairBits_12 rfl (fun h12 => ?_) (fun h12 => by exfalso; omega)
    refine wp_iload_n dX4_pairBits_36 rfl ?_
    refine wp_ireturn dX4_pairBits_37 rfl ?_
    exact k _ (by rw [show F 13 = p by omega]; exact hx)
  | succ m ih =>
    intro p x h0 hm hx
    have hp : 0 ≤ p ∧ p < 6 := by omega
    have hx1 := hx.1
    have h2 := p2_r (k := p) (by omega)
    refine wp_iload_n dX4_pairBits_4 rfl ?_
    refine wp_aload_n dX4_pairBits_5 rfl ?_
    refine wp_getR hN.r11p dX4_pairBits_6 fX4_21 hN.s11 ?_
    refine wp_callV (as := []) (ls0 := [_]) (kc := 0) (ks := 0) (bc' := 0) (bs' := 0) dX4_pairBits_9 vX4_40 hl.1 rfl rfl (Nat.le_of_ble_eq_true rfl) (Nat.le_of_ble_eq_true rfl) (by omega) (by omega) ?_
    refine n_pairs (hN.pl hl) ?_
    refine wp_icmp_ge (tgt := 36) dX4_pairBits_12 rfl (fun h12 => by exfalso; omega) (fun h12 => ?_)
    refine wp_aload_n dX4_pairBits_15 rfl ?_
    refine wp_iload_n dX4_pairBits_16 rfl ?_
    refine wp_iload_n dX4_pairBits_17 rfl ?_
    refine wp_callV (as := [_, _]) (ls0 := [_, _, _]) (kc := 0) (ks := 0) (bc' := 0) (bs' := 0) dX4_pairBits_18 vX4_100 hN.s11 rfl rfl (Nat.le_of_ble_eq_true rfl) (Nat.le_of_ble_eq_true rfl) (by omega) (by omega) ?_
    refine x_isMarked hz hN hl hP hp (by omega) hR hB hrr (fun h18 => ?_) (fun h18 => ?_)
    · refine wp_if_eq (tgt := 30) dX4_pairBits_21 rfl (fun q => absurd q (by decide)) (fun _ => ?_)
      refine wp_iload_n dX4_pairBits_24 rfl ?_
      refine wp_iconst dX4_pairBits_25 ?_
      refine wp_iload_n dX4_pairBits_26 rfl ?_
      refine wp_ishl dX4_pairBits_27 (by omega) (by omega) (by exact ⟨by omega, by omega⟩) ?_
      refine wp_ior dX4_pairBits_28 (by omega) (by omega) ?_
      refine wp_istore_n (ls' := [_, _, _, _]) dX4_pairBits_29 (by decide) rfl rfl ?_
      refine wp_iinc (ls' := [_, _, _, _]) dX4_pairBits_30 (by decide) rfl rfl ⟨by omega, by omega⟩ rfl ?_
      refine wp_goto (tgt := 4) dX4_pairBits_33 rfl ?_
      exact ih _ _ (by omega) (by omega) (by first | exact hx.bt (by omega) h18 | exact hx.bf h18)
    · refine wp_if_eq (tgt := 30) dX4_pairBits_21 rfl (fun _ => ?_) (fun q => absurd q (by decide))
      refine wp_iinc (ls' := [_, _, _, _]) dX4_pairBits_30 (by decide) rfl rfl ⟨by omega, by omega⟩ rfl ?_
      refine wp_goto (tgt := 4) dX4_pairBits_33 rfl ?_
      exact ih _ _ (by omega) (by omega) (by first | exact hx.bt (by omega) h18 | exact hx.bf h18)
theorem x_pairBits {z : Int} (hz : 0 ≤ z ∧ z ≤ 4) (hN : NtA sh rv iv b) (hl : PlA sh rv iv E F) (hP : Prm E F) (hR : Rel w N) (hB : Bok (E 5 0) (E 5 1) N) (hrr : ∀ a : Int, 0 ≤ a → a < F 13 → RR N a) (k : ∀ x, Bts x (Blw (Mkd F N z) (F 13)) → R (some (aI x)) sh (uA (CD iv b D O T S K C) (12 + 42 * b) w) lw rv) : wp (d + 4) mX4_pairBits 0 [some (aR (11 + 42 * b)), some (aI z), none, none] [] sh (uA (CD iv b D O T S K C) (12 + 42 * b) w) lw rv 0 0 R := by
  obtain ⟨hW1, hW2, hO1, hO2, hT1, hT2, hI1, hI2, hF1, hF2⟩ := id hP
  refine wp_iconst dX4_pairBits_0 ?_
  refine wp_istore_n (ls' := [_, _, _, _]) dX4_pairBits_1 (by decide) rfl rfl ?_
  refine wp_iconst dX4_pairBits_2 ?_
  refine wp_istore_n (ls' := [_, _, _, _]) dX4_pairBits_3 (by decide) rfl rfl ?_
  exact l_pairBits hz hN hl hP hR hB hrr k (F 13).toNat _ _ (by omega) (by omega) Bts.b0
theorem f_cameOf (hN : NtA sh rv iv b) (hp : 0 ≤ p ∧ p < 6) (k : R (some (aI (C p))) sh (uA (CD iv b D O T S K C) (12 + 42 * b) w) lw rv) : wp (d) mX0_cameOf 0 [some (aR (41 + 39 * b)), some (aI p)] [] sh (uA (CD iv b D O T S K C) (12 + 42 * b) w) lw rv 0 0 R := by
  refine wp_iload_n dX0_cameOf_0 rfl ?_
  refine wp_if_lt (tgt := 19) dX0_cameOf_1 rfl (fun h1 => by exfalso; omega) (fun h1 => ?_)
  refine wp_iload_n dX0_cameOf_4 rfl ?_
  refine wp_bipush dX0_cameOf_5 ?_
  refine wp_icmp_ge (tgt := 19) dX0_cameOf_7 rfl (fun h7 => by exfalso; omega) (fun h7 => ?_)
  refine wp_aload_n dX0_cameOf_10 rfl ?_
  refine wp_getR hN.r41c dX0_cameOf_11 fX0_18 hN.s41 ?_
  refine wp_iload_n dX0_cameOf_14 rfl ?_
  refine wp_iald dX0_cameOf_15 hN.s44 (by omega) (by omega) ?_
  rw [CS44 hN.hb]
  refine wp_goto (tgt := 20) dX0_cameOf_16 rfl ?_
  refine wp_ireturn dX0_cameOf_20 rfl ?_
  exact k
def smC (C : Int → Int) : Nat → Int
  | 0 => 0
  | m + 1 => smC C m + C m
theorem smC_r {f : Int → Int} (m : Nat) (h : ∀ a : Int, 0 ≤ a → a < m → 0 ≤ f a ∧ f a ≤ 6) : 0 ≤ smC f m ∧ smC f m ≤ 6 * m := by
  induction m with
  | zero => exact ⟨Int.le_refl _, Int.le_refl _⟩
  | succ m ih => have h1 := ih (fun a x y => h a x (by omega)); have h2 := h m (by omega) (by omega); rw [smC]; omega
theorem smC_c {f g : Int → Int} (m : Nat) (h : ∀ a : Int, 0 ≤ a → a < m → f a = g a) : smC f m = smC g m := by
  induction m with
  | zero => rfl
  | succ m ih => rw [smC, smC, ih (fun a x y => h a x (by omega)), h m (by omega) (by omega)]
theorem gtA_sm {N1 : Int → Int} (n : Nat) : ∀ a : Nat, smC (gtn E F N1) a + gtA E F N1 n a = smC (gtn E F N1) (a + n) := by
  induction n with
  | zero => intro a; rw [gtA]; simp
  | succ n ih => intro a; have := ih (a + 1); rw [smC] at this; rw [gtA, show a + (n + 1) = a + 1 + n by omega, ← this, show ((a : Int) + 1) = ((a + 1 : Nat) : Int) by omega]; omega
theorem l_cameAll (hN : NtA sh rv iv b) (hl : PlA sh rv iv E F) (hP : Prm E F) (hC : ∀ a : Int, 0 ≤ a → a < F 13 → 0 ≤ C a ∧ C a ≤ 6) (k : R (some (aI (smC C (F 13).toNat))) sh (uA (CD iv b D O T S K C) (12 + 42 * b) w) lw rv) (m : Nat) : ∀ p x : Int, 0 ≤ p → p + m = F 13 → x = smC C p.toNat → wp (d + 1) mX0_cameInAll 4 [some (aR (41 + 39 * b)), some (aI x), some (aI p)] [] sh (uA (CD iv b D O T S K C) (12 + 42 * b) w) lw rv 0 0 R := by
  obtain ⟨hW1, hW2, hO1, hO2, hT1, hT2, hI1, hI2, hF1, hF2⟩ := id hP
  induction m with
  | zero =>
    intro p x h0 hm hx
    refine wp_iload_n dX0_cameInAll_4 rfl ?_
    refine wp_aload_n dX0_cameInAll_5 rfl ?_
    refine wp_getR hN.r41p dX0_cameInAll_6 fX0_31 hN.s41 ?_
    refine wp_callV (as := []) (ls0 := [_]) (kc := 0) (ks := 0) (bc' := 0) (bs' := 0) dX0_cameInAll_9 vX0_36 hl.1 rfl rfl (Nat.le_of_ble_eq_true rfl) (Nat.le_of_ble_eq_true rfl) (by omega) (by omega) ?_
    refine n_pairs (hN.pl hl) ?_
    refine wp_icmp_ge (tgt := 30) dX0_cameInAll_12 rfl (fun h12 => ?_) (fun h12 => by exfalso; omega)
    refine wp_iload_n dX0_cameInAll_30 rfl ?_
    refine wp_ireturn dX0_cameInAll_31 rfl ?_
    rw [hx, show p = F 13 by omega]; exact k
  | succ m ih =>
    intro p x h0 hm hx
    have hr := smC_r (f := C) p.toNat (fun a x y => hC a x (by omega))
    have hr2 := hC p h0 (by omega)
    refine wp_iload_n dX0_cameInAll_4 rfl ?_
    refine wp_aload_n dX0_cameInAll_5 rfl ?_
    refine wp_getR hN.r41p dX0_cameInAll_6 fX0_31 hN.s41 ?_
    refine wp_callV (as := []) (ls0 := [_]) (kc := 0) (ks := 0) (bc' := 0) (bs' := 0) dX0_cameInAll_9 vX0_36 hl.1 rfl rfl (Nat.le_of_ble_eq_true rfl) (Nat.le_of_ble_eq_true rfl) (by omega) (by omega) ?_
    refine n_pairs (hN.pl hl) ?_
    refine wp_icmp_ge (tgt := 30) dX0_cameInAll_12 rfl (fun h12 => by exfalso; omega) (fun h12 => ?_)
    refine wp_iload_n dX0_cameInAll_15 rfl ?_
    refine wp_aload_n dX0_cameInAll_16 rfl ?_
    refine wp_getR hN.r41c dX0_cameInAll_17 fX0_18 hN.s41 ?_
    refine wp_iload_n dX0_cameInAll_20 rfl ?_
    refine wp_iald dX0_cameInAll_21 hN.s44 (by omega) (by omega) ?_
    rw [CS44 hN.hb]
    refine wp_iadd dX0_cameInAll_22 ⟨by omega, by omega⟩ ?_
    refine wp_istore_n (ls' := [_, _, _]) dX0_cameInAll_23 (by decide) rfl rfl ?_
    refine wp_iinc (ls' := [_, _, _]) dX0_cameInAll_24 (by decide) rfl rfl ⟨by omega, by omega⟩ rfl ?_
    refine wp_goto (tgt := 4) dX0_cameInAll_27 rfl ?_
    exact ih _ _ (by omega) (by omega) (by rw [toN1 h0, smC, toNI h0, hx])
theorem f_cameAll (hN : NtA sh rv iv b) (hl : PlA sh rv iv E F) (hP : Prm E F) (hC : ∀ a : Int, 0 ≤ a → a < F 13 → 0 ≤ C a ∧ C a ≤ 6) (k : R (some (aI (smC C (F 13).toNat))) sh (uA (CD iv b D O T S K C) (12 + 42 * b) w) lw rv) : wp (d + 1) mX0_cameInAll 0 [some (aR (41 + 39 * b)), none, none] [] sh (uA (CD iv b D O T S K C) (12 + 42 * b) w) lw rv 0 0 R := by
  obtain ⟨hW1, hW2, hO1, hO2, hT1, hT2, hI1, hI2, hF1, hF2⟩ := id hP
  refine wp_iconst dX0_cameInAll_0 ?_
  refine wp_istore_n (ls' := [_, _, _]) dX0_cameInAll_1 (by decide) rfl rfl ?_
  refine wp_iconst dX0_cameInAll_2 ?_
  refine wp_istore_n (ls' := [_, _, _]) dX0_cameInAll_3 (by decide) rfl rfl ?_
  exact l_cameAll hN hl hP hC k (F 13).toNat _ _ (by omega) (by omega) rfl
end C18
