section C11
variable {d b : Nat} {sh : aSh} {iv lw E : aF} {rv : aP} {D O T S K C w N F : Int → Int} {R : aPost} {p : Int}
theorem e_confirm (hN : NtA sh rv iv b) (hl : PlA sh rv iv E F) (hP : Prm E F) (hp : 0 ≤ p ∧ p < 6) (hpF : p < F 13) (hR : Rel w (stoF (up N (61 * p + 43) 0) p 0)) (hB : Bok (E 5 0) (E 5 1) N) (hTl : ∀ j : Int, 0 ≤ j → j < N (61 * p + 48) → T j = N (61 * p + (50 + j))) (hD5 : D 5 = N (61 * p + 48)) (hds : ∀ y z : Int, 0 ≤ y → y < z → z < N (61 * p + 48) → ¬ N (61 * p + (50 + y)) / 10 = N (61 * p + (50 + z)) / 10) (k : ∀ (D' O' w' : Int → Int), Rel w' (if 0 < tkI (E 6) (tld N p) (F 13) p 0 (N (61 * p + 49)) (N (61 * p + 48)).toNat 0 0 (wriF (stoF (up N (61 * p + 43) 0) p 0) p 2 0 (-1) (N (61 * p + 49))) (61 * p + 48) then stpF (tkI (E 6) (tld N p) (F 13) p 0 (N (61 * p + 49)) (N (61 * p + 48)).toNat 0 0 (wriF (stoF (up N (61 * p + 43) 0) p 0) p 2 0 (-1) (N (61 * p + 49)))) p 0 else tkI (E 6) (tld N p) (F 13) p 0 (N (61 * p + 49)) (N (61 * p + 48)).toNat 0 0 (wriF (stoF (up N (61 * p + 43) 0) p 0) p 2 0 (-1) (N (61 * p + 49)))) → R none sh (uA (CD iv b D' O' T S K C) (12 + 42 * b) w') lw rv) : wp (d + 3) mX1_confirmCells 0 [some (aR (38 + 43 * b)), some (aR (lid b p)), none] [] sh (uA (CD iv b D O T S K C) (12 + 42 * b) w) lw rv 0 0 R := by
  obtain ⟨hW1, hW2, hO1, hO2, hT1, hT2, hI1, hI2, hF1, hF2⟩ := id hP
  have hB0 : Bok (E 5 0) (E 5 1) (up N (61 * p + 43) 0) := hB.bup (by omega) (by rw [k43]; omega)
  have hB1 : Bok (E 5 0) (E 5 1) (stoF (up N (61 * p + 43) 0) p 0) := hB0.bstoF (Or.inl rfl)
  have h48 := hB.v48 hp
  have e45 : stoF (up N (61 * p + 43) 0) p 0 (61 * p + 45) = N (61 * p + 45) := by rw [stoF_n (by omega) (Or.inl rfl), up_n (by omega)]
  have e46 : up N (61 * p + 43) 0 (61 * p + 46) = N (61 * p + 46) := by rw [up_n (by omega)]
  have e49 : stoF (up N (61 * p + 43) 0) p 0 (61 * p + 49) = N (61 * p + 49) := by rw [stoF_n (by omega) (Or.inl rfl), up_n (by omega)]
  have hcv : ∀ z : Int, 0 ≤ z → z < D 5 → Vc (E 5 0) (E 5 1) (T z) := fun z z0 z1 => by rw [hTl z z0 (by omega)]; exact cm_48 hB hp z0 (by omega)
  have hcv2 : ∀ j : Int, 0 ≤ j → j < 0 + ((N (61 * p + 48)).toNat : Int) → Vc (E 5 0) (E 5 1) (T j) := fun j j0 j1 => hcv j j0 (by omega)
  have hB2 : Bok (E 5 0) (E 5 1) (wriF (stoF (up N (61 * p + 43) 0) p 0) p 2 0 (-1) (N (61 * p + 49))) := hB1.bwriF hp (by omega) (by omega) (by omega) (hB.v49 hp)
  have f49 : wriF (stoF (up N (61 * p + 43) 0) p 0) p 2 0 (-1) (N (61 * p + 49)) (61 * p + 49) = N (61 * p + 49) := by unfold wriF; rw [up_n (by omega), up_s]
  rw [tkI_c (f := tld N p) (g := T) _ _ _ _ (fun j j0 j1 => (hTl j j0 (by omega)).symm)] at k
  refine wp_aload_n dX1_confirmCells_0 rfl ?_
  refine wp_getR hN.r38n dX1_confirmCells_1 fX1_20 hN.s38 ?_
  refine wp_aload_n dX1_confirmCells_4 rfl ?_
  refine wp_aload_n dX1_confirmCells_5 rfl ?_
  refine wp_callV (as := [_]) (ls0 := [_, _]) (kc := 0) (ks := 0) (bc' := 0) (bs' := 0) dX1_confirmCells_6 vX1_51 hN.s38 rfl rfl (Nat.le_of_ble_eq_true rfl) (Nat.le_of_ble_eq_true rfl) (by omega) (by omega) ?_
  refine e_senderOf hN hl hP hp hpF ?_
  refine wp_callV (as := [_]) (ls0 := [_, _, _, _]) (kc := 0) (ks := 0) (bc' := 0) (bs' := 0) dX1_confirmCells_9 vX1_55 hN.s11 rfl rfl (Nat.le_of_ble_eq_true rfl) (Nat.le_of_ble_eq_true rfl) (by omega) (by omega) ?_
  refine x_takenAt hN hl hP hR hB1 (fun x hx => ?_)
  refine wp_istore_n (ls' := [_, _, _]) dX1_confirmCells_12 (by decide) rfl rfl ?_
  refine wp_aload_n dX1_confirmCells_13 rfl ?_
  refine wp_getR (hN.rlm hp) dX1_confirmCells_14 fX1_72 (hN.sl hp) ?_
  refine wp_iconst dX1_confirmCells_17 ?_
  refine wp_iconst dX1_confirmCells_18 ?_
  refine wp_iconst dX1_confirmCells_19 ?_
  refine wp_iconst dX1_confirmCells_20 ?_
  refine wp_aload_n dX1_confirmCells_21 rfl ?_
  refine wp_getR (hN.rlm hp) dX1_confirmCells_22 fX1_72 (hN.sl hp) ?_
  refine wp_callV (as := []) (ls0 := [_]) (kc := 0) (ks := 0) (bc' := 0) (bs' := 0) dX1_confirmCells_25 vX1_206 (hN.sm hp) rfl rfl (Nat.le_of_ble_eq_true rfl) (Nat.le_of_ble_eq_true rfl) (by omega) (by omega) ?_
  refine t_amount (hN.lk hp).sM hR ?_
  rw [e49]
  refine wp_callV (as := [_, _, _, _, _]) (ls0 := [_, _, _, _, _, _]) (kc := 0) (ks := 0) (bc' := 0) (bs' := 0) dX1_confirmCells_28 vX1_79 (hN.sm hp) rfl rfl (Nat.le_of_ble_eq_true rfl) (Nat.le_of_ble_eq_true rfl) (by omega) (by omega) ?_
  refine t_send (hN.lk hp).sM hR (by rw [if_neg (by decide)]) (fun w hR => ?_)
  refine wp_aload_n dX1_confirmCells_31 rfl ?_
  refine wp_aload_n dX1_confirmCells_32 rfl ?_
  refine wp_getR (hN.rls hp) dX1_confirmCells_33 fX1_63 (hN.sl hp) ?_
  refine wp_aload_n dX1_confirmCells_36 rfl ?_
  refine wp_getR (hN.rlm hp) dX1_confirmCells_37 fX1_72 (hN.sl hp) ?_
  refine wp_iload_n dX1_confirmCells_40 rfl ?_
  refine wp_callV (as := [_, _, _]) (ls0 := [_, _, _, _, _, _]) (kc := 0) (ks := 0) (bc' := 0) (bs' := 0) dX1_confirmCells_41 vX1_218 hN.s38 rfl rfl (Nat.le_of_ble_eq_true rfl) (Nat.le_of_ble_eq_true rfl) (by omega) (by omega) ?_
  refine e_putFreeTold hN hP hp hpF (hN.lk hp).sS hcv (fun y z y0 yz z1 => by rw [hTl y y0 (by omega), hTl z (by omega) (by omega)]; exact hds y z y0 yz (by omega)) hR hB2 (by omega) wriF_48 (hx.cg (fun s _ _ => (Tkn_wri hB1 hF2 hp).symm)) (fun w hR => ?_)
  rw [f49, hD5] at hR
  have hBY := Bok.btkI (pa := E 6) (np := F 13) (most := N (61 * p + 49)) hp (Or.inl rfl : (0 : Int) = 0 ∨ (0 : Int) = 1) (N (61 * p + 48)).toNat 0 0 _ hcv2 (by rw [wriF_48]; omega) hB2
  refine wp_aload_n dX1_confirmCells_44 rfl ?_
  refine wp_getR (hN.rlm hp) dX1_confirmCells_45 fX1_72 (hN.sl hp) ?_
  refine wp_callV (as := []) (ls0 := [_]) (kc := 0) (ks := 0) (bc' := 0) (bs' := 0) dX1_confirmCells_48 vX1_106 (hN.sm hp) rfl rfl (Nat.le_of_ble_eq_true rfl) (Nat.le_of_ble_eq_true rfl) (by omega) (by omega) ?_
  refine t_cells (hN.lk hp).sM hR ?_
  refine wp_if_le (tgt := 61) dX1_confirmCells_51 rfl (fun h51 => ?_) (fun h51 => ?_)
  · refine wp_return dX1_confirmCells_61 rfl ?_
    first | (rw [if_pos (by omega)] at k; exact k D O w hR) | (rw [if_neg (by omega)] at k; exact k D O w hR)
  · refine wp_aload_n dX1_confirmCells_54 rfl ?_
    refine wp_getR (hN.rls hp) dX1_confirmCells_55 fX1_63 (hN.sl hp) ?_
    refine wp_callV (as := []) (ls0 := [_, _]) (kc := 0) (ks := 0) (bc' := 0) (bs' := 0) dX1_confirmCells_58 vX1_173 (hN.ss hp) rfl rfl (Nat.le_of_ble_eq_true rfl) (Nat.le_of_ble_eq_true rfl) (by omega) (by omega) ?_
    refine c_raiseSeq (hN.lk hp).sS hR (hBY.seq hp (Or.inl rfl)) (fun w hR => ?_)
    refine wp_return dX1_confirmCells_61 rfl ?_
    first | (rw [if_pos (by omega)] at k; exact k D O w hR) | (rw [if_neg (by omega)] at k; exact k D O w hR)
theorem l_ansD {v3 : Int} (hN : NtA sh rv iv b) (hp : 0 ≤ p ∧ p < 6) (h5 : D 5 ≤ 4) (m : Nat) : ∀ (j : Int) (w N : Int → Int), 0 ≤ j → j + m = D 5 → Rel w N → Bok (E 5 0) (E 5 1) N → (∀ w', Rel w' (stpF (remA p 0 T m j N) p 0) → R none sh (uA (CD iv b D O T S K C) (12 + 42 * b) w') lw rv) → wp (d + 4) mX1_readAnswer 93 [some (aR (38 + 43 * b)), some (aR (lid b p)), some (aR (sid b p)), some (aI v3), some (aI j)] [] sh (uA (CD iv b D O T S K C) (12 + 42 * b) w) lw rv 0 0 R := by
  induction m with
  | zero =>
    intro j w N h0 hm hR hB k
    refine wp_iload dX1_readAnswer_93 rfl ?_
    refine wp_aload_n dX1_readAnswer_95 rfl ?_
    refine wp_getI dX1_readAnswer_96 fX1_112 hN.s38 ?_
    rw [CS38]
    refine wp_icmp_ge (tgt := 120) dX1_readAnswer_99 rfl (fun h99 => ?_) (fun h99 => by exfalso; omega)
    refine wp_goto (tgt := 162) dX1_readAnswer_120 rfl ?_
    refine wp_aload_n dX1_readAnswer_162 rfl ?_
    refine wp_callV (as := []) (ls0 := [_, _]) (kc := 0) (ks := 0) (bc' := 0) (bs' := 0) dX1_readAnswer_163 vX1_173 (hN.ss hp) rfl rfl (Nat.le_of_ble_eq_true rfl) (Nat.le_of_ble_eq_true rfl) (by omega) (by omega) ?_
    refine c_raiseSeq (hN.lk hp).sS hR (hB.seq hp (Or.inl rfl)) (fun w hR => ?_)
    refine wp_return dX1_readAnswer_166 rfl ?_
    exact k w hR
  | succ m ih =>
    intro j w N h0 hm hR hB k
    refine wp_iload dX1_readAnswer_93 rfl ?_
    refine wp_aload_n dX1_readAnswer_95 rfl ?_
    refine wp_getI dX1_readAnswer_96 fX1_112 hN.s38 ?_
    rw [CS38]
    refine wp_icmp_ge (tgt := 120) dX1_readAnswer_99 rfl (fun h99 => by exfalso; omega) (fun h99 => ?_)
    refine wp_aload_n dX1_readAnswer_102 rfl ?_
    refine wp_aload_n dX1_readAnswer_103 rfl ?_
    refine wp_getR hN.r38t dX1_readAnswer_104 fX1_17 hN.s38 ?_
    refine wp_iload dX1_readAnswer_107 rfl ?_
    refine wp_iald dX1_readAnswer_109 hN.s40 (by omega) (by omega) ?_
    rw [CS40]
    refine wp_callV (as := [_]) (ls0 := [_, _, _, _, _]) (kc := 0) (ks := 0) (bc' := 0) (bs' := 0) dX1_readAnswer_110 vX1_166 (hN.ss hp) rfl rfl (Nat.le_of_ble_eq_true rfl) (Nat.le_of_ble_eq_true rfl) (by omega) (by omega) ?_
    refine c_takeOut (hN.lk hp).sS hR hB (fun h110 w hR => ?_) (fun h110 => ?_)
    · refine wp_pop dX1_readAnswer_113 rfl ?_
      refine wp_iinc (ls' := [_, _, _, _, _]) dX1_readAnswer_114 (by decide) rfl rfl ⟨by omega, by omega⟩ rfl ?_
      refine wp_goto (tgt := 93) dX1_readAnswer_117 rfl ?_
      first
      | (have e : remF N p 0 (T j) = N := by unfold remF; rw [if_pos h110]
         rw [remA, e] at k
         exact ih _ _ _ (by omega) (by omega) hR hB k)
      | exact ih _ _ _ (by omega) (by omega) hR (hB.bremF hp (Or.inl rfl)) k
    · refine wp_pop dX1_readAnswer_113 rfl ?_
      refine wp_iinc (ls' := [_, _, _, _, _]) dX1_readAnswer_114 (by decide) rfl rfl ⟨by omega, by omega⟩ rfl ?_
      refine wp_goto (tgt := 93) dX1_readAnswer_117 rfl ?_
      first
      | (have e : remF N p 0 (T j) = N := by unfold remF; rw [if_pos h110]
         rw [remA, e] at k
         exact ih _ _ _ (by omega) (by omega) hR hB k)
      | exact ih _ _ _ (by omega) (by omega) hR (hB.bremF hp (Or.inl rfl)) k
theorem e_ansOk {v3 : Int} (hN : NtA sh rv iv b) (hl : PlA sh rv iv E F) (hP : Prm E F) (hp : 0 ≤ p ∧ p < 6) (hpF : p < F 13) (hR : Rel w (stoF (up N (61 * p + 43) 0) p 0)) (hB : Bok (E 5 0) (E 5 1) N) (hTl : ∀ j : Int, 0 ≤ j → j < N (61 * p + 48) → T j = N (61 * p + (50 + j))) (hD5 : D 5 = N (61 * p + 48)) (hfr : 0 ≤ N 368 ∧ N 368 ≤ 20000) (hds : N (61 * p + 45) = 0 → ∀ y z : Int, 0 ≤ y → y < z → z < N (61 * p + 48) → ¬ N (61 * p + (50 + y)) / 10 = N (61 * p + (50 + z)) / 10) (h2 : N (61 * p + 45) = 2 → N (61 * p + 48) = 2) (k : ∀ (D' O' w' : Int → Int), Rel w' (okF E F (stoF (up N (61 * p + 43) 0) p 0) (tld N p) p (N (61 * p + 45)) (N (61 * p + 49)) (N (61 * p + 48))) → R none sh (uA (CD iv b D' O' T S K C) (12 + 42 * b) w') lw rv) : wp (d + 4) mX1_readAnswer 35 [some (aR (38 + 43 * b)), some (aR (lid b p)), some (aR (sid b p)), some (aI v3), none] [] sh (uA (CD iv b D O T S K C) (12 + 42 * b) w) lw rv 0 0 R := by
  obtain ⟨hW1, hW2, hO1, hO2, hT1, hT2, hI1, hI2, hF1, hF2⟩ := id hP
  have hB0 : Bok (E 5 0) (E 5 1) (up N (61 * p + 43) 0) := hB.bup (by omega) (by rw [k43]; omega)
  have hB1 : Bok (E 5 0) (E 5 1) (stoF (up N (61 * p + 43) 0) p 0) := hB0.bstoF (Or.inl rfl)
  have h48 := hB.v48 hp
  have e45 : stoF (up N (61 * p + 43) 0) p 0 (61 * p + 45) = N (61 * p + 45) := by rw [stoF_n (by omega) (Or.inl rfl), up_n (by omega)]
  have e46 : up N (61 * p + 43) 0 (61 * p + 46) = N (61 * p + 46) := by rw [up_n (by omega)]
  have e49 : stoF (up N (61 * p + 43) 0) p 0 (61 * p + 49) = N (61 * p + 49) := by rw [stoF_n (by omega) (Or.inl rfl), up_n (by omega)]
  have hcv : ∀ z : Int, 0 ≤ z → z < D 5 → Vc (E 5 0) (E 5 1) (T z) := fun z z0 z1 => by rw [hTl z z0 (by omega)]; exact cm_48 hB hp z0 (by omega)
  have hcv2 : ∀ j : Int, 0 ≤ j → j < 0 + ((N (61 * p + 48)).toNat : Int) → Vc (E 5 0) (E 5 1) (T j) := fun j j0 j1 => hcv j j0 (by omega)
  have h45 := hB.v45 hp
  unfold okF at k
  refine wp_aload_n dX1_readAnswer_35 rfl ?_
  refine wp_getR (hN.rlm hp) dX1_readAnswer_36 fX1_72 (hN.sl hp) ?_
  refine wp_callV (as := []) (ls0 := [_]) (kc := 0) (ks := 0) (bc' := 0) (bs' := 0) dX1_readAnswer_39 vX1_128 (hN.sm hp) rfl rfl (Nat.le_of_ble_eq_true rfl) (Nat.le_of_ble_eq_true rfl) (by omega) (by omega) ?_
  refine t_kind (hN.lk hp).sM hR ?_
  rw [e45]
  rcases (by omega : (N (61 * p + 45)) = 0 ∨ (N (61 * p + 45)) = 1 ∨ (N (61 * p + 45)) = 2 ∨ ((N (61 * p + 45)) < 0 ∨ 2 < (N (61 * p + 45)))) with h42 | h42 | h42 | h42
  · refine wp_tswIn (tgt := 68) dX1_readAnswer_42 (by omega) (by omega) (by rw [h42]; rfl) rfl ?_
    refine wp_aload_n dX1_readAnswer_68 rfl ?_
    refine wp_aload_n dX1_readAnswer_69 rfl ?_
    refine wp_callV (as := [_]) (ls0 := [_, _]) (kc := 0) (ks := 0) (bc' := 0) (bs' := 0) dX1_readAnswer_70 vX1_59 hN.s38 rfl rfl (Nat.le_of_ble_eq_true rfl) (Nat.le_of_ble_eq_true rfl) (by omega) (by omega) ?_
    refine e_isTwoSteps hN hl hP hp hpF (fun h70 => ?_) (fun h70 => ?_)
    · refine wp_if_ne (tgt := 82) dX1_readAnswer_73 rfl (fun _ => ?_) (fun q => absurd q (by decide))
      refine wp_aload_n dX1_readAnswer_82 rfl ?_
      refine wp_aload_n dX1_readAnswer_83 rfl ?_
      refine wp_callV (as := [_]) (ls0 := [_, _, _]) (kc := 0) (ks := 0) (bc' := 0) (bs' := 0) dX1_readAnswer_84 vX1_162 hN.s38 rfl rfl (Nat.le_of_ble_eq_true rfl) (Nat.le_of_ble_eq_true rfl) (by omega) (by omega) ?_
      refine e_putAllTold hN hP hp (hN.lk hp).sS hcv hR hB1 (by omega) (fun w hR => ?_)
      rw [hD5, insA_c (g := tld N p) _ _ _ (fun j j0 j1 => hTl j j0 (by omega))] at hR
      have hBY : Bok (E 5 0) (E 5 1) (insA p 0 (tld N p) (N (61 * p + 48)).toNat 0 (stoF (up N (61 * p + 43) 0) p 0)) := Bok.binsA hp (Or.inl rfl) _ _ _ (fun j j0 j1 => by rw [show tld N p j = T j from (hTl j j0 (by omega)).symm]; exact hcv2 j j0 j1) hB1
      refine wp_goto (tgt := 162) dX1_readAnswer_87 rfl ?_
      refine wp_aload_n dX1_readAnswer_162 rfl ?_
      refine wp_callV (as := []) (ls0 := [_, _]) (kc := 0) (ks := 0) (bc' := 0) (bs' := 0) dX1_readAnswer_163 vX1_173 (hN.ss hp) rfl rfl (Nat.le_of_ble_eq_true rfl) (Nat.le_of_ble_eq_true rfl) (by omega) (by omega) ?_
      first | refine c_raiseSeq (hN.lk hp).sS hR (hBY.seq hp (Or.inl rfl)) (fun w hR => ?_) | refine c_raiseSeq (hN.lk hp).sS hR (hB1.seq hp (Or.inl rfl)) (fun w hR => ?_)
      refine wp_return dX1_readAnswer_166 rfl ?_
      first
      | (rw [if_neg (fun z => z.2 h70), if_neg (by omega), if_pos h42] at k; exact k D O w hR)
      | (rw [if_neg (by omega), if_neg (by omega), if_neg (by omega), if_pos h42, ← hT0, ← hT1_] at k
         first
         | (rw [if_pos h138] at k; exact k D O w hR)
         | (rw [if_neg h138] at k; exact k D O w hR))
    · refine wp_if_ne (tgt := 82) dX1_readAnswer_73 rfl (fun q => absurd q (by decide)) (fun _ => ?_)
      refine wp_aload_n dX1_readAnswer_76 rfl ?_
      refine wp_aload_n dX1_readAnswer_77 rfl ?_
      refine wp_callV (as := [_]) (ls0 := [_, _, _]) (kc := 0) (ks := 0) (bc' := 0) (bs' := 0) dX1_readAnswer_78 vX1_159 hN.s38 rfl rfl (Nat.le_of_ble_eq_true rfl) (Nat.le_of_ble_eq_true rfl) (by omega) (by omega) ?_
      refine e_confirm hN hl hP hp hpF hR hB hTl hD5 (hds h42) (fun D' O' w' hR => ?_)
      refine wp_return dX1_readAnswer_81 rfl ?_
      rw [if_pos ⟨h42, h70⟩] at k
      exact k D' O' w' hR
  · refine wp_tswIn (tgt := 90) dX1_readAnswer_42 (by omega) (by omega) (by rw [h42]; rfl) rfl ?_
    refine wp_iconst dX1_readAnswer_90 ?_
    refine wp_istore (ls' := [_, _, _, _, _]) dX1_readAnswer_91 (by decide) rfl rfl ?_
    refine l_ansD (E := E) (D := D) hN hp (by omega) (N (61 * p + 48)).toNat 0 _ _ (by omega) (by omega) hR hB1 (fun w hR => ?_)
    rw [if_neg (by omega), if_neg (by omega), if_neg (by omega), if_neg (by omega), remA_c (f := tld N p) (g := T) _ _ _ (fun j j0 j1 => (hTl j j0 (by omega)).symm)] at k
    exact k D O w hR
  · refine wp_tswIn (tgt := 123) dX1_readAnswer_42 (by omega) (by omega) (by rw [h42]; rfl) rfl ?_
    have h248 := h2 h42
    have hT0 : T 0 = tld N p 0 := hTl 0 (by omega) (by omega)
    have hT1_ : T 1 = tld N p 1 := hTl 1 (by omega) (by omega)
    refine wp_aload_n dX1_readAnswer_123 rfl ?_
    refine wp_getI dX1_readAnswer_124 fX1_112 hN.s38 ?_
    rw [CS38]
    refine wp_iconst dX1_readAnswer_127 ?_
    refine wp_icmp_le (tgt := 162) dX1_readAnswer_128 rfl (fun h128 => ?_) (fun h128 => ?_)
    · exfalso; omega
    · refine wp_aload_n dX1_readAnswer_131 rfl ?_
      refine wp_aload_n dX1_readAnswer_132 rfl ?_
      refine wp_getR hN.r38t dX1_readAnswer_133 fX1_17 hN.s38 ?_
      refine wp_iconst dX1_readAnswer_136 ?_
      refine wp_iald dX1_readAnswer_137 hN.s40 (by omega) (by omega) ?_
      rw [CS40]
      refine wp_callV (as := [_]) (ls0 := [_, _, _, _, _]) (kc := 0) (ks := 0) (bc' := 0) (bs' := 0) dX1_readAnswer_138 vX1_166 (hN.ss hp) rfl rfl (Nat.le_of_ble_eq_true rfl) (Nat.le_of_ble_eq_true rfl) (by omega) (by omega) ?_
      refine c_takeOut (hN.lk hp).sS hR hB1 (fun h138 w hR => ?_) (fun h138 => ?_)
      · refine wp_if_eq (tgt := 162) dX1_readAnswer_141 rfl (fun q => absurd q (by decide)) (fun _ => ?_)
        refine wp_aload_n dX1_readAnswer_144 rfl ?_
        refine wp_aload_n dX1_readAnswer_145 rfl ?_
        refine wp_getR hN.r38t dX1_readAnswer_146 fX1_17 hN.s38 ?_
        refine wp_iconst dX1_readAnswer_149 ?_
        refine wp_iald dX1_readAnswer_150 hN.s40 (by omega) (by omega) ?_
        rw [CS40]
        refine wp_callV (as := [_]) (ls0 := [_, _, _, _]) (kc := 0) (ks := 0) (bc' := 0) (bs' := 0) dX1_readAnswer_151 vX1_170 (hN.ss hp) rfl rfl (Nat.le_of_ble_eq_true rfl) (Nat.le_of_ble_eq_true rfl) (by omega) (by omega) ?_
        refine c_put (hN.lk hp).sS hR (hB1.bremF hp (Or.inl rfl)) (fun w hR => ?_)
        have hBY : Bok (E 5 0) (E 5 1) (insF (remF (stoF (up N (61 * p + 43) 0) p 0) p 0 (T 0)) p 0 (T 1)) := (hB1.bremF hp (Or.inl rfl)).binsF hp (Or.inl rfl) (hcv 1 (by omega) (by omega))
        refine wp_goto (tgt := 162) dX1_readAnswer_154 rfl ?_
        refine wp_aload_n dX1_readAnswer_162 rfl ?_
        refine wp_callV (as := []) (ls0 := [_, _]) (kc := 0) (ks := 0) (bc' := 0) (bs' := 0) dX1_readAnswer_163 vX1_173 (hN.ss hp) rfl rfl (Nat.le_of_ble_eq_true rfl) (Nat.le_of_ble_eq_true rfl) (by omega) (by omega) ?_
        first | refine c_raiseSeq (hN.lk hp).sS hR (hBY.seq hp (Or.inl rfl)) (fun w hR => ?_) | refine c_raiseSeq (hN.lk hp).sS hR (hB1.seq hp (Or.inl rfl)) (fun w hR => ?_)
        refine wp_return dX1_readAnswer_166 rfl ?_
        first
        | (rw [if_neg (fun z => z.2 h70), if_neg (by omega), if_pos h42] at k; exact k D O w hR)
        | (rw [if_neg (by omega), if_neg (by omega), if_neg (by omega), if_pos h42, ← hT0, ← hT1_] at k
           first
           | (rw [if_pos h138] at k; exact k D O w hR)
           | (rw [if_neg h138] at k; exact k D O w hR))
      · refine wp_if_eq (tgt := 162) dX1_readAnswer_141 rfl (fun _ => ?_) (fun q => absurd q (by decide))
        refine wp_aload_n dX1_readAnswer_162 rfl ?_
        refine wp_callV (as := []) (ls0 := [_, _]) (kc := 0) (ks := 0) (bc' := 0) (bs' := 0) dX1_readAnswer_163 vX1_173 (hN.ss hp) rfl rfl (Nat.le_of_ble_eq_true rfl) (Nat.le_of_ble_eq_true rfl) (by omega) (by omega) ?_
        first | refine c_raiseSeq (hN.lk hp).sS hR (hBY.seq hp (Or.inl rfl)) (fun w hR => ?_) | refine c_raiseSeq (hN.lk hp).sS hR (hB1.seq hp (Or.inl rfl)) (fun w hR => ?_)
        refine wp_return dX1_readAnswer_166 rfl ?_
        first
        | (rw [if_neg (fun z => z.2 h70), if_neg (by omega), if_pos h42] at k; exact k D O w hR)
        | (rw [if_neg (by omega), if_neg (by omega), if_neg (by omega), if_pos h42, ← hT0, ← hT1_] at k
           first
           | (rw [if_pos h138] at k; exact k D O w hR)
           | (rw [if_neg h138] at k; exact k D O w hR))
  · refine wp_tswOut (tgt := 157) dX1_readAnswer_42 (by omega) rfl ?_
    refine wp_aload_n dX1_readAnswer_157 rfl ?_
    refine wp_callV (as := []) (ls0 := [_]) (kc := 0) (ks := 0) (bc' := 0) (bs' := 0) dX1_readAnswer_158 vX1_131 (hN.ss hp) rfl rfl (Nat.le_of_ble_eq_true rfl) (Nat.le_of_ble_eq_true rfl) (by omega) (by omega) ?_
    refine c_clearTable (hN.lk hp).sS hR (fun w hR => ?_)
    refine wp_return dX1_readAnswer_161 rfl ?_
    rw [if_neg (by omega), if_pos (by omega)] at k
    exact k D O w hR
theorem e_readAnswer (hN : NtA sh rv iv b) (hl : PlA sh rv iv E F) (hP : Prm E F) (hp : 0 ≤ p ∧ p < 6) (hpF : p < F 13) (hR : Rel w (up N (61 * p + 43) 0)) (hB : Bok (E 5 0) (E 5 1) N) (hTl : ∀ j : Int, 0 ≤ j → j < N (61 * p + 48) → T j = N (61 * p + (50 + j))) (hD5 : D 5 = N (61 * p + 48)) (hfr : 0 ≤ N 368 ∧ N 368 ≤ 20000) (hds : N (61 * p + 45) = 0 → ∀ y z : Int, 0 ≤ y → y < z → z < N (61 * p + 48) → ¬ N (61 * p + (50 + y)) / 10 = N (61 * p + (50 + z)) / 10) (h2 : N (61 * p + 46) = 0 → N (61 * p + 45) = 2 → N (61 * p + 48) = 2) (k : ∀ (D' O' w' : Int → Int), Rel w' (anF E F N p) → R none sh (uA (CD iv b D' O' T S K C) (12 + 42 * b) w') lw rv) : wp (d + 4) mX1_readAnswer 0 [some (aR (38 + 43 * b)), some (aR (lid b p)), none, none, none] [] sh (uA (CD iv b D O T S K C) (12 + 42 * b) w) lw rv 0 0 R := by
  obtain ⟨hW1, hW2, hO1, hO2, hT1, hT2, hI1, hI2, hF1, hF2⟩ := id hP
  have hB0 : Bok (E 5 0) (E 5 1) (up N (61 * p + 43) 0) := hB.bup (by omega) (by rw [k43]; omega)
  have hB1 : Bok (E 5 0) (E 5 1) (stoF (up N (61 * p + 43) 0) p 0) := hB0.bstoF (Or.inl rfl)
  have h48 := hB.v48 hp
  have e45 : stoF (up N (61 * p + 43) 0) p 0 (61 * p + 45) = N (61 * p + 45) := by rw [stoF_n (by omega) (Or.inl rfl), up_n (by omega)]
  have e46 : up N (61 * p + 43) 0 (61 * p + 46) = N (61 * p + 46) := by rw [up_n (by omega)]
  have e49 : stoF (up N (61 * p + 43) 0) p 0 (61 * p + 49) = N (61 * p + 49) := by rw [stoF_n (by omega) (Or.inl rfl), up_n (by omega)]
  have hcv : ∀ z : Int, 0 ≤ z → z < D 5 → Vc (E 5 0) (E 5 1) (T z) := fun z z0 z1 => by rw [hTl z z0 (by omega)]; exact cm_48 hB hp z0 (by omega)
  have hcv2 : ∀ j : Int, 0 ≤ j → j < 0 + ((N (61 * p + 48)).toNat : Int) → Vc (E 5 0) (E 5 1) (T j) := fun j j0 j1 => hcv j j0 (by omega)
  have h45 := hB.v45 hp
  have hfr1 : (stoF (up N (61 * p + 43) 0) p 0) 368 = N 368 := by unfold stoF; rw [up_n (by omega), up_n (by omega), up_n (by omega)]
  have f28 : (stoF (up N (61 * p + 43) 0) p 0) (61 * p + 28) = 0 := by unfold stoF; rw [up_n (by omega), show (28 : Int) + 0 = 28 from rfl, up_s]
  have f33 : (stoF (up N (61 * p + 43) 0) p 0) (61 * p + 33) = 0 := by unfold stoF; rw [show (33 : Int) + 0 = 33 from rfl, up_s]
  have f43 : (stoF (up N (61 * p + 43) 0) p 0) (61 * p + 43) = 0 := by rw [stoF_n (by omega) (Or.inl rfl), up_s]
  have hmny : mny E F (stoF (up N (61 * p + 43) 0) p 0) p 3 0 = 0 := mny_0 ⟨f28, f43⟩ (Or.inl rfl)
  unfold anF at k
  refine wp_aload_n dX1_readAnswer_0 rfl ?_
  refine wp_getR (hN.rls hp) dX1_readAnswer_1 fX1_63 (hN.sl hp) ?_
  refine wp_astore_n (ls' := [_, _, _, _, _]) dX1_readAnswer_4 (by decide) rfl rfl ?_
  refine wp_aload_n dX1_readAnswer_5 rfl ?_
  refine wp_getR (hN.rlm hp) dX1_readAnswer_6 fX1_72 (hN.sl hp) ?_
  refine wp_callV (as := []) (ls0 := [_]) (kc := 0) (ks := 0) (bc' := 0) (bs' := 0) dX1_readAnswer_9 vX1_152 (hN.sm hp) rfl rfl (Nat.le_of_ble_eq_true rfl) (Nat.le_of_ble_eq_true rfl) (by omega) (by omega) ?_
  refine t_result (hN.lk hp).sM hR ?_
  rw [e46]
  refine wp_istore_n (ls' := [_, _, _, _, _]) dX1_readAnswer_12 (by decide) rfl rfl ?_
  refine wp_aload_n dX1_readAnswer_13 rfl ?_
  refine wp_callV (as := []) (ls0 := [_]) (kc := 0) (ks := 0) (bc' := 0) (bs' := 0) dX1_readAnswer_14 vX1_125 (hN.ss hp) rfl rfl (Nat.le_of_ble_eq_true rfl) (Nat.le_of_ble_eq_true rfl) (by omega) (by omega) ?_
  refine c_stopWaiting (hN.lk hp).sS hR (fun w hR => ?_)
  refine wp_iload_n dX1_readAnswer_17 rfl ?_
  refine wp_iconst dX1_readAnswer_18 ?_
  refine wp_icmp_ne (tgt := 30) dX1_readAnswer_19 rfl (fun h19 => ?_) (fun h19 => ?_)
  · refine wp_iload_n dX1_readAnswer_30 rfl ?_
    refine wp_if_eq (tgt := 35) dX1_readAnswer_31 rfl (fun h31 => ?_) (fun h31 => ?_)
    · first
      | (exfalso; omega)
      | (rw [if_neg h19, if_pos h31] at k
         exact e_ansOk hN hl hP hp hpF hR hB hTl hD5 hfr hds (h2 h31) k)
    · refine wp_return dX1_readAnswer_34 rfl ?_
      first
      | (exfalso; omega)
      | (rw [if_pos h19] at k; exact k D' O' w' hR)
      | (rw [if_neg h19, if_neg h31] at k; exact k D O w hR)
  · refine wp_aload_n dX1_readAnswer_22 rfl ?_
    refine wp_aload_n dX1_readAnswer_23 rfl ?_
    refine wp_iconst dX1_readAnswer_24 ?_
    refine wp_iconst dX1_readAnswer_25 ?_
    refine wp_callV (as := [_, _, _]) (ls0 := [_, _, _, _, _, _, _]) (kc := 0) (ks := 0) (bc' := 0) (bs' := 0) dX1_readAnswer_26 vX1_155 hN.s38 rfl rfl (Nat.le_of_ble_eq_true rfl) (Nat.le_of_ble_eq_true rfl) (by omega) (by omega) ?_
    refine e_begin3 hN hl hP hp hpF hR hB1 (by rw [hfr1]; exact hfr) (by omega) f33 (by rw [hmny]; decide) (fun D' O' w' g1 hR => ?_)
    refine wp_pop dX1_readAnswer_29 rfl ?_
    refine wp_iload_n dX1_readAnswer_30 rfl ?_
    refine wp_if_eq (tgt := 35) dX1_readAnswer_31 rfl (fun h31 => ?_) (fun h31 => ?_)
    · first
      | (exfalso; omega)
      | (rw [if_neg h19, if_pos h31] at k
         exact e_ansOk hN hl hP hp hpF hR hB hTl hD5 hfr hds (h2 h31) k)
    · refine wp_return dX1_readAnswer_34 rfl ?_
      first
      | (exfalso; omega)
      | (rw [if_pos h19] at k; exact k D' O' w' hR)
      | (rw [if_neg h19, if_neg h31] at k; exact k D O w hR)
theorem e_readConfirm (hN : NtA sh rv iv b) (hl : PlA sh rv iv E F) (hP : Prm E F) (hp : 0 ≤ p ∧ p < 6) (hpF : p < F 13) (hR : Rel w (up N (61 * p + 43) 0)) (hB : Bok (E 5 0) (E 5 1) N) (hTl : ∀ j : Int, 0 ≤ j → j < N (61 * p + 48) → T j = N (61 * p + (50 + j))) (hD5 : D 5 = N (61 * p + 48)) (k : ∀ (D' O' w' : Int → Int), Rel w' (cfF N p) → R none sh (uA (CD iv b D' O' T S K C) (12 + 42 * b) w') lw rv) : wp (d + 3) mX1_readConfirm 0 [some (aR (38 + 43 * b)), some (aR (lid b p)), none] [] sh (uA (CD iv b D O T S K C) (12 + 42 * b) w) lw rv 0 0 R := by
  obtain ⟨hW1, hW2, hO1, hO2, hT1, hT2, hI1, hI2, hF1, hF2⟩ := id hP
  have hB0 : Bok (E 5 0) (E 5 1) (up N (61 * p + 43) 0) := hB.bup (by omega) (by rw [k43]; omega)
  have hB1 : Bok (E 5 0) (E 5 1) (stoF (up N (61 * p + 43) 0) p 0) := hB0.bstoF (Or.inl rfl)
  have h48 := hB.v48 hp
  have e45 : stoF (up N (61 * p + 43) 0) p 0 (61 * p + 45) = N (61 * p + 45) := by rw [stoF_n (by omega) (Or.inl rfl), up_n (by omega)]
  have e46 : up N (61 * p + 43) 0 (61 * p + 46) = N (61 * p + 46) := by rw [up_n (by omega)]
  have e49 : stoF (up N (61 * p + 43) 0) p 0 (61 * p + 49) = N (61 * p + 49) := by rw [stoF_n (by omega) (Or.inl rfl), up_n (by omega)]
  have hcv : ∀ z : Int, 0 ≤ z → z < D 5 → Vc (E 5 0) (E 5 1) (T z) := fun z z0 z1 => by rw [hTl z z0 (by omega)]; exact cm_48 hB hp z0 (by omega)
  have hcv2 : ∀ j : Int, 0 ≤ j → j < 0 + ((N (61 * p + 48)).toNat : Int) → Vc (E 5 0) (E 5 1) (T j) := fun j j0 j1 => hcv j j0 (by omega)
  have h29 := hB.v29 hp
  have e29 : up N (61 * p + 43) 0 (61 * p + (28 + 1)) = N (61 * p + 29) := by rw [up_n (by omega)]; rfl
  unfold cfF at k
  refine wp_aload_n dX1_readConfirm_0 rfl ?_
  refine wp_getR (hN.rlr hp) dX1_readConfirm_1 fX1_122 (hN.sl hp) ?_
  refine wp_astore_n (ls' := [_, _, _]) dX1_readConfirm_4 (by decide) rfl rfl ?_
  refine wp_aload_n dX1_readConfirm_5 rfl ?_
  refine wp_callV (as := []) (ls0 := [_]) (kc := 0) (ks := 0) (bc' := 0) (bs' := 0) dX1_readConfirm_6 vX1_176 (hN.sr hp) rfl rfl (Nat.le_of_ble_eq_true rfl) (Nat.le_of_ble_eq_true rfl) (by omega) (by omega) ?_
  refine c_isWaiting (hN.lk hp).sR hR (fun h6 => ?_) (fun h6 => ?_)
  all_goals rw [e29] at h6
  · refine wp_if_ne (tgt := 13) dX1_readConfirm_9 rfl (fun _ => ?_) (fun q => absurd q (by decide))
    refine wp_aload_n dX1_readConfirm_13 rfl ?_
    refine wp_aload_n dX1_readConfirm_14 rfl ?_
    refine wp_callV (as := [_]) (ls0 := [_, _, _]) (kc := 0) (ks := 0) (bc' := 0) (bs' := 0) dX1_readConfirm_15 vX1_162 hN.s38 rfl rfl (Nat.le_of_ble_eq_true rfl) (Nat.le_of_ble_eq_true rfl) (by omega) (by omega) ?_
    refine e_putAllTold hN hP hp (hN.lk hp).sR hcv hR hB0 (by omega) (fun w hR => ?_)
    rw [hD5, insA_c (g := tld N p) _ _ _ (fun j j0 j1 => hTl j j0 (by omega))] at hR
    have hBY : Bok (E 5 0) (E 5 1) (insA p 1 (tld N p) (N (61 * p + 48)).toNat 0 (up N (61 * p + 43) 0)) := Bok.binsA hp (Or.inr rfl) _ _ _ (fun j j0 j1 => by rw [show tld N p j = T j from (hTl j j0 (by omega)).symm]; exact hcv2 j j0 j1) hB0
    refine wp_aload_n dX1_readConfirm_18 rfl ?_
    refine wp_getI dX1_readConfirm_19 fX1_112 hN.s38 ?_
    rw [CS38]
    refine wp_if_le (tgt := 29) dX1_readConfirm_22 rfl (fun h22 => ?_) (fun h22 => ?_)
    · refine wp_aload_n dX1_readConfirm_29 rfl ?_
      refine wp_callV (as := []) (ls0 := [_]) (kc := 0) (ks := 0) (bc' := 0) (bs' := 0) dX1_readConfirm_30 vX1_125 (hN.sr hp) rfl rfl (Nat.le_of_ble_eq_true rfl) (Nat.le_of_ble_eq_true rfl) (by omega) (by omega) ?_
      refine c_stopWaiting (hN.lk hp).sR hR (fun w hR => ?_)
      refine wp_return dX1_readConfirm_33 rfl ?_
      rw [if_neg (by omega)] at k
      first | (rw [if_pos (by omega)] at k; exact k D O w hR) | (rw [if_neg (by omega)] at k; exact k D O w hR)
    · refine wp_aload_n dX1_readConfirm_25 rfl ?_
      refine wp_callV (as := []) (ls0 := [_, _]) (kc := 0) (ks := 0) (bc' := 0) (bs' := 0) dX1_readConfirm_26 vX1_173 (hN.sr hp) rfl rfl (Nat.le_of_ble_eq_true rfl) (Nat.le_of_ble_eq_true rfl) (by omega) (by omega) ?_
      refine c_raiseSeq (hN.lk hp).sR hR (hBY.seq hp (Or.inr rfl)) (fun w hR => ?_)
      refine wp_aload_n dX1_readConfirm_29 rfl ?_
      refine wp_callV (as := []) (ls0 := [_]) (kc := 0) (ks := 0) (bc' := 0) (bs' := 0) dX1_readConfirm_30 vX1_125 (hN.sr hp) rfl rfl (Nat.le_of_ble_eq_true rfl) (Nat.le_of_ble_eq_true rfl) (by omega) (by omega) ?_
      refine c_stopWaiting (hN.lk hp).sR hR (fun w hR => ?_)
      refine wp_return dX1_readConfirm_33 rfl ?_
      rw [if_neg (by omega)] at k
      first | (rw [if_pos (by omega)] at k; exact k D O w hR) | (rw [if_neg (by omega)] at k; exact k D O w hR)
  · refine wp_if_ne (tgt := 13) dX1_readConfirm_9 rfl (fun q => absurd q (by decide)) (fun _ => ?_)
    refine wp_return dX1_readConfirm_12 rfl ?_
    rw [if_pos (by omega)] at k; exact k D O w hR
theorem clr_sto : stoF (clrF N p 0) p 0 = clrF (stoF N p 0) p 0 := by
  funext j
  unfold stoF clrF
  rw [mq0]
  simp only [up]
  repeat' split
  all_goals first | rfl | omega
theorem toS_43 {t q : Int} (hq : q = 0 ∨ q = 1) (h : ¬ N (61 * p + 43) = 0) : toS N t p q = N := by unfold toS; rw [if_neg (fun z => h z.2.1)]
theorem toS_k {t : Int} {k : Int} (h : k = 29 ∨ k = 31 ∨ 35 ≤ k) : toS N t p 0 (61 * p + k) = N (61 * p + k) := by
  unfold toS
  split
  · split
    · unfold clrF stoF; rw [mq0, up_n (by omega), up_n (by omega), up_n (by omega), up_n (by omega)]
    · unfold stoF; rw [up_n (by omega), up_n (by omega)]
  · rfl
theorem e_runOut (hN : NtA sh rv iv b) (hl : PlA sh rv iv E F) (hP : Prm E F) (hp : 0 ≤ p ∧ p < 6) (hpF : p < F 13) (hR : Rel w N) (hB : Bok (E 5 0) (E 5 1) N) (hfr : 0 ≤ N 368 ∧ N 368 ≤ 20000) (k : ∀ w', Rel w' (toS (toS N (E 5 2) p 0) (E 5 2) p 1) → R none sh (uA (CD iv b D O T S K C) (12 + 42 * b) w') lw rv) : wp (d + 2) mX1_runOut 0 [some (aR (38 + 43 * b)), some (aR (lid b p))] [] sh (uA (CD iv b D O T S K C) (12 + 42 * b) w) lw rv 0 0 R := by
  obtain ⟨hW1, hW2, hO1, hO2, hT1, hT2, hI1, hI2, hF1, hF2⟩ := id hP
  have h43 := hB.v43 hp
  have hT := toS_ok (iv := E) (t := E 5 2) (p := p) hB (Or.inl rfl : (0 : Int) = 0 ∨ (0 : Int) = 1)
  have t43 : toS N (E 5 2) p 0 (61 * p + 43) = N (61 * p + 43) := toS_k (by omega)
  have t368 : toS N (E 5 2) p 0 368 = N 368 := hT.2 368 (by omega)
  refine wp_aload_n dX1_runOut_0 rfl ?_
  refine wp_getR (hN.rlm hp) dX1_runOut_1 fX1_72 (hN.sl hp) ?_
  refine wp_callV (as := []) (ls0 := [_]) (kc := 0) (ks := 0) (bc' := 0) (bs' := 0) dX1_runOut_4 vX1_179 (hN.sm hp) rfl rfl (Nat.le_of_ble_eq_true rfl) (Nat.le_of_ble_eq_true rfl) (by omega) (by omega) ?_
  refine t_isUnderWay (hN.lk hp).sM hR (fun h4 => ?_) (fun h4 => ?_)
  · refine wp_if_eq (tgt := 11) dX1_runOut_7 rfl (fun q => absurd q (by decide)) (fun _ => ?_)
    refine wp_return dX1_runOut_10 rfl ?_
    refine k w ?_
    rw [toS_43 (Or.inr rfl) (by omega), toS_43 (Or.inl rfl) (by omega)]; exact hR
  · refine wp_if_eq (tgt := 11) dX1_runOut_7 rfl (fun _ => ?_) (fun q => absurd q (by decide))
    refine wp_aload_n dX1_runOut_11 rfl ?_
    refine wp_getR (hN.rls hp) dX1_runOut_12 fX1_63 (hN.sl hp) ?_
    refine wp_aload_n dX1_runOut_15 rfl ?_
    refine wp_getR hN.r38n dX1_runOut_16 fX1_20 hN.s38 ?_
    refine wp_callV (as := []) (ls0 := [_]) (kc := 0) (ks := 0) (bc' := 0) (bs' := 0) dX1_runOut_19 vX1_83 hN.s11 rfl rfl (Nat.le_of_ble_eq_true rfl) (Nat.le_of_ble_eq_true rfl) (by omega) (by omega) ?_
    refine x_frame hN hR ?_
    refine wp_aload_n dX1_runOut_22 rfl ?_
    refine wp_getR hN.r38p dX1_runOut_23 fX1_30 hN.s38 ?_
    refine wp_callV (as := []) (ls0 := [_]) (kc := 0) (ks := 0) (bc' := 0) (bs' := 0) dX1_runOut_26 vX1_182 hl.1 rfl rfl (Nat.le_of_ble_eq_true rfl) (Nat.le_of_ble_eq_true rfl) (by omega) (by omega) ?_
    refine n_timeout (hN.pl hl) ?_
    refine wp_callV (as := [_, _]) (ls0 := [_, _, _]) (kc := 0) (ks := 0) (bc' := 0) (bs' := 0) dX1_runOut_29 vX1_185 (hN.ss hp) rfl rfl (Nat.le_of_ble_eq_true rfl) (Nat.le_of_ble_eq_true rfl) (by omega) (by omega) ?_
    refine c_hasWaited (hN.lk hp).sS hR hB hfr (fun h29 => ?_) (fun h29 => ?_)
    all_goals rw [show (28 : Int) + 0 = 28 from rfl, show (30 : Int) + 0 = 30 from rfl] at h29
    · refine wp_if_eq (tgt := 60) dX1_runOut_32 rfl (fun q => absurd q (by decide)) (fun _ => ?_)
      refine wp_aload_n dX1_runOut_35 rfl ?_
      refine wp_getR (hN.rls hp) dX1_runOut_36 fX1_63 (hN.sl hp) ?_
      refine wp_iconst dX1_runOut_39 ?_
      refine wp_callV (as := [_]) (ls0 := [_, _]) (kc := 0) (ks := 0) (bc' := 0) (bs' := 0) dX1_runOut_40 vX1_189 (hN.ss hp) rfl rfl (Nat.le_of_ble_eq_true rfl) (Nat.le_of_ble_eq_true rfl) (by omega) (by omega) ?_
      refine c_awaits (hN.lk hp).sS hR rfl (fun h40 => ?_) (fun h40 => ?_)
      · refine wp_if_eq (tgt := 53) dX1_runOut_43 rfl (fun q => absurd q (by decide)) (fun _ => ?_)
        refine wp_aload_n dX1_runOut_46 rfl ?_
        refine wp_getR (hN.rls hp) dX1_runOut_47 fX1_63 (hN.sl hp) ?_
        refine wp_callV (as := []) (ls0 := [_]) (kc := 0) (ks := 0) (bc' := 0) (bs' := 0) dX1_runOut_50 vX1_131 (hN.ss hp) rfl rfl (Nat.le_of_ble_eq_true rfl) (Nat.le_of_ble_eq_true rfl) (by omega) (by omega) ?_
        refine c_clearTable (hN.lk hp).sS hR (fun w hR => ?_)
        refine wp_aload_n dX1_runOut_53 rfl ?_
        refine wp_getR (hN.rls hp) dX1_runOut_54 fX1_63 (hN.sl hp) ?_
        refine wp_callV (as := []) (ls0 := [_]) (kc := 0) (ks := 0) (bc' := 0) (bs' := 0) dX1_runOut_57 vX1_125 (hN.ss hp) rfl rfl (Nat.le_of_ble_eq_true rfl) (Nat.le_of_ble_eq_true rfl) (by omega) (by omega) ?_
        refine c_stopWaiting (hN.lk hp).sS hR (fun w hR => ?_)
        have hR : Rel w (toS N (E 5 2) p 0) := by
          unfold toS
          rw [if_pos ⟨h29.1, by omega, h29.2⟩]
          first
          | (rw [if_pos ⟨rfl, h40.2⟩, ← clr_sto]; exact hR)
          | (rw [if_neg (fun z => h40 ⟨h29.1, z.2⟩)]; exact hR)
        refine wp_aload_n dX1_runOut_60 rfl ?_
        refine wp_getR (hN.rlr hp) dX1_runOut_61 fX1_122 (hN.sl hp) ?_
        refine wp_aload_n dX1_runOut_64 rfl ?_
        refine wp_getR hN.r38n dX1_runOut_65 fX1_20 hN.s38 ?_
        refine wp_callV (as := []) (ls0 := [_]) (kc := 0) (ks := 0) (bc' := 0) (bs' := 0) dX1_runOut_68 vX1_83 hN.s11 rfl rfl (Nat.le_of_ble_eq_true rfl) (Nat.le_of_ble_eq_true rfl) (by omega) (by omega) ?_
        refine x_frame hN hR ?_
        rw [t368]
        refine wp_aload_n dX1_runOut_71 rfl ?_
        refine wp_getR hN.r38p dX1_runOut_72 fX1_30 hN.s38 ?_
        refine wp_callV (as := []) (ls0 := [_]) (kc := 0) (ks := 0) (bc' := 0) (bs' := 0) dX1_runOut_75 vX1_182 hl.1 rfl rfl (Nat.le_of_ble_eq_true rfl) (Nat.le_of_ble_eq_true rfl) (by omega) (by omega) ?_
        refine n_timeout (hN.pl hl) ?_
        refine wp_callV (as := [_, _]) (ls0 := [_, _, _]) (kc := 0) (ks := 0) (bc' := 0) (bs' := 0) dX1_runOut_78 vX1_185 (hN.sr hp) rfl rfl (Nat.le_of_ble_eq_true rfl) (Nat.le_of_ble_eq_true rfl) (by omega) (by omega) ?_
        refine c_hasWaited (hN.lk hp).sR hR hT.1 hfr (fun h78 => ?_) (fun h78 => ?_)
        all_goals rw [show (28 : Int) + 1 = 29 from rfl, show (30 : Int) + 1 = 31 from rfl, toS_k (k := 29) (by omega), toS_k (k := 31) (by omega)] at h78
        · refine wp_if_eq (tgt := 91) dX1_runOut_81 rfl (fun q => absurd q (by decide)) (fun _ => ?_)
          refine wp_aload_n dX1_runOut_84 rfl ?_
          refine wp_getR (hN.rlr hp) dX1_runOut_85 fX1_122 (hN.sl hp) ?_
          refine wp_callV (as := []) (ls0 := [_]) (kc := 0) (ks := 0) (bc' := 0) (bs' := 0) dX1_runOut_88 vX1_125 (hN.sr hp) rfl rfl (Nat.le_of_ble_eq_true rfl) (Nat.le_of_ble_eq_true rfl) (by omega) (by omega) ?_
          refine c_stopWaiting (hN.lk hp).sR hR (fun w hR => ?_)
          refine wp_return dX1_runOut_91 rfl ?_
          refine k w ?_
          rw [toS]
          first
          | (rw [if_pos ⟨by rw [show (28 : Int) + 1 = 29 from rfl, toS_k (by omega)]; exact h78.1, by omega, by rw [show (30 : Int) + 1 = 31 from rfl, toS_k (by omega), t368]; exact h78.2⟩, if_neg (by omega)]; exact hR)
          | (rw [if_neg (by rw [show (28 : Int) + 1 = 29 from rfl, show (30 : Int) + 1 = 31 from rfl, toS_k (k := 29) (by omega), toS_k (k := 31) (by omega), t368]; exact fun z => h78 ⟨z.1, z.2.2⟩)]; exact hR)
        · refine wp_if_eq (tgt := 91) dX1_runOut_81 rfl (fun _ => ?_) (fun q => absurd q (by decide))
          refine wp_return dX1_runOut_91 rfl ?_
          refine k w ?_
          rw [toS]
          first
          | (rw [if_pos ⟨by rw [show (28 : Int) + 1 = 29 from rfl, toS_k (by omega)]; exact h78.1, by omega, by rw [show (30 : Int) + 1 = 31 from rfl, toS_k (by omega), t368]; exact h78.2⟩, if_neg (by omega)]; exact hR)
          | (rw [if_neg (by rw [show (28 : Int) + 1 = 29 from rfl, show (30 : Int) + 1 = 31 from rfl, toS_k (k := 29) (by omega), toS_k (k := 31) (by omega), t368]; exact fun z => h78 ⟨z.1, z.2.2⟩)]; exact hR)
      · refine wp_if_eq (tgt := 53) dX1_runOut_43 rfl (fun _ => ?_) (fun q => absurd q (by decide))
        refine wp_aload_n dX1_runOut_53 rfl ?_
        refine wp_getR (hN.rls hp) dX1_runOut_54 fX1_63 (hN.sl hp) ?_
        refine wp_callV (as := []) (ls0 := [_]) (kc := 0) (ks := 0) (bc' := 0) (bs' := 0) dX1_runOut_57 vX1_125 (hN.ss hp) rfl rfl (Nat.le_of_ble_eq_true rfl) (Nat.le_of_ble_eq_true rfl) (by omega) (by omega) ?_
        refine c_stopWaiting (hN.lk hp).sS hR (fun w hR => ?_)
        have hR : Rel w (toS N (E 5 2) p 0) := by
          unfold toS
          rw [if_pos ⟨h29.1, by omega, h29.2⟩]
          first
          | (rw [if_pos ⟨rfl, h40.2⟩, ← clr_sto]; exact hR)
          | (rw [if_neg (fun z => h40 ⟨h29.1, z.2⟩)]; exact hR)
        refine wp_aload_n dX1_runOut_60 rfl ?_
        refine wp_getR (hN.rlr hp) dX1_runOut_61 fX1_122 (hN.sl hp) ?_
        refine wp_aload_n dX1_runOut_64 rfl ?_
        refine wp_getR hN.r38n dX1_runOut_65 fX1_20 hN.s38 ?_
        refine wp_callV (as := []) (ls0 := [_]) (kc := 0) (ks := 0) (bc' := 0) (bs' := 0) dX1_runOut_68 vX1_83 hN.s11 rfl rfl (Nat.le_of_ble_eq_true rfl) (Nat.le_of_ble_eq_true rfl) (by omega) (by omega) ?_
        refine x_frame hN hR ?_
        rw [t368]
        refine wp_aload_n dX1_runOut_71 rfl ?_
        refine wp_getR hN.r38p dX1_runOut_72 fX1_30 hN.s38 ?_
        refine wp_callV (as := []) (ls0 := [_]) (kc := 0) (ks := 0) (bc' := 0) (bs' := 0) dX1_runOut_75 vX1_182 hl.1 rfl rfl (Nat.le_of_ble_eq_true rfl) (Nat.le_of_ble_eq_true rfl) (by omega) (by omega) ?_
        refine n_timeout (hN.pl hl) ?_
        refine wp_callV (as := [_, _]) (ls0 := [_, _, _]) (kc := 0) (ks := 0) (bc' := 0) (bs' := 0) dX1_runOut_78 vX1_185 (hN.sr hp) rfl rfl (Nat.le_of_ble_eq_true rfl) (Nat.le_of_ble_eq_true rfl) (by omega) (by omega) ?_
        refine c_hasWaited (hN.lk hp).sR hR hT.1 hfr (fun h78 => ?_) (fun h78 => ?_)
        all_goals rw [show (28 : Int) + 1 = 29 from rfl, show (30 : Int) + 1 = 31 from rfl, toS_k (k := 29) (by omega), toS_k (k := 31) (by omega)] at h78
        · refine wp_if_eq (tgt := 91) dX1_runOut_81 rfl (fun q => absurd q (by decide)) (fun _ => ?_)
          refine wp_aload_n dX1_runOut_84 rfl ?_
          refine wp_getR (hN.rlr hp) dX1_runOut_85 fX1_122 (hN.sl hp) ?_
          refine wp_callV (as := []) (ls0 := [_]) (kc := 0) (ks := 0) (bc' := 0) (bs' := 0) dX1_runOut_88 vX1_125 (hN.sr hp) rfl rfl (Nat.le_of_ble_eq_true rfl) (Nat.le_of_ble_eq_true rfl) (by omega) (by omega) ?_
          refine c_stopWaiting (hN.lk hp).sR hR (fun w hR => ?_)
          refine wp_return dX1_runOut_91 rfl ?_
          refine k w ?_
          rw [toS]
          first
          | (rw [if_pos ⟨by rw [show (28 : Int) + 1 = 29 from rfl, toS_k (by omega)]; exact h78.1, by omega, by rw [show (30 : Int) + 1 = 31 from rfl, toS_k (by omega), t368]; exact h78.2⟩, if_neg (by omega)]; exact hR)
          | (rw [if_neg (by rw [show (28 : Int) + 1 = 29 from rfl, show (30 : Int) + 1 = 31 from rfl, toS_k (k := 29) (by omega), toS_k (k := 31) (by omega), t368]; exact fun z => h78 ⟨z.1, z.2.2⟩)]; exact hR)
        · refine wp_if_eq (tgt := 91) dX1_runOut_81 rfl (fun _ => ?_) (fun q => absurd q (by decide))
          refine wp_return dX1_runOut_91 rfl ?_
          refine k w ?_
          rw [toS]
          first
          | (rw [if_pos ⟨by rw [show (28 : Int) + 1 = 29 from rfl, toS_k (by omega)]; exact h78.1, by omega, by rw [show (30 : Int) + 1 = 31 from rfl, toS_k (by omega), t368]; exact h78.2⟩, if_neg (by omega)]; exact hR)
          | (rw [if_neg (by rw [show (28 : Int) + 1 = 29 from rfl, show (30 : Int) + 1 = 31 from rfl, toS_k (k := 29) (by omega), toS_k (k := 31) (by omega), t368]; exact fun z => h78 ⟨z.1, z.2.2⟩)]; exact hR)
    · have hR : Rel w (toS N (E 5 2) p 0) := by
        unfold toS
        rw [if_neg (fun z => h29 ⟨z.1, z.2.2⟩)]; exact hR
      refine wp_if_eq (tgt := 60) dX1_runOut_32 rfl (fun _ => ?_) (fun q => absurd q (by decide))
      refine wp_aload_n dX1_runOut_60 rfl ?_
      refine wp_getR (hN.rlr hp) dX1_runOut_61 fX1_122 (hN.sl hp) ?_
      refine wp_aload_n dX1_runOut_64 rfl ?_
      refine wp_getR hN.r38n dX1_runOut_65 fX1_20 hN.s38 ?_
      refine wp_callV (as := []) (ls0 := [_]) (kc := 0) (ks := 0) (bc' := 0) (bs' := 0) dX1_runOut_68 vX1_83 hN.s11 rfl rfl (Nat.le_of_ble_eq_true rfl) (Nat.le_of_ble_eq_true rfl) (by omega) (by omega) ?_
      refine x_frame hN hR ?_
      rw [t368]
      refine wp_aload_n dX1_runOut_71 rfl ?_
      refine wp_getR hN.r38p dX1_runOut_72 fX1_30 hN.s38 ?_
      refine wp_callV (as := []) (ls0 := [_]) (kc := 0) (ks := 0) (bc' := 0) (bs' := 0) dX1_runOut_75 vX1_182 hl.1 rfl rfl (Nat.le_of_ble_eq_true rfl) (Nat.le_of_ble_eq_true rfl) (by omega) (by omega) ?_
      refine n_timeout (hN.pl hl) ?_
      refine wp_callV (as := [_, _]) (ls0 := [_, _, _]) (kc := 0) (ks := 0) (bc' := 0) (bs' := 0) dX1_runOut_78 vX1_185 (hN.sr hp) rfl rfl (Nat.le_of_ble_eq_true rfl) (Nat.le_of_ble_eq_true rfl) (by omega) (by omega) ?_
      refine c_hasWaited (hN.lk hp).sR hR hT.1 hfr (fun h78 => ?_) (fun h78 => ?_)
      all_goals rw [show (28 : Int) + 1 = 29 from rfl, show (30 : Int) + 1 = 31 from rfl, toS_k (k := 29) (by omega), toS_k (k := 31) (by omega)] at h78
      · refine wp_if_eq (tgt := 91) dX1_runOut_81 rfl (fun q => absurd q (by decide)) (fun _ => ?_)
        refine wp_aload_n dX1_runOut_84 rfl ?_
        refine wp_getR (hN.rlr hp) dX1_runOut_85 fX1_122 (hN.sl hp) ?_
        refine wp_callV (as := []) (ls0 := [_]) (kc := 0) (ks := 0) (bc' := 0) (bs' := 0) dX1_runOut_88 vX1_125 (hN.sr hp) rfl rfl (Nat.le_of_ble_eq_true rfl) (Nat.le_of_ble_eq_true rfl) (by omega) (by omega) ?_
        refine c_stopWaiting (hN.lk hp).sR hR (fun w hR => ?_)
        refine wp_return dX1_runOut_91 rfl ?_
        refine k w ?_
        rw [toS]
        first
        | (rw [if_pos ⟨by rw [show (28 : Int) + 1 = 29 from rfl, toS_k (by omega)]; exact h78.1, by omega, by rw [show (30 : Int) + 1 = 31 from rfl, toS_k (by omega), t368]; exact h78.2⟩, if_neg (by omega)]; exact hR)
        | (rw [if_neg (by rw [show (28 : Int) + 1 = 29 from rfl, show (30 : Int) + 1 = 31 from rfl, toS_k (k := 29) (by omega), toS_k (k := 31) (by omega), t368]; exact fun z => h78 ⟨z.1, z.2.2⟩)]; exact hR)
      · refine wp_if_eq (tgt := 91) dX1_runOut_81 rfl (fun _ => ?_) (fun q => absurd q (by decide))
        refine wp_return dX1_runOut_91 rfl ?_
        refine k w ?_
        rw [toS]
        first
        | (rw [if_pos ⟨by rw [show (28 : Int) + 1 = 29 from rfl, toS_k (by omega)]; exact h78.1, by omega, by rw [show (30 : Int) + 1 = 31 from rfl, toS_k (by omega), t368]; exact h78.2⟩, if_neg (by omega)]; exact hR)
        | (rw [if_neg (by rw [show (28 : Int) + 1 = 29 from rfl, show (30 : Int) + 1 = 31 from rfl, toS_k (k := 29) (by omega), toS_k (k := 31) (by omega), t368]; exact fun z => h78 ⟨z.1, z.2.2⟩)]; exact hR)
end C11
