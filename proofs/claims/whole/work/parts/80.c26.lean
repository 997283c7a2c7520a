section C26
variable {d b : Nat} {sh : aSh} {iv lw E : aF} {rv : aP} {D O T S K C w N F : Int → Int} {R : aPost} {p : Int}
theorem e_offerAt {i : Int} (hN : NtA sh rv iv b) (h4 : 0 ≤ D 4 ∧ D 4 ≤ 16) (k : R (some (aI (if 0 ≤ i ∧ i < D 4 then O i else -1))) sh (uA (CD iv b D O T S K C) (12 + 42 * b) w) lw rv) : wp (d) mX1_offerAt 0 [some (aR (38 + 43 * b)), some (aI i)] [] sh (uA (CD iv b D O T S K C) (12 + 42 * b) w) lw rv 0 0 R := by
  refine wp_iload_n dX1_offerAt_0 rfl ?_
  refine wp_if_lt (tgt := 21) dX1_offerAt_1 rfl (fun h1 => ?_) (fun h1 => ?_)
  · refine wp_iconst dX1_offerAt_21 ?_
    refine wp_ireturn dX1_offerAt_22 rfl ?_
    first | (rw [if_pos (by omega)] at k; exact k) | (rw [if_neg (by omega)] at k; exact k)
  · refine wp_iload_n dX1_offerAt_4 rfl ?_
    refine wp_aload_n dX1_offerAt_5 rfl ?_
    refine wp_getI dX1_offerAt_6 fX1_37 hN.s38 ?_
    rw [CS38]
    refine wp_icmp_ge (tgt := 21) dX1_offerAt_9 rfl (fun h9 => ?_) (fun h9 => ?_)
    · refine wp_iconst dX1_offerAt_21 ?_
      refine wp_ireturn dX1_offerAt_22 rfl ?_
      first | (rw [if_pos (by omega)] at k; exact k) | (rw [if_neg (by omega)] at k; exact k)
    · refine wp_aload_n dX1_offerAt_12 rfl ?_
      refine wp_getR hN.r38o dX1_offerAt_13 fX1_9 hN.s38 ?_
      refine wp_iload_n dX1_offerAt_16 rfl ?_
      refine wp_iald dX1_offerAt_17 hN.s39 (by omega) (by omega) ?_
      rw [CS39]
      refine wp_goto (tgt := 22) dX1_offerAt_18 rfl ?_
      refine wp_ireturn dX1_offerAt_22 rfl ?_
      first | (rw [if_pos (by omega)] at k; exact k) | (rw [if_neg (by omega)] at k; exact k)
theorem x_sideOf {nd : Int} (hN : NtA sh rv iv b) (hl : PlA sh rv iv E F) (hP : Prm E F) (hp : 0 ≤ p ∧ p < 6) (hpF : p < F 13) (k0 : E 6 (4 * p + 0) = nd → R (some (aR (sid b p))) sh (uA (CD iv b D O T S K C) (12 + 42 * b) w) lw rv) (k1 : ¬ E 6 (4 * p + 0) = nd → E 6 (4 * p + 1) = nd → R (some (aR (rid b p))) sh (uA (CD iv b D O T S K C) (12 + 42 * b) w) lw rv) (k2 : ¬ E 6 (4 * p + 0) = nd → ¬ E 6 (4 * p + 1) = nd → R (some aN) sh (uA (CD iv b D O T S K C) (12 + 42 * b) w) lw rv) : wp (d + 1) mX4_sideOf 0 [some (aR (11 + 42 * b)), some (aI p), some (aI nd)] [] sh (uA (CD iv b D O T S K C) (12 + 42 * b) w) lw rv 0 0 R := by
  obtain ⟨hW1, hW2, hO1, hO2, hT1, hT2, hI1, hI2, hF1, hF2⟩ := id hP
  refine wp_aload_n dX4_sideOf_0 rfl ?_
  refine wp_getR hN.r11p dX4_sideOf_1 fX4_21 hN.s11 ?_
  refine wp_iload_n dX4_sideOf_4 rfl ?_
  refine wp_iconst dX4_sideOf_5 ?_
  refine wp_callV (as := [_, _]) (ls0 := [_, _, _]) (kc := 0) (ks := 0) (bc' := 0) (bs' := 0) dX4_sideOf_6 vX4_44 hl.1 rfl rfl (Nat.le_of_ble_eq_true rfl) (Nat.le_of_ble_eq_true rfl) (by omega) (by omega) ?_
  refine n_itemOf (by omega) (by omega) (by omega) (hN.pl hl) ?_
  refine wp_iload_n dX4_sideOf_9 rfl ?_
  refine wp_icmp_ne (tgt := 23) dX4_sideOf_10 rfl (fun h10 => ?_) (fun h10 => ?_)
  · refine wp_aload_n dX4_sideOf_23 rfl ?_
    refine wp_getR hN.r11p dX4_sideOf_24 fX4_21 hN.s11 ?_
    refine wp_iload_n dX4_sideOf_27 rfl ?_
    refine wp_iconst dX4_sideOf_28 ?_
    refine wp_callV (as := [_, _]) (ls0 := [_, _, _]) (kc := 0) (ks := 0) (bc' := 0) (bs' := 0) dX4_sideOf_29 vX4_44 hl.1 rfl rfl (Nat.le_of_ble_eq_true rfl) (Nat.le_of_ble_eq_true rfl) (by omega) (by omega) ?_
    refine n_itemOf (by omega) (by omega) (by omega) (hN.pl hl) ?_
    refine wp_iload_n dX4_sideOf_32 rfl ?_
    refine wp_icmp_ne (tgt := 48) dX4_sideOf_33 rfl (fun h33 => ?_) (fun h33 => ?_)
    · refine wp_null dX4_sideOf_48 ?_
      refine wp_areturn dX4_sideOf_49 rfl ?_
      exact k2 h10 h33
    · refine wp_aload_n dX4_sideOf_36 rfl ?_
      refine wp_getR hN.r11l dX4_sideOf_37 fX4_17 hN.s11 ?_
      refine wp_iload_n dX4_sideOf_40 rfl ?_
      refine wp_aaldL dX4_sideOf_41 hN.s13 (by omega) (by omega) (hN.r13 hp) ?_
      refine wp_getR (hN.rlr hp) dX4_sideOf_42 fX4_74 (hN.sl hp) ?_
      refine wp_goto (tgt := 49) dX4_sideOf_45 rfl ?_
      refine wp_areturn dX4_sideOf_49 rfl ?_
      exact k1 h10 h33
  · refine wp_aload_n dX4_sideOf_13 rfl ?_
    refine wp_getR hN.r11l dX4_sideOf_14 fX4_17 hN.s11 ?_
    refine wp_iload_n dX4_sideOf_17 rfl ?_
    refine wp_aaldL dX4_sideOf_18 hN.s13 (by omega) (by omega) (hN.r13 hp) ?_
    refine wp_getR (hN.rls hp) dX4_sideOf_19 fX4_65 (hN.sl hp) ?_
    refine wp_areturn dX4_sideOf_22 rfl ?_
    exact k0 h10
theorem dbl_st {x y σ : Int} {g : Int → Int} (hg : ∀ s : Int, 0 ≤ g s) (hs : 0 ≤ σ ∧ σ < 16) (hx : Bts x (fun s => 0 < g s)) (hy : Bts y (fun s => 1 < g s)) : Bts (((x.toNat ||| (1 * 2 ^ σ.toNat : Int).toNat : Nat) : Int)) (fun s => 0 < g s + cn1 (σ = s)) ∧ Bts (((y.toNat ||| (((x.toNat &&& (1 * 2 ^ σ.toNat : Int).toNat : Nat) : Int)).toNat : Nat) : Int)) (fun s => 1 < g s + cn1 (σ = s)) := by
  have ho := Bts.one hs
  refine ⟨(hx.or ho).cg (fun s _ _ => ?_), (hy.or (hx.and ho)).cg (fun s _ _ => ?_)⟩
  · have := hg s
    by_cases e : σ = s
    · rw [cn1_t e]; constructor; (intro; omega); (intro; exact Or.inr e)
    · rw [cn1_f e]; constructor; (rintro (h | h); omega; exact absurd h e); (intro h; left; omega)
  · have := hg s
    by_cases e : σ = s
    · rw [cn1_t e]; constructor; (rintro (h | h); omega; (have := h.1; omega)); (intro h; right; exact ⟨by omega, e⟩)
    · rw [cn1_f e]; constructor; (rintro (h | h); omega; exact absurd h.2 e); (intro h; left; omega)
theorem l_dbl {nd q : Int} {si : Nat} {g : Int → Int} (hN : NtA sh rv iv b) (hP : Prm E F) (hA : SdA sh (CD iv b D O T S K C) rv si (12 + 42 * b) p q) (hp : 0 ≤ p ∧ p < 6) (hq : q = 0 ∨ q = 1) (hR : Rel w N) (hB : Bok (E 5 0) (E 5 1) N) (hg : ∀ s : Int, 0 ≤ g s) (k : ∀ (x y : Int) (v : Option aV), Bts x (fun s => 0 < g s + cntP (fun i => N (61 * p + (bq q + i)) / 10 = s) (N (61 * p + mq q)).toNat) → Bts y (fun s => 1 < g s + cntP (fun i => N (61 * p + (bq q + i)) / 10 = s) (N (61 * p + mq q)).toNat) → wp (d + 2) mX4_doubledAt 86 [some (aR (11 + 42 * b)), some (aI nd), some (aI x), some (aI y), some (aI p), some (aR si), some (aI (N (61 * p + mq q))), some (aI (N (61 * p + mq q))), v] [] sh (uA (CD iv b D O T S K C) (12 + 42 * b) w) lw rv 0 0 R) (m : Nat) : ∀ (i x y : Int) (v : Option aV), 0 ≤ i → i + m = N (61 * p + mq q) → Bts x (fun s => 0 < g s + cntP (fun i => N (61 * p + (bq q + i)) / 10 = s) i.toNat) → Bts y (fun s => 1 < g s + cntP (fun i => N (61 * p + (bq q + i)) / 10 = s) i.toNat) → wp (d + 2) mX4_doubledAt 47 [some (aR (11 + 42 * b)), some (aI nd), some (aI x), some (aI y), some (aI p), some (aR si), some (aI (N (61 * p + mq q))), some (aI i), v] [] sh (uA (CD iv b D O T S K C) (12 + 42 * b) w) lw rv 0 0 R := by
  obtain ⟨hW1, hW2, hO1, hO2, hT1, hT2, hI1, hI2, hF1, hF2⟩ := id hP
  have hmn := hB.mny hp hq
  induction m with
  | zero =>
    intro i x y v h0 hm hx hy
    have ei : i = N (61 * p + mq q) := by omega
    subst ei
    refine wp_iload dX4_doubledAt_47 rfl ?_
    refine wp_iload dX4_doubledAt_49 rfl ?_
    refine wp_icmp_ge (tgt := 86) dX4_doubledAt_51 rfl (fun h51 => ?_) (fun h51 => by exfalso; omega)
    exact k _ _ _ hx hy
  | succ m ih =>
    intro i x y v h0 hm hx hy
    have hv := hB.cel hp hq (show 0 ≤ i ∧ i < 6 by omega)
    have hv0 : 0 ≤ N (61 * p + (bq q + i)) / 10 ∧ N (61 * p + (bq q + i)) / 10 < 16 := by have := hv; unfold Vc at this; omega
    have hgs : ∀ s : Int, 0 ≤ g s + cntP (fun i => N (61 * p + (bq q + i)) / 10 = s) i.toNat := fun s => by have := hg s; have := (cntP_r (Q := (fun i => N (61 * p + (bq q + i)) / 10 = s)) i.toNat).1; omega
    have hst := dbl_st hgs hv0 hx hy
    have hon := Bts.one hv0
    have hx1 := hx.1
    have hy1 := hy.1
    refine wp_iload dX4_doubledAt_47 rfl ?_
    refine wp_iload dX4_doubledAt_49 rfl ?_
    refine wp_icmp_ge (tgt := 86) dX4_doubledAt_51 rfl (fun h51 => by exfalso; omega) (fun h51 => ?_)
    refine wp_iconst dX4_doubledAt_54 ?_
    refine wp_aload dX4_doubledAt_55 rfl ?_
    refine wp_iload dX4_doubledAt_57 rfl ?_
    refine wp_callV (as := [_]) (ls0 := [_, _]) (kc := 0) (ks := 0) (bc' := 0) (bs' := 0) dX4_doubledAt_59 vX4_84 hA.1 rfl rfl (Nat.le_of_ble_eq_true rfl) (Nat.le_of_ble_eq_true rfl) (by omega) (by omega) ?_
    refine c_numberAt hA hR hB ?_
    rw [if_pos (by omega)]
    refine wp_bipush dX4_doubledAt_62 ?_
    refine wp_idiv dX4_doubledAt_64 (by first | (have := hv; unfold Vc at this; omega) | decide) (by first | (have := hv; unfold Vc at this; omega) | decide) ?_
    refine wp_ishl dX4_doubledAt_65 (by omega) (by omega) (by exact ⟨by have := hon.1; omega, by have := hon.2.1; omega⟩) ?_
    refine wp_istore (ls' := [_, _, _, _, _, _, _, _, _]) dX4_doubledAt_66 (by decide) rfl rfl ?_
    refine wp_iload_n dX4_doubledAt_68 rfl ?_
    refine wp_iload_n dX4_doubledAt_69 rfl ?_
    refine wp_iload dX4_doubledAt_70 rfl ?_
    refine wp_iand dX4_doubledAt_72 (by first | exact hx1 | exact hon.1) (by first | exact hx1 | exact hon.1) ?_
    refine wp_ior dX4_doubledAt_73 (by first | exact hy1 | exact (hx.and hon).1) (by first | exact hy1 | exact (hx.and hon).1) ?_
    refine wp_istore_n (ls' := [_, _, _, _, _, _, _, _, _]) dX4_doubledAt_74 (by decide) rfl rfl ?_
    refine wp_iload_n dX4_doubledAt_75 rfl ?_
    refine wp_iload dX4_doubledAt_76 rfl ?_
    refine wp_ior dX4_doubledAt_78 (by first | exact hx1 | exact hon.1) (by first | exact hx1 | exact hon.1) ?_
    refine wp_istore_n (ls' := [_, _, _, _, _, _, _, _, _]) dX4_doubledAt_79 (by decide) rfl rfl ?_
    refine wp_iinc (ls' := [_, _, _, _, _, _, _, _, _]) dX4_doubledAt_80 (by decide) rfl rfl ⟨by omega, by omega⟩ rfl ?_
    refine wp_goto (tgt := 47) dX4_doubledAt_83 rfl ?_
    exact ih _ _ _ _ (by omega) (by omega) (hst.1.cg (fun s _ _ => by rw [toN1 h0, cntP, toNI h0]; show _ ↔ 0 < g s + (_ + cn1 _); rw [Int.add_assoc])) (hst.2.cg (fun s _ _ => by rw [toN1 h0, cntP, toNI h0]; show _ ↔ 1 < g s + (_ + cn1 _); rw [Int.add_assoc]))
theorem l_dblO {nd : Int} (hN : NtA sh rv iv b) (hl : PlA sh rv iv E F) (hP : Prm E F) (hne : ∀ a : Int, 0 ≤ a → a < F 13 → ¬ E 6 (4 * a + 0) = E 6 (4 * a + 1)) (hR : Rel w N) (hB : Bok (E 5 0) (E 5 1) N) (k : ∀ y : Int, Bts y (fun s => 1 < ctA N (E 6) nd s (F 13).toNat) → R (some (aI y)) sh (uA (CD iv b D O T S K C) (12 + 42 * b) w) lw rv) (m : Nat) : ∀ (p x y : Int) (v5 v6 v7 v8 : Option aV), 0 ≤ p → p + m = F 13 → Bts x (fun s => 0 < ctA N (E 6) nd s p.toNat) → Bts y (fun s => 1 < ctA N (E 6) nd s p.toNat) → wp (d + 2) mX4_doubledAt 7 [some (aR (11 + 42 * b)), some (aI nd), some (aI x), some (aI y), some (aI p), v5, v6, v7, v8] [] sh (uA (CD iv b D O T S K C) (12 + 42 * b) w) lw rv 0 0 R := by
  obtain ⟨hW1, hW2, hO1, hO2, hT1, hT2, hI1, hI2, hF1, hF2⟩ := id hP
  induction m with
  | zero =>
    intro p x y v5 v6 v7 v8 h0 hm hx hy
    have ep : p = F 13 := by omega
    refine wp_iload dX4_doubledAt_7 rfl ?_
    refine wp_aload_n dX4_doubledAt_9 rfl ?_
    refine wp_getR hN.r11p dX4_doubledAt_10 fX4_21 hN.s11 ?_
    refine wp_callV (as := []) (ls0 := [_]) (kc := 0) (ks := 0) (bc' := 0) (bs' := 0) dX4_doubledAt_13 vX4_40 hl.1 rfl rfl (Nat.le_of_ble_eq_true rfl) (Nat.le_of_ble_eq_true rfl) (by omega) (by omega) ?_
    refine n_pairs (hN.pl hl) ?_
    refine wp_icmp_ge (tgt := 92) dX4_doubledAt_16 rfl (fun h16 => ?_) (fun h16 => by exfalso; omega)
    refine wp_iload_n dX4_doubledAt_92 rfl ?_
    refine wp_ireturn dX4_doubledAt_93 rfl ?_
    rw [ep] at hy
    exact k _ hy
  | succ m ih =>
    intro p x y v5 v6 v7 v8 h0 hm hx hy
    have hp : 0 ≤ p ∧ p < 6 := by omega
    have hpF : p < F 13 := by omega
    have hn1 := hne p h0 hpF
    by_cases c0 : E 6 (4 * p + 0) = nd
    · have c1 : ¬ E 6 (4 * p + 1) = nd := fun z => hn1 (c0.trans z.symm)
      refine wp_iload dX4_doubledAt_7 rfl ?_
      refine wp_aload_n dX4_doubledAt_9 rfl ?_
      refine wp_getR hN.r11p dX4_doubledAt_10 fX4_21 hN.s11 ?_
      refine wp_callV (as := []) (ls0 := [_]) (kc := 0) (ks := 0) (bc' := 0) (bs' := 0) dX4_doubledAt_13 vX4_40 hl.1 rfl rfl (Nat.le_of_ble_eq_true rfl) (Nat.le_of_ble_eq_true rfl) (by omega) (by omega) ?_
      refine n_pairs (hN.pl hl) ?_
      refine wp_icmp_ge (tgt := 92) dX4_doubledAt_16 rfl (fun h16 => by exfalso; omega) (fun h16 => ?_)
      refine wp_aload_n dX4_doubledAt_19 rfl ?_
      refine wp_iload dX4_doubledAt_20 rfl ?_
      refine wp_iload_n dX4_doubledAt_22 rfl ?_
      refine wp_callV (as := [_, _]) (ls0 := [_, _, _]) (kc := 0) (ks := 0) (bc' := 0) (bs' := 0) dX4_doubledAt_23 vX4_77 hN.s11 rfl rfl (Nat.le_of_ble_eq_true rfl) (Nat.le_of_ble_eq_true rfl) (by omega) (by omega) ?_
      refine x_sideOf hN hl hP hp hpF (fun _ => ?_) (fun z => absurd c0 z) (fun z => absurd c0 z)
      refine wp_astore (ls' := [_, _, _, _, _, _, _, _, _]) dX4_doubledAt_26 (by decide) rfl rfl ?_
      refine wp_aload dX4_doubledAt_28 rfl ?_
      refine wp_ifnonnull (tgt := 37) dX4_doubledAt_30 rfl ?_
      refine wp_aload dX4_doubledAt_37 rfl ?_
      refine wp_callV (as := []) (ls0 := [_]) (kc := 0) (ks := 0) (bc' := 0) (bs' := 0) dX4_doubledAt_39 vX4_81 (hN.ss hp) rfl rfl (Nat.le_of_ble_eq_true rfl) (Nat.le_of_ble_eq_true rfl) (by omega) (by omega) ?_
      refine c_size (hN.lk hp).sS hR ?_
      refine wp_istore (ls' := [_, _, _, _, _, _, _, _, _]) dX4_doubledAt_42 (by decide) rfl rfl ?_
      refine wp_iconst dX4_doubledAt_44 ?_
      refine wp_istore (ls' := [_, _, _, _, _, _, _, _, _]) dX4_doubledAt_45 (by decide) rfl rfl ?_
      refine l_dbl (g := fun s => ctA N (E 6) nd s p.toNat) hN hP (hN.lk hp).sS hp (Or.inl rfl) hR hB (fun s => (ctA_r hB p.toNat (by omega)).1) (fun x y v hx hy => ?_) (N (61 * p + mq 0)).toNat 0 _ _ _ (by omega) (by have := hB.mny hp (Or.inl rfl : (0 : Int) = 0 ∨ (0 : Int) = 1); omega) (hx.cg (fun s _ _ => by rw [show (0 : Int).toNat = 0 from rfl, cntP, Int.add_zero])) (hy.cg (fun s _ _ => by rw [show (0 : Int).toNat = 0 from rfl, cntP, Int.add_zero]))
      refine wp_iinc (ls' := [_, _, _, _, _, _, _, _, _]) dX4_doubledAt_86 (by decide) rfl rfl ⟨by omega, by omega⟩ rfl ?_
      refine wp_goto (tgt := 7) dX4_doubledAt_89 rfl ?_
      have es : ∀ s : Int, ctA N (E 6) nd s (p + 1).toNat = ctA N (E 6) nd s p.toNat + cntP (fun i => N (61 * p + (bq 0 + i)) / 10 = s) (N (61 * p + mq 0)).toNat := fun s => by rw [toN1 h0, ctA, toNI h0]; unfold ctS; rw [if_pos c0, if_neg c1]; omega
      exact ih _ _ _ _ _ _ _ (by omega) (by omega) (hx.cg (fun s _ _ => by rw [es])) (hy.cg (fun s _ _ => by rw [es]))
    · by_cases c1 : E 6 (4 * p + 1) = nd
      · have h00 := h0
        refine wp_iload dX4_doubledAt_7 rfl ?_
        refine wp_aload_n dX4_doubledAt_9 rfl ?_
        refine wp_getR hN.r11p dX4_doubledAt_10 fX4_21 hN.s11 ?_
        refine wp_callV (as := []) (ls0 := [_]) (kc := 0) (ks := 0) (bc' := 0) (bs' := 0) dX4_doubledAt_13 vX4_40 hl.1 rfl rfl (Nat.le_of_ble_eq_true rfl) (Nat.le_of_ble_eq_true rfl) (by omega) (by omega) ?_
        refine n_pairs (hN.pl hl) ?_
        refine wp_icmp_ge (tgt := 92) dX4_doubledAt_16 rfl (fun h16 => by exfalso; omega) (fun h16 => ?_)
        refine wp_aload_n dX4_doubledAt_19 rfl ?_
        refine wp_iload dX4_doubledAt_20 rfl ?_
        refine wp_iload_n dX4_doubledAt_22 rfl ?_
        refine wp_callV (as := [_, _]) (ls0 := [_, _, _]) (kc := 0) (ks := 0) (bc' := 0) (bs' := 0) dX4_doubledAt_23 vX4_77 hN.s11 rfl rfl (Nat.le_of_ble_eq_true rfl) (Nat.le_of_ble_eq_true rfl) (by omega) (by omega) ?_
        refine x_sideOf hN hl hP hp hpF (fun z => absurd z c0) (fun _ _ => ?_) (fun _ z => absurd c1 z)
        refine wp_astore (ls' := [_, _, _, _, _, _, _, _, _]) dX4_doubledAt_26 (by decide) rfl rfl ?_
        refine wp_aload dX4_doubledAt_28 rfl ?_
        refine wp_ifnonnull (tgt := 37) dX4_doubledAt_30 rfl ?_
        refine wp_aload dX4_doubledAt_37 rfl ?_
        refine wp_callV (as := []) (ls0 := [_]) (kc := 0) (ks := 0) (bc' := 0) (bs' := 0) dX4_doubledAt_39 vX4_81 (hN.sr hp) rfl rfl (Nat.le_of_ble_eq_true rfl) (Nat.le_of_ble_eq_true rfl) (by omega) (by omega) ?_
        refine c_size (hN.lk hp).sR hR ?_
        refine wp_istore (ls' := [_, _, _, _, _, _, _, _, _]) dX4_doubledAt_42 (by decide) rfl rfl ?_
        refine wp_iconst dX4_doubledAt_44 ?_
        refine wp_istore (ls' := [_, _, _, _, _, _, _, _, _]) dX4_doubledAt_45 (by decide) rfl rfl ?_
        refine l_dbl (g := fun s => ctA N (E 6) nd s p.toNat) hN hP (hN.lk hp).sR hp (Or.inr rfl) hR hB (fun s => (ctA_r hB p.toNat (by omega)).1) (fun x y v hx hy => ?_) (N (61 * p + mq 1)).toNat 0 _ _ _ (by omega) (by have := hB.mny hp (Or.inr rfl : (1 : Int) = 0 ∨ (1 : Int) = 1); omega) (hx.cg (fun s _ _ => by rw [show (0 : Int).toNat = 0 from rfl, cntP, Int.add_zero])) (hy.cg (fun s _ _ => by rw [show (0 : Int).toNat = 0 from rfl, cntP, Int.add_zero]))
        refine wp_iinc (ls' := [_, _, _, _, _, _, _, _, _]) dX4_doubledAt_86 (by decide) rfl rfl ⟨by omega, by omega⟩ rfl ?_
        refine wp_goto (tgt := 7) dX4_doubledAt_89 rfl ?_
        have es : ∀ s : Int, ctA N (E 6) nd s (p + 1).toNat = ctA N (E 6) nd s p.toNat + cntP (fun i => N (61 * p + (bq 1 + i)) / 10 = s) (N (61 * p + mq 1)).toNat := fun s => by rw [toN1 h0, ctA, toNI h0]; unfold ctS; rw [if_neg c0, if_pos c1]; omega
        exact ih _ _ _ _ _ _ _ (by omega) (by omega) (hx.cg (fun s _ _ => by rw [es])) (hy.cg (fun s _ _ => by rw [es]))
      · have h00 := h0
        refine wp_iload dX4_doubledAt_7 rfl ?_
        refine wp_aload_n dX4_doubledAt_9 rfl ?_
        refine wp_getR hN.r11p dX4_doubledAt_10 fX4_21 hN.s11 ?_
        refine wp_callV (as := []) (ls0 := [_]) (kc := 0) (ks := 0) (bc' := 0) (bs' := 0) dX4_doubledAt_13 vX4_40 hl.1 rfl rfl (Nat.le_of_ble_eq_true rfl) (Nat.le_of_ble_eq_true rfl) (by omega) (by omega) ?_
        refine n_pairs (hN.pl hl) ?_
        refine wp_icmp_ge (tgt := 92) dX4_doubledAt_16 rfl (fun h16 => by exfalso; omega) (fun h16 => ?_)
        refine wp_aload_n dX4_doubledAt_19 rfl ?_
        refine wp_iload dX4_doubledAt_20 rfl ?_
        refine wp_iload_n dX4_doubledAt_22 rfl ?_
        refine wp_callV (as := [_, _]) (ls0 := [_, _, _]) (kc := 0) (ks := 0) (bc' := 0) (bs' := 0) dX4_doubledAt_23 vX4_77 hN.s11 rfl rfl (Nat.le_of_ble_eq_true rfl) (Nat.le_of_ble_eq_true rfl) (by omega) (by omega) ?_
        refine x_sideOf hN hl hP hp hpF (fun z => absurd z c0) (fun _ z => absurd z c1) (fun _ _ => ?_)
        refine wp_astore (ls' := [_, _, _, _, _, _, _, _, _]) dX4_doubledAt_26 (by decide) rfl rfl ?_
        refine wp_aload dX4_doubledAt_28 rfl ?_
        refine wp_ifnonnullN dX4_doubledAt_30 ?_
        refine wp_iconst dX4_doubledAt_33 ?_
        refine wp_goto (tgt := 42) dX4_doubledAt_34 rfl ?_
        refine wp_istore (ls' := [_, _, _, _, _, _, _, _, _]) dX4_doubledAt_42 (by decide) rfl rfl ?_
        refine wp_iconst dX4_doubledAt_44 ?_
        refine wp_istore (ls' := [_, _, _, _, _, _, _, _, _]) dX4_doubledAt_45 (by decide) rfl rfl ?_
        refine wp_iload dX4_doubledAt_47 rfl ?_
        refine wp_iload dX4_doubledAt_49 rfl ?_
        refine wp_icmp_ge (tgt := 86) dX4_doubledAt_51 rfl (fun _ => ?_) (fun z => absurd z (by decide))
        refine wp_iinc (ls' := [_, _, _, _, _, _, _, _, _]) dX4_doubledAt_86 (by decide) rfl rfl ⟨by omega, by omega⟩ rfl ?_
        refine wp_goto (tgt := 7) dX4_doubledAt_89 rfl ?_
        have es : ∀ s : Int, ctA N (E 6) nd s (p + 1).toNat = ctA N (E 6) nd s p.toNat := fun s => by rw [toN1 h0, ctA, toNI h0]; unfold ctS; rw [if_neg c0, if_neg c1]; omega
        exact ih _ _ _ _ _ _ _ (by omega) (by omega) (hx.cg (fun s _ _ => by rw [es])) (hy.cg (fun s _ _ => by rw [es]))
theorem x_doubledAt {nd : Int} (hN : NtA sh rv iv b) (hl : PlA sh rv iv E F) (hP : Prm E F) (hne : ∀ a : Int, 0 ≤ a → a < F 13 → ¬ E 6 (4 * a + 0) = E 6 (4 * a + 1)) (hR : Rel w N) (hB : Bok (E 5 0) (E 5 1) N) (k : ∀ y : Int, Bts y (fun s => 1 < ctA N (E 6) nd s (F 13).toNat) → R (some (aI y)) sh (uA (CD iv b D O T S K C) (12 + 42 * b) w) lw rv) : wp (d + 2) mX4_doubledAt 0 [some (aR (11 + 42 * b)), some (aI nd), none, none, none, none, none, none, none] [] sh (uA (CD iv b D O T S K C) (12 + 42 * b) w) lw rv 0 0 R := by
  obtain ⟨hW1, hW2, hO1, hO2, hT1, hT2, hI1, hI2, hF1, hF2⟩ := id hP
  refine wp_iconst dX4_doubledAt_0 ?_
  refine wp_istore_n (ls' := [_, _, _, _, _, _, _, _, _]) dX4_doubledAt_1 (by decide) rfl rfl ?_
  refine wp_iconst dX4_doubledAt_2 ?_
  refine wp_istore_n (ls' := [_, _, _, _, _, _, _, _, _]) dX4_doubledAt_3 (by decide) rfl rfl ?_
  refine wp_iconst dX4_doubledAt_4 ?_
  refine wp_istore (ls' := [_, _, _, _, _, _, _, _, _]) dX4_doubledAt_5 (by decide) rfl rfl ?_
  exact l_dblO hN hl hP hne hR hB k (F 13).toNat 0 0 0 _ _ _ _ (by omega) (by omega) (Bts.zero.cg (fun s _ _ => ⟨False.elim, fun h => absurd h (by rw [show (0 : Int).toNat = 0 from rfl, ctA]; omega)⟩)) (Bts.zero.cg (fun s _ _ => ⟨False.elim, fun h => absurd h (by rw [show (0 : Int).toNat = 0 from rfl, ctA]; omega)⟩))
theorem l_fill {i n : Nat} {iv : aF} {v : Int} (hs : sh[i]? = some (0, n)) (hn : n ≤ 100000) (k : ∀ f : Int → Int, (∀ j : Int, 0 ≤ j → j < n → f j = v) → R none sh (uA iv i f) lw rv) (m : Nat) : ∀ (j : Int) (f : Int → Int), 0 ≤ j → j + m = n → (∀ x : Int, 0 ≤ x → x < j → f x = v) → wp d mJ7_fill_53178 5 [some (aR i), some (aI v), some (aI j), some (aI n)] [] sh (uA iv i f) lw rv 0 0 R := by
  induction m with
  | zero =>
    intro j f h0 hm hf
    refine wp_iload_n dJ7_fill_53178_5 rfl ?_
    refine wp_iload_n dJ7_fill_53178_6 rfl ?_
    refine wp_icmp_ge (tgt := 20) dJ7_fill_53178_7 rfl (fun h7 => ?_) (fun h7 => by exfalso; omega)
    refine wp_return dJ7_fill_53178_20 rfl ?_
    exact k _ (fun x a b => hf x a (by omega))
  | succ m ih =>
    intro j f h0 hm hf
    refine wp_iload_n dJ7_fill_53178_5 rfl ?_
    refine wp_iload_n dJ7_fill_53178_6 rfl ?_
    refine wp_icmp_ge (tgt := 20) dJ7_fill_53178_7 rfl (fun h7 => by exfalso; omega) (fun h7 => ?_)
    refine wp_aload_n dJ7_fill_53178_10 rfl ?_
    refine wp_iload_n dJ7_fill_53178_11 rfl ?_
    refine wp_iload_n dJ7_fill_53178_12 rfl ?_
    refine wp_iast dJ7_fill_53178_13 hs (by omega) (by omega) ?_
    refine wp_iinc (ls' := [_, _, _, _]) dJ7_fill_53178_14 (by decide) rfl rfl ⟨by omega, by omega⟩ rfl ?_
    refine wp_goto (tgt := 5) dJ7_fill_53178_17 rfl ?_
    rw [uI_eq, uA_s, uA_uA]
    refine ih _ _ (by omega) (by omega) (fun x a b => ?_)
    unfold up
    split
    · rfl
    · exact hf x a (by omega)
theorem u_fill {i n : Nat} {iv : aF} {v : Int} (hs : sh[i]? = some (0, n)) (hn : n ≤ 100000) (k : ∀ f : Int → Int, (∀ j : Int, 0 ≤ j → j < n → f j = v) → R none sh (uA iv i f) lw rv) : wp d mJ7_fill_53178 0 [some (aR i), some (aI v), none, none] [] sh iv lw rv 0 0 R := by
  refine wp_iconst dJ7_fill_53178_0 ?_
  refine wp_istore_n (ls' := [_, _, _, _]) dJ7_fill_53178_1 (by decide) rfl rfl ?_
  refine wp_aload_n dJ7_fill_53178_2 rfl ?_
  refine wp_alen dJ7_fill_53178_3 hs rfl ⟨by omega, by omega⟩ ?_
  refine wp_istore_n (ls' := [_, _, _, _]) dJ7_fill_53178_4 (by decide) rfl rfl ?_
  rw [show iv = uA iv i (iv i) by rw [uA_id]]
  exact l_fill hs hn k n 0 (iv i) (by omega) (by omega) (fun x a b => by omega)
theorem ldL_up {pa : Int → Int} {v : Int} (m : Nat) : ∀ (p : Int) (N : Int → Int), 0 ≤ p → p + m ≤ 6 → ldL pa m p (up N 367 v) = up (ldL pa m p N) 367 v := by
  induction m with
  | zero => intro p N _ _; rfl
  | succ m ih => intro p N h0 hm; rw [ldL, ldL, up_comm (show ¬ (367 : Int) = 61 * p + 58 by omega)]; exact ih _ _ (by omega) (by omega)
theorem Rel.z {f N : Int → Int} (h : ∀ j : Int, 0 ≤ j → j < 429 → f j = 0) : Rel f (cpR N (fun _ => 0) 0 550) := by
  have e : ∀ j : Int, 0 ≤ j → j < 550 → cpR N (fun _ => 0) 0 550 j = 0 := fun j a b => by unfold cpR; rw [if_pos ⟨a, b⟩]
  refine ⟨fun p k h1 h2 h3 => ?_, ?_, ?_, ?_⟩
  · have hc : 0 ≤ 3 + 71 * p + cmk k ∧ 3 + 71 * p + cmk k < 429 := by
      have := cmk_r h3; omega
    have hk : 0 ≤ k ∧ k < 61 := by unfold vis at h3; omega
    rw [h _ hc.1 hc.2, e _ (by omega) (by omega)]
  · rw [h 0 (by omega) (by omega), e _ (by omega) (by omega)]
  · rw [h 1 (by omega) (by omega), e _ (by omega) (by omega)]
  · rw [h 2 (by omega) (by omega), e _ (by omega) (by omega)]
theorem l_anew (hN : NtA sh rv iv b) (hl : PlA sh rv iv E F) (hP : Prm E F) (m : Nat) : ∀ (p : Int) (w N : Int → Int), 0 ≤ p → p + m = F 13 → Rel w N → (∀ w', Rel w' (ldL (E 6) m p N) → R none sh (uA (CD iv b D O T S K C) (12 + 42 * b) w') lw rv) → wp (d + 2) mX4_startAnew 24 [some (aR (11 + 42 * b)), some (aI p)] [] sh (uA (CD iv b D O T S K C) (12 + 42 * b) w) lw rv 0 0 R := by
  obtain ⟨hW1, hW2, hO1, hO2, hT1, hT2, hI1, hI2, hF1, hF2⟩ := id hP
  induction m with
  | zero =>
    intro p w N h0 hm hR k
    refine wp_iload_n dX4_startAnew_24 rfl ?_
    refine wp_aload_n dX4_startAnew_25 rfl ?_
    refine wp_getR hN.r11p dX4_startAnew_26 fX4_21 hN.s11 ?_
    refine wp_callV (as := []) (ls0 := [_]) (kc := 0) (ks := 0) (bc' := 0) (bs' := 0) dX4_startAnew_29 vX4_40 hl.1 rfl rfl (Nat.le_of_ble_eq_true rfl) (Nat.le_of_ble_eq_true rfl) (by omega) (by omega) ?_
    refine n_pairs (hN.pl hl) ?_
    refine wp_icmp_ge (tgt := 59) dX4_startAnew_32 rfl (fun h32 => ?_) (fun h32 => by exfalso; omega)
    refine wp_return dX4_startAnew_59 rfl ?_
    exact k _ hR
  | succ m ih =>
    intro p w N h0 hm hR k
    have hp : 0 ≤ p ∧ p < 6 := by omega
    have hpF : p < F 13 := by omega
    refine wp_iload_n dX4_startAnew_24 rfl ?_
    refine wp_aload_n dX4_startAnew_25 rfl ?_
    refine wp_getR hN.r11p dX4_startAnew_26 fX4_21 hN.s11 ?_
    refine wp_callV (as := []) (ls0 := [_]) (kc := 0) (ks := 0) (bc' := 0) (bs' := 0) dX4_startAnew_29 vX4_40 hl.1 rfl rfl (Nat.le_of_ble_eq_true rfl) (Nat.le_of_ble_eq_true rfl) (by omega) (by omega) ?_
    refine n_pairs (hN.pl hl) ?_
    refine wp_icmp_ge (tgt := 59) dX4_startAnew_32 rfl (fun h32 => by exfalso; omega) (fun h32 => ?_)
    refine wp_aload_n dX4_startAnew_35 rfl ?_
    refine wp_getR hN.r11l dX4_startAnew_36 fX4_17 hN.s11 ?_
    refine wp_iload_n dX4_startAnew_39 rfl ?_
    refine wp_aaldL dX4_startAnew_40 hN.s13 (by omega) (by omega) (hN.r13 hp) ?_
    refine wp_aload_n dX4_startAnew_41 rfl ?_
    refine wp_getR hN.r11p dX4_startAnew_42 fX4_21 hN.s11 ?_
    refine wp_iload_n dX4_startAnew_45 rfl ?_
    refine wp_iconst dX4_startAnew_46 ?_
    refine wp_callV (as := [_, _]) (ls0 := [_, _, _]) (kc := 0) (ks := 0) (bc' := 0) (bs' := 0) dX4_startAnew_47 vX4_44 hl.1 rfl rfl (Nat.le_of_ble_eq_true rfl) (Nat.le_of_ble_eq_true rfl) (by omega) (by omega) ?_
    refine n_itemOf (by omega) (by omega) (by omega) (hN.pl hl) ?_
    refine wp_callV (as := [_]) (ls0 := [_, _]) (kc := 0) (ks := 0) (bc' := 0) (bs' := 0) dX4_startAnew_50 vX4_48 (hN.sl hp) rfl rfl (Nat.le_of_ble_eq_true rfl) (Nat.le_of_ble_eq_true rfl) (by omega) (by omega) ?_
    refine k_setLoad (hN.lk hp) hR (fun w hR => ?_)
    refine wp_iinc (ls' := [_, _]) dX4_startAnew_53 (by decide) rfl rfl ⟨by omega, by omega⟩ rfl ?_
    refine wp_goto (tgt := 24) dX4_startAnew_56 rfl ?_
    exact ih _ _ _ (by omega) (by omega) hR k
theorem x_startAnew {M : Int → Int} (hN : NtA sh rv iv b) (hl : PlA sh rv iv E F) (hP : Prm E F) (k : ∀ w', Rel w' (tmN (E 6) (F 13) (E 5 4) M) → R none sh (uA (CD iv b D O T S K C) (12 + 42 * b) w') lw rv) : wp (d + 2) mX4_startAnew 0 [some (aR (11 + 42 * b)), none] [] sh (uA (CD iv b D O T S K C) (12 + 42 * b) w) lw rv 0 0 R := by
  obtain ⟨hW1, hW2, hO1, hO2, hT1, hT2, hI1, hI2, hF1, hF2⟩ := id hP
  refine wp_aload_n dX4_startAnew_0 rfl ?_
  refine wp_getR hN.r11w dX4_startAnew_1 fX4_13 hN.s11 ?_
  refine wp_iconst dX4_startAnew_4 ?_
  refine wp_callS (as := [_, _]) (ls0 := [_, _, _, _]) (kc := 0) (ks := 0) (bc' := 0) (bs' := 0) dX4_startAnew_5 vX4_28 rfl rfl (Nat.le_of_ble_eq_true rfl) (Nat.le_of_ble_eq_true rfl) (by omega) (by omega) ?_
  refine u_fill hN.s12 (by decide) (fun f hf => ?_)
  rw [uA_uA]
  refine wp_aload_n dX4_startAnew_8 rfl ?_
  refine wp_getR hN.r11w dX4_startAnew_9 fX4_13 hN.s11 ?_
  refine wp_iconst dX4_startAnew_12 ?_
  refine wp_aload_n dX4_startAnew_13 rfl ?_
  refine wp_getR hN.r11p dX4_startAnew_14 fX4_21 hN.s11 ?_
  refine wp_iconst dX4_startAnew_17 ?_
  refine wp_callV (as := [_]) (ls0 := [_, _]) (kc := 0) (ks := 0) (bc' := 0) (bs' := 0) dX4_startAnew_18 vX4_36 hl.1 rfl rfl (Nat.le_of_ble_eq_true rfl) (Nat.le_of_ble_eq_true rfl) (by omega) (by omega) ?_
  refine n_ruleOf (hN.pl hl) ?_
  rw [if_pos (by omega)]
  refine wp_iast dX4_startAnew_21 hN.s12 (by omega) (by omega) ?_
  rw [CSuw]
  refine wp_iconst dX4_startAnew_22 ?_
  refine wp_istore_n (ls' := [_, _]) dX4_startAnew_23 (by decide) rfl rfl ?_
  exact l_anew hN hl hP (F 13).toNat 0 _ _ (by omega) (by omega) (Rel.z (N := M) hf).u1 (fun w' hw => k w' (by unfold tmN; rw [← ldL_up _ _ _ (by omega) (by omega)]; exact hw))
end C26
