section R23
variable {d : Nat} {iv lw : aF} {F N G O T S K : Int → Int} {R : aPost}
theorem hm2_q {E E' : aF} {F F' : Int → Int} {k : Int} (h : EqP E E' F F') (m : Nat) : ∀ (p : Int) (r : Int × Int), hm2 E' F' N k m p r = hm2 E F N k m p r := by
  induction m with
  | zero => intro p r; rfl
  | succ m ih => intro p r; rw [hm2, hm2, ih, hmV_q h]
theorem hm1_q {E E' : aF} {F F' : Int → Int} (h : EqP E E' F F') (m : Nat) : ∀ (k : Int) (r : Int × Int), hm1 E' F' N m k r = hm1 E F N m k r := by
  induction m with
  | zero => intro k r; rfl
  | succ m ih => intro k r; rw [hm1, hm1, ih, hm2_q h, h.2.2.2.1]
def aHarmR (F : Int → Int) (n w : Int) : Prop := F 13 = 0 ∨ ¬ (1 ≤ n ∧ n ≤ 6) ∨ ¬ (0 ≤ w ∧ w ≤ 1)
noncomputable def aHarm (iv : aF) (F N : Int → Int) (n w : Int) : Int := if F 13 = 0 then -1 else if ¬ (1 ≤ n ∧ n ≤ 6) then -1 else if ¬ (0 ≤ w ∧ w ≤ 1) then -1 else if w = 0 then (hm1 iv F N n.toNat 0 (-1, -1)).1 else (hm1 iv F N n.toNat 0 (-1, -1)).2
theorem l_hm2 {n w q : Int} (hq : 0 ≤ q ∧ q < 6) (m : Nat) : ∀ (p : Int) (r : Int × Int) (v7 : Option aV) (iv : aF) (F G O T S : Int → Int), 0 ≤ p → p + m = F 13 → Prm iv F → Prm2 iv F → Inv iv F N → N 368 ≤ 13000 → (∀ (E' : aF) (F' G' O' T' S' : Int → Int) (v6 v7 : Option aV), EqE iv E' → EqF F F' → wp (d + 10) mX12_harm 90 [some (aR 0), some (aI n), some (aI w), some (aI (hm2 iv F N q m p r).1), some (aI (hm2 iv F N q m p r).2), some (aI q), v6, v7] [] SHR (ST E' F' N G' O' T' S') lw RVR 0 0 R) → wp (d + 10) mX12_harm 45 [some (aR 0), some (aI n), some (aI w), some (aI r.1), some (aI r.2), some (aI q), some (aI p), v7] [] SHR (ST iv F N G O T S) lw RVR 0 0 R := by
  induction m with
  | zero =>
    intro p r v7 iv F G O T S h0 hm hP hP2 hI hf k
    refine wp_iload dX12_harm_45 rfl ?_
    refine wp_aload_n dX12_harm_47 rfl ?_
    refine wp_getI dX12_harm_48 fX12_138 rfl ?_
    try simp only [ST0, ST5, ST6, ST7, ST8, ST10, ST11, ST12, ST13]
    refine wp_icmp_ge (tgt := 90) dX12_harm_51 rfl (fun h51 => ?_) (fun h51 => by exfalso; omega)
    exact k iv F G O T S _ _ EqE.rf EqF.rf
  | succ m ih =>
    intro p r v7 iv F G O T S h0 hm hP hP2 hI hf k
    have hF6 : F 13 ≤ 6 := hP.2.2.2.2.2.2.2.2.2
    rw [hm2] at k
    refine wp_iload dX12_harm_45 rfl ?_
    refine wp_aload_n dX12_harm_47 rfl ?_
    refine wp_getI dX12_harm_48 fX12_138 rfl ?_
    try simp only [ST0, ST5, ST6, ST7, ST8, ST10, ST11, ST12, ST13]
    refine wp_icmp_ge (tgt := 90) dX12_harm_51 rfl (fun h51 => by exfalso; omega) (fun h51 => ?_)
    refine wp_aload_n dX12_harm_54 rfl ?_
    refine wp_iload dX12_harm_55 rfl ?_
    refine wp_iload dX12_harm_57 rfl ?_
    refine wp_callV (as := [_, _]) (ls0 := [_, _, _, _, _, _]) (kc := 0) (ks := 0) (bc' := 0) (bs' := 0) dX12_harm_59 vX12_363 rfl rfl rfl (Nat.le_of_ble_eq_true rfl) (Nat.le_of_ble_eq_true rfl) (by omega) (by omega) ?_
    refine s_harmOf (by omega) (by omega) hP hP2 hI hf (fun E' F' G' O' T' S' e1 e2 => ?_)
    have qq := e1.p e2
    refine wp_istore (ls' := [_, _, _, _, _, _, _, _]) dX12_harm_62 (by decide) rfl rfl ?_
    refine wp_iload dX12_harm_64 rfl ?_
    refine wp_iload dX12_harm_66 rfl ?_
    refine wp_icmp_le (tgt := 84) dX12_harm_68 rfl (fun h68 => ?_) (fun h68 => ?_)
    · rw [if_neg (by omega)] at k
      refine wp_iinc (ls' := [_, _, _, _, _, _, _, _]) dX12_harm_84 (by decide) rfl rfl ⟨by omega, by omega⟩ rfl ?_
      refine wp_goto (tgt := 45) dX12_harm_87 rfl ?_
      first
      | refine ih (p + 1) (10 * q + p, hmV iv F N q p) _ _ _ _ _ _ _ (by omega) (by rw [qq.2.2.2.1]; omega) (Prm_q qq hP) (Prm2_q qq hP2) (Inv_q qq hI) hf (fun E2 F2 G2 O2 T2 S2 v6 v7 g1 g2 => ?_)
      | refine ih (p + 1) r _ _ _ _ _ _ _ (by omega) (by rw [qq.2.2.2.1]; omega) (Prm_q qq hP) (Prm2_q qq hP2) (Inv_q qq hI) hf (fun E2 F2 G2 O2 T2 S2 v6 v7 g1 g2 => ?_)
      rw [hm2_q qq]
      exact k E2 F2 G2 O2 T2 S2 v6 v7 (e1.tr g1) (e2.tr g2)
    · rw [if_pos (by omega)] at k
      refine wp_bipush dX12_harm_71 ?_
      refine wp_iload dX12_harm_73 rfl ?_
      refine wp_imul dX12_harm_75 ⟨by omega, by omega⟩ ?_
      refine wp_iload dX12_harm_76 rfl ?_
      refine wp_iadd dX12_harm_78 ⟨by omega, by omega⟩ ?_
      refine wp_istore_n (ls' := [_, _, _, _, _, _, _, _]) dX12_harm_79 (by decide) rfl rfl ?_
      refine wp_iload dX12_harm_80 rfl ?_
      refine wp_istore (ls' := [_, _, _, _, _, _, _, _]) dX12_harm_82 (by decide) rfl rfl ?_
      refine wp_iinc (ls' := [_, _, _, _, _, _, _, _]) dX12_harm_84 (by decide) rfl rfl ⟨by omega, by omega⟩ rfl ?_
      refine wp_goto (tgt := 45) dX12_harm_87 rfl ?_
      first
      | refine ih (p + 1) (10 * q + p, hmV iv F N q p) _ _ _ _ _ _ _ (by omega) (by rw [qq.2.2.2.1]; omega) (Prm_q qq hP) (Prm2_q qq hP2) (Inv_q qq hI) hf (fun E2 F2 G2 O2 T2 S2 v6 v7 g1 g2 => ?_)
      | refine ih (p + 1) r _ _ _ _ _ _ _ (by omega) (by rw [qq.2.2.2.1]; omega) (Prm_q qq hP) (Prm2_q qq hP2) (Inv_q qq hI) hf (fun E2 F2 G2 O2 T2 S2 v6 v7 g1 g2 => ?_)
      rw [hm2_q qq]
      exact k E2 F2 G2 O2 T2 S2 v6 v7 (e1.tr g1) (e2.tr g2)
theorem l_hm1 {n w : Int} (hn : n ≤ 6) (m : Nat) : ∀ (q : Int) (r : Int × Int) (v6 v7 : Option aV) (iv : aF) (F G O T S : Int → Int), 0 ≤ q → q + m = n → Prm iv F → Prm2 iv F → Inv iv F N → N 368 ≤ 13000 → (∀ (E' : aF) (F' G' O' T' S' : Int → Int) (v5 v6 v7 : Option aV), EqE iv E' → EqF F F' → wp (d + 10) mX12_harm 96 [some (aR 0), some (aI n), some (aI w), some (aI (hm1 iv F N m q r).1), some (aI (hm1 iv F N m q r).2), v5, v6, v7] [] SHR (ST E' F' N G' O' T' S') lw RVR 0 0 R) → wp (d + 10) mX12_harm 36 [some (aR 0), some (aI n), some (aI w), some (aI r.1), some (aI r.2), some (aI q), v6, v7] [] SHR (ST iv F N G O T S) lw RVR 0 0 R := by
  induction m with
  | zero =>
    intro q r v6 v7 iv F G O T S h0 hm hP hP2 hI hf k
    refine wp_iload dX12_harm_36 rfl ?_
    refine wp_iload_n dX12_harm_38 rfl ?_
    refine wp_icmp_ge (tgt := 96) dX12_harm_39 rfl (fun h39 => ?_) (fun h39 => by exfalso; omega)
    exact k iv F G O T S _ _ _ EqE.rf EqF.rf
  | succ m ih =>
    intro q r v6 v7 iv F G O T S h0 hm hP hP2 hI hf k
    have hF1 : 0 ≤ F 13 := hP.2.2.2.2.2.2.2.2.1
    rw [hm1] at k
    refine wp_iload dX12_harm_36 rfl ?_
    refine wp_iload_n dX12_harm_38 rfl ?_
    refine wp_icmp_ge (tgt := 96) dX12_harm_39 rfl (fun h39 => by exfalso; omega) (fun h39 => ?_)
    refine wp_iconst dX12_harm_42 ?_
    refine wp_istore (ls' := [_, _, _, _, _, _, _, _]) dX12_harm_43 (by decide) rfl rfl ?_
    refine l_hm2 (by omega) (F 13).toNat 0 r _ _ _ _ _ _ _ (by omega) (by omega) hP hP2 hI hf (fun E' F' G' O' T' S' v6 v7 e1 e2 => ?_)
    have qq := e1.p e2
    refine wp_iinc (ls' := [_, _, _, _, _, _, _, _]) dX12_harm_90 (by decide) rfl rfl ⟨by omega, by omega⟩ rfl ?_
    refine wp_goto (tgt := 36) dX12_harm_93 rfl ?_
    refine ih (q + 1) _ _ _ _ _ _ _ _ _ (by omega) (by omega) (Prm_q qq hP) (Prm2_q qq hP2) (Inv_q qq hI) hf (fun E2 F2 G2 O2 T2 S2 v5 v6 v7 g1 g2 => ?_)
    rw [hm1_q qq]
    exact k E2 F2 G2 O2 T2 S2 v5 v6 v7 (e1.tr g1) (e2.tr g2)
theorem s_harm {n w : Int} (hT : Tld iv F N) (k : ∀ (E' : aF) (F' G' O' T' S' : Int → Int), EqE iv E' → EqF F F' → R (some (aI (aHarm iv F N n w))) SHR (ST E' F' N G' O' T' S') lw RVR) : wp (d + 10) mX12_harm 0 [some (aR 0), some (aI n), some (aI w), none, none, none, none, none] [] SHR (ST iv F N G O T S) lw RVR 0 0 R := by
  obtain ⟨hr, hP2, h9, h8, hc, h25, hT2⟩ := id hT
  refine wp_aload_n dX12_harm_0 rfl ?_
  refine wp_getI dX12_harm_1 fX12_138 rfl ?_
  try simp only [ST0, ST5, ST6, ST7, ST8, ST10, ST11, ST12, ST13]
  refine wp_if_eq (tgt := 26) dX12_harm_4 rfl (fun h4 => ?_) (fun h4 => ?_)
  · refine wp_iconst dX12_harm_26 ?_
    refine wp_ireturn dX12_harm_27 rfl ?_
    have k := k iv F G O T S EqE.rf EqF.rf
    unfold aHarm at k; (repeat' split at k) <;> first | exact k | (exfalso; omega)
  · refine wp_iload_n dX12_harm_7 rfl ?_
    refine wp_iconst dX12_harm_8 ?_
    refine wp_bipush dX12_harm_9 ?_
    refine wp_callS (as := [_, _, _]) (ls0 := [_, _, _]) (kc := 0) (ks := 0) (bc' := 0) (bs' := 0) dX12_harm_11 vX12_75 rfl rfl (Nat.le_of_ble_eq_true rfl) (Nat.le_of_ble_eq_true rfl) (by omega) (by omega) ?_
    refine s_in (fun h11 => ?_) (fun h11 => ?_)
    · refine wp_if_eq (tgt := 26) dX12_harm_14 rfl (fun q => absurd q (by decide)) (fun _ => ?_)
      refine wp_iload_n dX12_harm_17 rfl ?_
      refine wp_iconst dX12_harm_18 ?_
      refine wp_iconst dX12_harm_19 ?_
      refine wp_callS (as := [_, _, _]) (ls0 := [_, _, _]) (kc := 0) (ks := 0) (bc' := 0) (bs' := 0) dX12_harm_20 vX12_75 rfl rfl (Nat.le_of_ble_eq_true rfl) (Nat.le_of_ble_eq_true rfl) (by omega) (by omega) ?_
      refine s_in (fun h20 => ?_) (fun h20 => ?_)
      · refine wp_if_ne (tgt := 28) dX12_harm_23 rfl (fun _ => ?_) (fun q => absurd q (by decide))
        refine wp_iconst dX12_harm_28 ?_
        refine wp_istore_n (ls' := [_, _, _, _, _, _, _, _]) dX12_harm_29 (by decide) rfl rfl ?_
        refine wp_iconst dX12_harm_30 ?_
        refine wp_istore (ls' := [_, _, _, _, _, _, _, _]) dX12_harm_31 (by decide) rfl rfl ?_
        refine wp_iconst dX12_harm_33 ?_
        refine wp_istore (ls' := [_, _, _, _, _, _, _, _]) dX12_harm_34 (by decide) rfl rfl ?_
        obtain ⟨hP, hI⟩ := hT2 (by omega)
        refine l_hm1 (by omega) n.toNat 0 (-1, -1) _ _ _ _ _ _ _ _ (by omega) (by omega) hP hP2 hI (by omega) (fun E' F' G' O' T' S' v5 v6 v7 e1 e2 => ?_)
        have hk := k E' F' G' O' T' S' e1 e2
        unfold aHarm at hk
        rw [if_neg (by omega), if_neg (by omega), if_neg (by omega)] at hk
        refine wp_iload_n dX12_harm_96 rfl ?_
        refine wp_if_ne (tgt := 104) dX12_harm_97 rfl (fun h97 => ?_) (fun h97 => ?_)
        · refine wp_iload dX12_harm_104 rfl ?_
          refine wp_ireturn dX12_harm_106 rfl ?_
          first | (rw [if_pos (by omega)] at hk; exact hk) | (rw [if_neg (by omega)] at hk; exact hk)
        · refine wp_iload_n dX12_harm_100 rfl ?_
          refine wp_goto (tgt := 106) dX12_harm_101 rfl ?_
          refine wp_ireturn dX12_harm_106 rfl ?_
          first | (rw [if_pos (by omega)] at hk; exact hk) | (rw [if_neg (by omega)] at hk; exact hk)
      · refine wp_if_ne (tgt := 28) dX12_harm_23 rfl (fun q => absurd q (by decide)) (fun _ => ?_)
        refine wp_iconst dX12_harm_26 ?_
        refine wp_ireturn dX12_harm_27 rfl ?_
        have k := k iv F G O T S EqE.rf EqF.rf
        unfold aHarm at k; (repeat' split at k) <;> first | exact k | (exfalso; omega)
    · refine wp_if_eq (tgt := 26) dX12_harm_14 rfl (fun _ => ?_) (fun q => absurd q (by decide))
      refine wp_iconst dX12_harm_26 ?_
      refine wp_ireturn dX12_harm_27 rfl ?_
      have k := k iv F G O T S EqE.rf EqF.rf
      unfold aHarm at k; (repeat' split at k) <;> first | exact k | (exfalso; omega)
theorem odR_q {E E' : aF} {F F' : Int → Int} {ch : Int} (h : EqP E E' F F') (m : Nat) : ∀ (N : Int → Int) (x : Int), odR E' F' ch m N x = odR E F ch m N x := by
  induction m with
  | zero => intro N x; rw [odR, odR, show AllA F' N = AllA F N from propext (AllA_q h.2.2.2.1)]
  | succ m ih => intro N x; rw [odR, odR, ih, ih, livF_q h, livF_q h, h.2.2.2.1]
theorem lost_r {x ch : Int} (hx : 0 ≤ x ∧ x ≤ 1000000000) (hc : 0 ≤ ch ∧ ch ≤ 100) : 0 ≤ x * ch ∧ x * ch ≤ 100000000000 ∧ 0 ≤ x * ch / 100 ∧ x * ch / 100 ≤ x := by
  have h1 : 0 ≤ x * ch := Int.mul_nonneg hx.1 hc.1
  have h2 : x * ch ≤ x * 100 := Int.mul_le_mul_of_nonneg_left hc.2 hx.1
  omega
theorem odR_r {E : aF} {ch : Int} (hc : 0 ≤ ch ∧ ch ≤ 100) (m : Nat) : ∀ (N : Int → Int) (x : Int), (0 ≤ x ∧ x ≤ 1000000000) → 0 ≤ odR E F ch m N x ∧ odR E F ch m N x ≤ x := by
  induction m with
  | zero => intro N x hx; rw [odR]; split <;> omega
  | succ m ih =>
    intro N x hx
    have hl := lost_r hx hc
    have h1 := ih (livF E F N) (x - x * ch / 100) (by omega)
    have h2 := ih (livF E F (drL (F 13).toNat 0 N)) (x * ch / 100) (by omega)
    rw [odR]; omega
theorem l_odL {de le ch x ls sm : Int} (m : Nat) : ∀ (p : Int) (N : Int → Int), 0 ≤ p → p + m = F 13 → F 13 ≤ 6 → (∀ v8 : aV, wp (d + 9) mX12_oddsFrom 81 [some (aR 0), some (aI de), some (aI le), some (aI ch), some (aI x), some (aI ls), some (aI sm), some (aI 1), some v8] [] SHR (ST iv F (drL m p N) G O T S) lw RVR 0 0 R) → wp (d + 9) mX12_oddsFrom 51 [some (aR 0), some (aI de), some (aI le), some (aI ch), some (aI x), some (aI ls), some (aI sm), some (aI 1), some (aI p)] [] SHR (ST iv F N G O T S) lw RVR 0 0 R := by
  induction m with
  | zero =>
    intro p N h0 hm h6 k
    refine wp_iload dX12_oddsFrom_51 rfl ?_
    refine wp_aload_n dX12_oddsFrom_53 rfl ?_
    refine wp_getI dX12_oddsFrom_54 fX12_138 rfl ?_
    try simp only [ST0, ST5, ST6, ST7, ST8, ST10, ST11, ST12, ST13]
    refine wp_icmp_ge (tgt := 81) dX12_oddsFrom_57 rfl (fun h57 => ?_) (fun h57 => by exfalso; omega)
    exact k _
  | succ m ih =>
    intro p N h0 hm h6 k
    refine wp_iload dX12_oddsFrom_51 rfl ?_
    refine wp_aload_n dX12_oddsFrom_53 rfl ?_
    refine wp_getI dX12_oddsFrom_54 fX12_138 rfl ?_
    try simp only [ST0, ST5, ST6, ST7, ST8, ST10, ST11, ST12, ST13]
    refine wp_icmp_ge (tgt := 81) dX12_oddsFrom_57 rfl (fun h57 => by exfalso; omega) (fun h57 => ?_)
    refine wp_iload dX12_oddsFrom_60 rfl ?_
    refine wp_iconst dX12_oddsFrom_62 ?_
    refine wp_icmp_ne (tgt := 81) dX12_oddsFrom_63 rfl (fun q => absurd q (by decide)) (fun _ => ?_)
    refine wp_aload_n dX12_oddsFrom_66 rfl ?_
    refine wp_iload dX12_oddsFrom_67 rfl ?_
    refine wp_bipush dX12_oddsFrom_69 ?_
    refine wp_iconst dX12_oddsFrom_71 ?_
    refine wp_callV (as := [_, _, _]) (ls0 := [_, _, _, _]) (kc := 0) (ks := 0) (bc' := 0) (bs' := 0) dX12_oddsFrom_72 vX12_141 rfl rfl rfl (Nat.le_of_ble_eq_true rfl) (Nat.le_of_ble_eq_true rfl) (by omega) (by omega) ?_
    refine s_set (by omega) (by omega) ?_
    refine wp_iinc (ls' := [_, _, _, _, _, _, _, _, _]) dX12_oddsFrom_75 (by decide) rfl rfl ⟨by omega, by omega⟩ rfl ?_
    refine wp_goto (tgt := 51) dX12_oddsFrom_78 rfl ?_
    exact ih _ _ (by omega) (by omega) h6 k
theorem s_oddsFrom {ch : Int} (hc : 0 ≤ ch ∧ ch ≤ 100) (m : Nat) : ∀ (de x : Int) (d : Nat) (iv : aF) (F N G O T S : Int → Int) (R : aPost), 0 ≤ de → de + m ≤ 6 → (0 ≤ x ∧ x ≤ 1000000000) → Prm iv F → Prm2 iv F → Inv iv F N → N 368 + m ≤ 14000 → (∀ (K' F' G' O' T' S' : Int → Int), (∀ z : Int, z < 369 * de → K' z = iv 15 z) → EqF F F' → R (some (aI (odR iv F ch m N x))) SHR (ST (uA iv 15 K') F' N G' O' T' S') lw RVR) → wp (d + 9 + m) mX12_oddsFrom 0 [some (aR 0), some (aI de), some (aI m), some (aI ch), some (aI x), none, none, none, none] [] SHR (ST iv F N G O T S) lw RVR 0 0 R := by
  induction m with
  | zero =>
    intro de x d iv F N G O T S R h0 h6 hx hP hP2 hI hf k
    have hB := hI.1
    have hk := k (iv 15) F G O T S (fun _ _ => rfl) EqF.rf
    rw [uA_id, odR] at hk
    refine wp_iload_n dX12_oddsFrom_0 rfl ?_
    refine wp_if_ne (tgt := 18) dX12_oddsFrom_1 rfl (fun q => absurd q (by decide)) (fun _ => ?_)
    refine wp_aload_n dX12_oddsFrom_4 rfl ?_
    refine wp_callV (as := []) (ls0 := [_, _, _]) (kc := 0) (ks := 0) (bc' := 0) (bs' := 0) dX12_oddsFrom_5 vX12_357 rfl rfl rfl (Nat.le_of_ble_eq_true rfl) (Nat.le_of_ble_eq_true rfl) (by omega) (by omega) ?_
    refine s_atOdds0 hP hB (fun x5 hx5 => ?_)
    refine wp_if_ne (tgt := 16) dX12_oddsFrom_8 rfl (fun h8 => ?_) (fun h8 => ?_)
    · refine wp_iconst dX12_oddsFrom_16 ?_
      refine wp_ireturn dX12_oddsFrom_17 rfl ?_
      first | (rw [if_pos (hx5.mp h8)] at hk; exact hk) | (rw [if_neg (fun z => h8 (hx5.mpr z))] at hk; exact hk)
    · refine wp_iload dX12_oddsFrom_11 rfl ?_
      refine wp_goto (tgt := 17) dX12_oddsFrom_13 rfl ?_
      refine wp_ireturn dX12_oddsFrom_17 rfl ?_
      first | (rw [if_pos (hx5.mp h8)] at hk; exact hk) | (rw [if_neg (fun z => h8 (hx5.mpr z))] at hk; exact hk)
  | succ m ih =>
    intro de x d iv F N G O T S R h0 h6 hx hP hP2 hI hf k
    have hF6 : F 13 ≤ 6 := hP.2.2.2.2.2.2.2.2.2
    have hF1 : 0 ≤ F 13 := hP.2.2.2.2.2.2.2.2.1
    have hl := lost_r hx hc
    have hL := Inv.liv hP hI (by omega)
    have hOl := Out.liv hP hI (by omega)
    have hd := drL_ok hP (F 13).toNat 0 N (by omega) (by omega) hI
    have hLd := Inv.liv hP hd.1 (by rw [hd.2.2]; omega)
    have hOd := Out.liv hP hd.1 (by rw [hd.2.2]; omega)
    have r1 := odR_r (E := iv) (F := F) hc m (livF iv F N) (x - x * ch / 100) (by omega)
    have r2 := odR_r (E := iv) (F := F) hc m (livF iv F (drL (F 13).toNat 0 N)) (x * ch / 100) (by omega)
    have hq15 : ∀ (E : aF) (K F : Int → Int), EqP E (uA E 15 K) F F := fun E K F => EqP.e1 (by decide) (by decide) (by decide)
    rw [odR] at k
    rw [show d + 9 + (m + 1) = d + m + 9 + 1 by omega]
    refine wp_iload_n dX12_oddsFrom_0 rfl ?_
    refine wp_if_ne (tgt := 18) dX12_oddsFrom_1 rfl (fun h1 => ?_) (fun h1 => by exfalso; omega)
    refine wp_iload dX12_oddsFrom_18 rfl ?_
    refine wp_i2l dX12_oddsFrom_20 ?_
    refine wp_iload_n dX12_oddsFrom_21 rfl ?_
    refine wp_i2l dX12_oddsFrom_22 ?_
    refine wp_lmul_n dX12_oddsFrom_23 ⟨by omega, by omega⟩ ?_
    refine wp_ldc2 (v := 100) dX12_oddsFrom_24 zX12_366 rfl ⟨by decide, by decide⟩ ?_
    refine wp_ldiv dX12_oddsFrom_27 (by omega) (by decide) ?_
    refine wp_l2i dX12_oddsFrom_28 ⟨by omega, by omega⟩ ?_
    refine wp_istore (ls' := [_, _, _, _, _, _, _, _, _]) dX12_oddsFrom_29 (by decide) rfl rfl ?_
    refine wp_iconst dX12_oddsFrom_31 ?_
    refine wp_istore (ls' := [_, _, _, _, _, _, _, _, _]) dX12_oddsFrom_32 (by decide) rfl rfl ?_
    refine wp_aload_n dX12_oddsFrom_34 rfl ?_
    refine wp_iload_n dX12_oddsFrom_35 rfl ?_
    refine wp_callV (as := [_]) (ls0 := [_, _, _]) (kc := 0) (ks := 0) (bc' := 0) (bs' := 0) dX12_oddsFrom_36 vX12_348 rfl rfl rfl (Nat.le_of_ble_eq_true rfl) (Nat.le_of_ble_eq_true rfl) (by omega) (by omega) ?_
    refine s_putAside (by omega) ?_
    refine wp_iconst dX12_oddsFrom_39 ?_
    refine wp_istore (ls' := [_, _, _, _, _, _, _, _, _]) dX12_oddsFrom_40 (by decide) rfl rfl ?_
    refine wp_iload dX12_oddsFrom_42 rfl ?_
    refine wp_iconst dX12_oddsFrom_44 ?_
    refine wp_icmp_ge (tgt := 128) dX12_oddsFrom_45 rfl (fun q => absurd q (by decide)) (fun _ => ?_)
    refine wp_iconst dX12_oddsFrom_48 ?_
    refine wp_istore (ls' := [_, _, _, _, _, _, _, _, _]) dX12_oddsFrom_49 (by decide) rfl rfl ?_
    refine wp_iload dX12_oddsFrom_51 rfl ?_
    refine wp_aload_n dX12_oddsFrom_53 rfl ?_
    refine wp_getI dX12_oddsFrom_54 fX12_138 rfl ?_
    try simp only [ST0, ST5, ST6, ST7, ST8, ST10, ST11, ST12, ST13]
    refine wp_icmp_ge (tgt := 81) dX12_oddsFrom_57 rfl (fun h57 => ?_) (fun h57 => ?_)
    · refine wp_aload_n dX12_oddsFrom_81 rfl ?_
      refine wp_callV (as := []) (ls0 := [_, _]) (kc := 0) (ks := 0) (bc' := 0) (bs' := 0) dX12_oddsFrom_82 vX12_299 rfl rfl rfl (Nat.le_of_ble_eq_true rfl) (Nat.le_of_ble_eq_true rfl) (by omega) (by omega) ?_
      refine s_liveI (Prm_q (hq15 _ _ _) hP) (Prm2_q (hq15 _ _ _) hP2) (Inv_q (hq15 _ _ _) hI) (by omega) (fun F3 G3 O3 T3 S3 f1 f3 => ?_)
      rw [livF_q (hq15 _ _ _)]
      have q3 := F3q (iv := iv) f1
      have q3p : EqP iv (uA iv 15 (cpW (iv 15) N (369 * de) 369)) F F3 := (hq15 _ _ _).tr (EqP.f1 (fun j hj => q3.2 j (by omega)))
      refine wp_iload dX12_oddsFrom_85 rfl ?_
      refine wp_aload_n dX12_oddsFrom_87 rfl ?_
      refine wp_iload_n dX12_oddsFrom_88 rfl ?_
      refine wp_iconst dX12_oddsFrom_89 ?_
      refine wp_iadd dX12_oddsFrom_90 ⟨by omega, by omega⟩ ?_
      refine wp_iload_n dX12_oddsFrom_91 rfl ?_
      refine wp_iconst dX12_oddsFrom_92 ?_
      refine wp_isub dX12_oddsFrom_93 ⟨by omega, by omega⟩ ?_
      refine wp_iload_n dX12_oddsFrom_94 rfl ?_
      refine wp_iload dX12_oddsFrom_95 rfl ?_
      refine wp_iconst dX12_oddsFrom_97 ?_
      refine wp_icmp_ne (tgt := 106) dX12_oddsFrom_98 rfl (fun _ => ?_) (fun q => absurd q (by decide))
      refine wp_iload dX12_oddsFrom_106 rfl ?_
      refine wp_iload dX12_oddsFrom_108 rfl ?_
      refine wp_isub dX12_oddsFrom_110 ⟨by omega, by omega⟩ ?_
      refine wp_callV (as := [_, _, _, _]) (ls0 := [_, _, _, _, _, _, _, _, _]) (kc := 0) (ks := 0) (bc' := 0) (bs' := 0) dX12_oddsFrom_111 vX12_368 rfl rfl rfl (Nat.le_of_ble_eq_true rfl) (Nat.le_of_ble_eq_true rfl) (by omega) (by omega) ?_
      rw [show (((m + 1 : Nat)) : Int) - 1 = (m : Int) by omega, show d + m + 9 = d + 9 + m by omega]
      refine ih _ _ _ _ _ _ _ _ _ _ _ (by omega) (by omega) (by omega) (Prm_q q3p hP) (Prm2_q q3p hP2) (Inv_q q3p hL.1) (by rw [hL.2.1]; omega) (fun K4 F4 G4 O4 T4 S4 a4 b4 => ?_)
      rw [odR_q q3p, uA_uA]
      have q4 : EqF F F4 := q3.2.tr b4
      refine wp_iadd dX12_oddsFrom_114 ⟨by omega, by omega⟩ ?_
      refine wp_istore (ls' := [_, _, _, _, _, _, _, _, _]) dX12_oddsFrom_115 (by decide) rfl rfl ?_
      refine wp_aload_n dX12_oddsFrom_117 rfl ?_
      refine wp_iload_n dX12_oddsFrom_118 rfl ?_
      refine wp_callV (as := [_]) (ls0 := [_, _, _]) (kc := 0) (ks := 0) (bc' := 0) (bs' := 0) dX12_oddsFrom_119 vX12_351 rfl rfl rfl (Nat.le_of_ble_eq_true rfl) (Nat.le_of_ble_eq_true rfl) (by omega) (by omega) ?_
      refine s_takeBack (by omega) ?_
      rw [uA_s, cpR_c (K := cpW (iv 15) N (369 * de) 369) (fun z z0 z1 => by rw [a4 z (by omega), uA_s]), back_eq hOl]
      refine wp_iinc (ls' := [_, _, _, _, _, _, _, _, _]) dX12_oddsFrom_122 (by decide) rfl rfl ⟨by omega, by omega⟩ rfl ?_
      refine wp_goto (tgt := 42) dX12_oddsFrom_125 rfl ?_
      rw [show (0 : Int) + 1 = 1 from rfl, show d + 9 + m + 1 = d + m + 9 + 1 by omega]
      refine wp_iload dX12_oddsFrom_42 rfl ?_
      refine wp_iconst dX12_oddsFrom_44 ?_
      refine wp_icmp_ge (tgt := 128) dX12_oddsFrom_45 rfl (fun q => absurd q (by decide)) (fun _ => ?_)
      refine wp_iconst dX12_oddsFrom_48 ?_
      refine wp_istore (ls' := [_, _, _, _, _, _, _, _, _]) dX12_oddsFrom_49 (by decide) rfl rfl ?_
      have q4p : EqP iv (uA iv 15 K4) F F4 := (hq15 _ _ _).tr (EqP.f1 (fun j hj => q4 j (by omega)))
      refine l_odL (F := F4) (F 13).toNat 0 N (by omega) (by rw [q4p.2.2.2.1]; omega) (by rw [q4p.2.2.2.1]; omega) (fun v8 => ?_)
      refine wp_aload_n dX12_oddsFrom_81 rfl ?_
      refine wp_callV (as := []) (ls0 := [_, _]) (kc := 0) (ks := 0) (bc' := 0) (bs' := 0) dX12_oddsFrom_82 vX12_299 rfl rfl rfl (Nat.le_of_ble_eq_true rfl) (Nat.le_of_ble_eq_true rfl) (by omega) (by omega) ?_
      refine s_liveI (Prm_q q4p hP) (Prm2_q q4p hP2) (Inv_q q4p hd.1) (by rw [hd.2.2]; omega) (fun F5 G5 O5 T5 S5 f5 g5 => ?_)
      rw [livF_q q4p]
      have q5 := F3q (iv := uA iv 15 K4) f5
      refine wp_iload dX12_oddsFrom_85 rfl ?_
      refine wp_aload_n dX12_oddsFrom_87 rfl ?_
      refine wp_iload_n dX12_oddsFrom_88 rfl ?_
      refine wp_iconst dX12_oddsFrom_89 ?_
      refine wp_iadd dX12_oddsFrom_90 ⟨by omega, by omega⟩ ?_
      refine wp_iload_n dX12_oddsFrom_91 rfl ?_
      refine wp_iconst dX12_oddsFrom_92 ?_
      refine wp_isub dX12_oddsFrom_93 ⟨by omega, by omega⟩ ?_
      refine wp_iload_n dX12_oddsFrom_94 rfl ?_
      refine wp_iload dX12_oddsFrom_95 rfl ?_
      refine wp_iconst dX12_oddsFrom_97 ?_
      refine wp_icmp_ne (tgt := 106) dX12_oddsFrom_98 rfl (fun q => absurd q (by decide)) (fun _ => ?_)
      refine wp_iload dX12_oddsFrom_101 rfl ?_
      refine wp_goto (tgt := 111) dX12_oddsFrom_103 rfl ?_
      refine wp_callV (as := [_, _, _, _]) (ls0 := [_, _, _, _, _, _, _, _, _]) (kc := 0) (ks := 0) (bc' := 0) (bs' := 0) dX12_oddsFrom_111 vX12_368 rfl rfl rfl (Nat.le_of_ble_eq_true rfl) (Nat.le_of_ble_eq_true rfl) (by omega) (by omega) ?_
      rw [show (((m + 1 : Nat)) : Int) - 1 = (m : Int) by omega, show d + m + 9 = d + 9 + m by omega]
      refine ih _ _ _ _ _ _ _ _ _ _ _ (by omega) (by omega) (by omega) (Prm_q (q4p.tr q5.1) hP) (Prm2_q (q4p.tr q5.1) hP2) (Inv_q (q4p.tr q5.1) hLd.1) (by rw [hLd.2.1, hd.2.2]; omega) (fun K6 F6 G6 O6 T6 S6 a6 b6 => ?_)
      rw [odR_q (q4p.tr q5.1), uA_uA]
      have q6 : EqF F F6 := (q4.tr q5.2).tr b6
      refine wp_iadd dX12_oddsFrom_114 ⟨by omega, by omega⟩ ?_
      refine wp_istore (ls' := [_, _, _, _, _, _, _, _, _]) dX12_oddsFrom_115 (by decide) rfl rfl ?_
      refine wp_aload_n dX12_oddsFrom_117 rfl ?_
      refine wp_iload_n dX12_oddsFrom_118 rfl ?_
      refine wp_callV (as := [_]) (ls0 := [_, _, _]) (kc := 0) (ks := 0) (bc' := 0) (bs' := 0) dX12_oddsFrom_119 vX12_351 rfl rfl rfl (Nat.le_of_ble_eq_true rfl) (Nat.le_of_ble_eq_true rfl) (by omega) (by omega) ?_
      refine s_takeBack (by omega) ?_
      rw [uA_s, cpR_c (K := cpW (iv 15) N (369 * de) 369) (fun z z0 z1 => by rw [a6 z (by omega), uA_s, a4 z (by omega), uA_s]), back_eq (hd.2.1.tr hOd)]
      refine wp_iinc (ls' := [_, _, _, _, _, _, _, _, _]) dX12_oddsFrom_122 (by decide) rfl rfl ⟨by omega, by omega⟩ rfl ?_
      refine wp_goto (tgt := 42) dX12_oddsFrom_125 rfl ?_
      rw [show (1 : Int) + 1 = 2 from rfl]
      refine wp_iload dX12_oddsFrom_42 rfl ?_
      refine wp_iconst dX12_oddsFrom_44 ?_
      refine wp_icmp_ge (tgt := 128) dX12_oddsFrom_45 rfl (fun h45 => ?_) (fun h45 => by exfalso; omega)
      refine wp_iload dX12_oddsFrom_128 rfl ?_
      refine wp_ireturn dX12_oddsFrom_130 rfl ?_
      rw [Int.zero_add]
      exact k K6 F6 G6 O6 T6 S6 (fun z hz => by rw [a6 z (by omega), uA_s, a4 z (by omega), uA_s]; unfold cpW; rw [if_neg (by omega)]) q6
    · refine wp_iload dX12_oddsFrom_60 rfl ?_
      refine wp_iconst dX12_oddsFrom_62 ?_
      refine wp_icmp_ne (tgt := 81) dX12_oddsFrom_63 rfl (fun _ => ?_) (fun q => absurd q (by decide))
      refine wp_aload_n dX12_oddsFrom_81 rfl ?_
      refine wp_callV (as := []) (ls0 := [_, _]) (kc := 0) (ks := 0) (bc' := 0) (bs' := 0) dX12_oddsFrom_82 vX12_299 rfl rfl rfl (Nat.le_of_ble_eq_true rfl) (Nat.le_of_ble_eq_true rfl) (by omega) (by omega) ?_
      refine s_liveI (Prm_q (hq15 _ _ _) hP) (Prm2_q (hq15 _ _ _) hP2) (Inv_q (hq15 _ _ _) hI) (by omega) (fun F3 G3 O3 T3 S3 f1 f3 => ?_)
      rw [livF_q (hq15 _ _ _)]
      have q3 := F3q (iv := iv) f1
      have q3p : EqP iv (uA iv 15 (cpW (iv 15) N (369 * de) 369)) F F3 := (hq15 _ _ _).tr (EqP.f1 (fun j hj => q3.2 j (by omega)))
      refine wp_iload dX12_oddsFrom_85 rfl ?_
      refine wp_aload_n dX12_oddsFrom_87 rfl ?_
      refine wp_iload_n dX12_oddsFrom_88 rfl ?_
      refine wp_iconst dX12_oddsFrom_89 ?_
      refine wp_iadd dX12_oddsFrom_90 ⟨by omega, by omega⟩ ?_
      refine wp_iload_n dX12_oddsFrom_91 rfl ?_
      refine wp_iconst dX12_oddsFrom_92 ?_
      refine wp_isub dX12_oddsFrom_93 ⟨by omega, by omega⟩ ?_
      refine wp_iload_n dX12_oddsFrom_94 rfl ?_
      refine wp_iload dX12_oddsFrom_95 rfl ?_
      refine wp_iconst dX12_oddsFrom_97 ?_
      refine wp_icmp_ne (tgt := 106) dX12_oddsFrom_98 rfl (fun _ => ?_) (fun q => absurd q (by decide))
      refine wp_iload dX12_oddsFrom_106 rfl ?_
      refine wp_iload dX12_oddsFrom_108 rfl ?_
      refine wp_isub dX12_oddsFrom_110 ⟨by omega, by omega⟩ ?_
      refine wp_callV (as := [_, _, _, _]) (ls0 := [_, _, _, _, _, _, _, _, _]) (kc := 0) (ks := 0) (bc' := 0) (bs' := 0) dX12_oddsFrom_111 vX12_368 rfl rfl rfl (Nat.le_of_ble_eq_true rfl) (Nat.le_of_ble_eq_true rfl) (by omega) (by omega) ?_
      rw [show (((m + 1 : Nat)) : Int) - 1 = (m : Int) by omega, show d + m + 9 = d + 9 + m by omega]
      refine ih _ _ _ _ _ _ _ _ _ _ _ (by omega) (by omega) (by omega) (Prm_q q3p hP) (Prm2_q q3p hP2) (Inv_q q3p hL.1) (by rw [hL.2.1]; omega) (fun K4 F4 G4 O4 T4 S4 a4 b4 => ?_)
      rw [odR_q q3p, uA_uA]
      have q4 : EqF F F4 := q3.2.tr b4
      refine wp_iadd dX12_oddsFrom_114 ⟨by omega, by omega⟩ ?_
      refine wp_istore (ls' := [_, _, _, _, _, _, _, _, _]) dX12_oddsFrom_115 (by decide) rfl rfl ?_
      refine wp_aload_n dX12_oddsFrom_117 rfl ?_
      refine wp_iload_n dX12_oddsFrom_118 rfl ?_
      refine wp_callV (as := [_]) (ls0 := [_, _, _]) (kc := 0) (ks := 0) (bc' := 0) (bs' := 0) dX12_oddsFrom_119 vX12_351 rfl rfl rfl (Nat.le_of_ble_eq_true rfl) (Nat.le_of_ble_eq_true rfl) (by omega) (by omega) ?_
      refine s_takeBack (by omega) ?_
      rw [uA_s, cpR_c (K := cpW (iv 15) N (369 * de) 369) (fun z z0 z1 => by rw [a4 z (by omega), uA_s]), back_eq hOl]
      refine wp_iinc (ls' := [_, _, _, _, _, _, _, _, _]) dX12_oddsFrom_122 (by decide) rfl rfl ⟨by omega, by omega⟩ rfl ?_
      refine wp_goto (tgt := 42) dX12_oddsFrom_125 rfl ?_
      rw [show (0 : Int) + 1 = 1 from rfl, show d + 9 + m + 1 = d + m + 9 + 1 by omega]
      refine wp_iload dX12_oddsFrom_42 rfl ?_
      refine wp_iconst dX12_oddsFrom_44 ?_
      refine wp_icmp_ge (tgt := 128) dX12_oddsFrom_45 rfl (fun q => absurd q (by decide)) (fun _ => ?_)
      refine wp_iconst dX12_oddsFrom_48 ?_
      refine wp_istore (ls' := [_, _, _, _, _, _, _, _, _]) dX12_oddsFrom_49 (by decide) rfl rfl ?_
      have q4p : EqP iv (uA iv 15 K4) F F4 := (hq15 _ _ _).tr (EqP.f1 (fun j hj => q4 j (by omega)))
      refine l_odL (F := F4) (F 13).toNat 0 N (by omega) (by rw [q4p.2.2.2.1]; omega) (by rw [q4p.2.2.2.1]; omega) (fun v8 => ?_)
      refine wp_aload_n dX12_oddsFrom_81 rfl ?_
      refine wp_callV (as := []) (ls0 := [_, _]) (kc := 0) (ks := 0) (bc' := 0) (bs' := 0) dX12_oddsFrom_82 vX12_299 rfl rfl rfl (Nat.le_of_ble_eq_true rfl) (Nat.le_of_ble_eq_true rfl) (by omega) (by omega) ?_
      refine s_liveI (Prm_q q4p hP) (Prm2_q q4p hP2) (Inv_q q4p hd.1) (by rw [hd.2.2]; omega) (fun F5 G5 O5 T5 S5 f5 g5 => ?_)
      rw [livF_q q4p]
      have q5 := F3q (iv := uA iv 15 K4) f5
      refine wp_iload dX12_oddsFrom_85 rfl ?_
      refine wp_aload_n dX12_oddsFrom_87 rfl ?_
      refine wp_iload_n dX12_oddsFrom_88 rfl ?_
      refine wp_iconst dX12_oddsFrom_89 ?_
      refine wp_iadd dX12_oddsFrom_90 ⟨by omega, by omega⟩ ?_
      refine wp_iload_n dX12_oddsFrom_91 rfl ?_
      refine wp_iconst dX12_oddsFrom_92 ?_
      refine wp_isub dX12_oddsFrom_93 ⟨by omega, by omega⟩ ?_
      refine wp_iload_n dX12_oddsFrom_94 rfl ?_
      refine wp_iload dX12_oddsFrom_95 rfl ?_
      refine wp_iconst dX12_oddsFrom_97 ?_
      refine wp_icmp_ne (tgt := 106) dX12_oddsFrom_98 rfl (fun q => absurd q (by decide)) (fun _ => ?_)
      refine wp_iload dX12_oddsFrom_101 rfl ?_
      refine wp_goto (tgt := 111) dX12_oddsFrom_103 rfl ?_
      refine wp_callV (as := [_, _, _, _]) (ls0 := [_, _, _, _, _, _, _, _, _]) (kc := 0) (ks := 0) (bc' := 0) (bs' := 0) dX12_oddsFrom_111 vX12_368 rfl rfl rfl (Nat.le_of_ble_eq_true rfl) (Nat.le_of_ble_eq_true rfl) (by omega) (by omega) ?_
      rw [show (((m + 1 : Nat)) : Int) - 1 = (m : Int) by omega, show d + m + 9 = d + 9 + m by omega]
      refine ih _ _ _ _ _ _ _ _ _ _ _ (by omega) (by omega) (by omega) (Prm_q (q4p.tr q5.1) hP) (Prm2_q (q4p.tr q5.1) hP2) (Inv_q (q4p.tr q5.1) hLd.1) (by rw [hLd.2.1, hd.2.2]; omega) (fun K6 F6 G6 O6 T6 S6 a6 b6 => ?_)
      rw [odR_q (q4p.tr q5.1), uA_uA]
      have q6 : EqF F F6 := (q4.tr q5.2).tr b6
      refine wp_iadd dX12_oddsFrom_114 ⟨by omega, by omega⟩ ?_
      refine wp_istore (ls' := [_, _, _, _, _, _, _, _, _]) dX12_oddsFrom_115 (by decide) rfl rfl ?_
      refine wp_aload_n dX12_oddsFrom_117 rfl ?_
      refine wp_iload_n dX12_oddsFrom_118 rfl ?_
      refine wp_callV (as := [_]) (ls0 := [_, _, _]) (kc := 0) (ks := 0) (bc' := 0) (bs' := 0) dX12_oddsFrom_119 vX12_351 rfl rfl rfl (Nat.le_of_ble_eq_true rfl) (Nat.le_of_ble_eq_true rfl) (by omega) (by omega) ?_
      refine s_takeBack (by omega) ?_
      rw [uA_s, cpR_c (K := cpW (iv 15) N (369 * de) 369) (fun z z0 z1 => by rw [a6 z (by omega), uA_s, a4 z (by omega), uA_s]), back_eq (hd.2.1.tr hOd)]
      refine wp_iinc (ls' := [_, _, _, _, _, _, _, _, _]) dX12_oddsFrom_122 (by decide) rfl rfl ⟨by omega, by omega⟩ rfl ?_
      refine wp_goto (tgt := 42) dX12_oddsFrom_125 rfl ?_
      rw [show (1 : Int) + 1 = 2 from rfl]
      refine wp_iload dX12_oddsFrom_42 rfl ?_
      refine wp_iconst dX12_oddsFrom_44 ?_
      refine wp_icmp_ge (tgt := 128) dX12_oddsFrom_45 rfl (fun h45 => ?_) (fun h45 => by exfalso; omega)
      refine wp_iload dX12_oddsFrom_128 rfl ?_
      refine wp_ireturn dX12_oddsFrom_130 rfl ?_
      rw [Int.zero_add]
      exact k K6 F6 G6 O6 T6 S6 (fun z hz => by rw [a6 z (by omega), uA_s, a4 z (by omega), uA_s]; unfold cpW; rw [if_neg (by omega)]) q6
noncomputable def aOdds (iv : aF) (F N : Int → Int) (n ch : Int) : Int := if F 13 = 0 then -1 else if ¬ (0 ≤ n ∧ n ≤ 6) then -1 else if ¬ (0 ≤ ch ∧ ch ≤ 100) then -1 else odR iv F ch n.toNat N 1000000000
theorem s_odds {n ch : Int} (hT : Tld iv F N) (k : ∀ (E' : aF) (F' G' O' T' S' : Int → Int), EqE iv E' → EqF F F' → R (some (aI (aOdds iv F N n ch))) SHR (ST E' F' N G' O' T' S') lw RVR) : wp (d + 16) mX12_odds 0 [some (aR 0), some (aI n), some (aI ch)] [] SHR (ST iv F N G O T S) lw RVR 0 0 R := by
  obtain ⟨hr, hP2, h9, h8, hc, h25, hT2⟩ := id hT
  refine wp_aload_n dX12_odds_0 rfl ?_
  refine wp_getI dX12_odds_1 fX12_138 rfl ?_
  try simp only [ST0, ST5, ST6, ST7, ST8, ST10, ST11, ST12, ST13]
  refine wp_if_le (tgt := 40) dX12_odds_4 rfl (fun h4 => ?_) (fun h4 => ?_)
  · refine wp_iconst dX12_odds_40 ?_
    refine wp_ireturn dX12_odds_41 rfl ?_
    first
    | exact hk
    | (have k := k iv F G O T S EqE.rf EqF.rf
       unfold aOdds at k; (repeat' split at k) <;> first | exact k | (exfalso; omega))
  · refine wp_iload_n dX12_odds_7 rfl ?_
    refine wp_iconst dX12_odds_8 ?_
    refine wp_bipush dX12_odds_9 ?_
    refine wp_callS (as := [_, _, _]) (ls0 := [_, _, _]) (kc := 0) (ks := 0) (bc' := 0) (bs' := 0) dX12_odds_11 vX12_75 rfl rfl (Nat.le_of_ble_eq_true rfl) (Nat.le_of_ble_eq_true rfl) (by omega) (by omega) ?_
    refine s_in (fun h11 => ?_) (fun h11 => ?_)
    · refine wp_if_eq (tgt := 40) dX12_odds_14 rfl (fun q => absurd q (by decide)) (fun _ => ?_)
      refine wp_iload_n dX12_odds_17 rfl ?_
      refine wp_iconst dX12_odds_18 ?_
      refine wp_bipush dX12_odds_19 ?_
      refine wp_callS (as := [_, _, _]) (ls0 := [_, _, _]) (kc := 0) (ks := 0) (bc' := 0) (bs' := 0) dX12_odds_21 vX12_75 rfl rfl (Nat.le_of_ble_eq_true rfl) (Nat.le_of_ble_eq_true rfl) (by omega) (by omega) ?_
      refine s_in (fun h21 => ?_) (fun h21 => ?_)
      · refine wp_if_eq (tgt := 40) dX12_odds_24 rfl (fun q => absurd q (by decide)) (fun _ => ?_)
        refine wp_aload_n dX12_odds_27 rfl ?_
        refine wp_iconst dX12_odds_28 ?_
        refine wp_iload_n dX12_odds_29 rfl ?_
        refine wp_iload_n dX12_odds_30 rfl ?_
        refine wp_ldcw (v := 1000000000) dX12_odds_31 zX12_372 rfl ⟨by decide, by decide⟩ ?_
        refine wp_callV (as := [_, _, _, _]) (ls0 := [_, _, _, _, _, _, _, _, _]) (kc := 0) (ks := 0) (bc' := 0) (bs' := 0) dX12_odds_34 vX12_368 rfl rfl rfl (Nat.le_of_ble_eq_true rfl) (Nat.le_of_ble_eq_true rfl) (by omega) (by omega) ?_
        obtain ⟨hP, hI⟩ := hT2 (by omega)
        obtain ⟨m, rfl⟩ : ∃ m : Nat, n = m := ⟨n.toNat, by omega⟩
        rw [show d + 15 = d + (6 - m) + 9 + m by omega]
        refine s_oddsFrom (by omega) m 0 1000000000 _ _ _ _ _ _ _ _ _ (by omega) (by omega) (by omega) hP hP2 hI (by omega) (fun K' F' G' O' T' S' _ b4 => ?_)
        have hk := k (uA iv 15 K') F' G' O' T' S' (fun i hi => uA_n (by omega)) b4
        unfold aOdds at hk
        rw [if_neg (by omega), if_neg (by omega), if_neg (by omega), show ((m : Int)).toNat = m by omega] at hk
        refine wp_goto (tgt := 41) dX12_odds_37 rfl ?_
        refine wp_ireturn dX12_odds_41 rfl ?_
        first
        | exact hk
        | (have k := k iv F G O T S EqE.rf EqF.rf
           unfold aOdds at k; (repeat' split at k) <;> first | exact k | (exfalso; omega))
      · refine wp_if_eq (tgt := 40) dX12_odds_24 rfl (fun _ => ?_) (fun q => absurd q (by decide))
        refine wp_iconst dX12_odds_40 ?_
        refine wp_ireturn dX12_odds_41 rfl ?_
        first
        | exact hk
        | (have k := k iv F G O T S EqE.rf EqF.rf
           unfold aOdds at k; (repeat' split at k) <;> first | exact k | (exfalso; omega))
    · refine wp_if_eq (tgt := 40) dX12_odds_14 rfl (fun _ => ?_) (fun q => absurd q (by decide))
      refine wp_iconst dX12_odds_40 ?_
      refine wp_ireturn dX12_odds_41 rfl ?_
      first
      | exact hk
      | (have k := k iv F G O T S EqE.rf EqF.rf
         unfold aOdds at k; (repeat' split at k) <;> first | exact k | (exfalso; omega))
end R23
