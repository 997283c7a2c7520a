def Whl (np : Int) (Y : Int → Int) : Prop := 0 < np ∧ ∀ p : Int, 0 ≤ p → p < np → ¬ Y (4 * p + 0) = Y (4 * p + 1) ∧ ∀ q : Int, 0 ≤ q → q < p → ¬ (Y (4 * p + 0) = Y (4 * q + 0) ∧ Y (4 * p + 1) = Y (4 * q + 1))
/-- clauses from i on: what is wrong, how many pairs, the rules, the pairs -/
noncomputable def msC (t : Int → Int) (n : Int) (k : Int → Int × Int × (Int → Int) × (Int → Int)) (w a np : Int) (X Y : Int → Int) : Int × Int × (Int → Int) × (Int → Int) :=
  if ¬ w = -1 then (w, np, X, Y) else if sg t n a = 59 then k (a + 1) else @ite _ (sg t n a = -1 ∧ Whl np Y) (Classical.propDecidable _) (-1, np, X, Y) (a, np, X, Y)
noncomputable def msL (t : Int → Int) (n : Int) : Nat → Int → Int → Int → (Int → Int) → (Int → Int) → Int × Int × (Int → Int) × (Int → Int)
  | 0, i, _, np, X, Y => (i, np, X, Y)
  | m + 1, i, ru, np, X, Y =>
    if sg t n (skp t n i) = 115 ∧ ru = 0 then
      msC t n (fun a => msL t n m a 1 np (itL t n 115 0 6 (skp t n i + 1) 0 (cpW X (usF 115) 0 5)).2.2 Y) (itL t n 115 0 6 (skp t n i + 1) 0 (cpW X (usF 115) 0 5)).1 (itL t n 115 0 6 (skp t n i + 1) 0 (cpW X (usF 115) 0 5)).2.1 np (itL t n 115 0 6 (skp t n i + 1) 0 (cpW X (usF 115) 0 5)).2.2 Y
    else if sg t n (skp t n i) = 112 ∧ np < 6 then
      msC t n (fun a => msL t n m a ru (np + 1) X (itL t n 112 (4 * np) 5 (skp t n i + 1) 0 (cpW Y (usF 112) (4 * np) 4)).2.2) (itL t n 112 (4 * np) 5 (skp t n i + 1) 0 (cpW Y (usF 112) (4 * np) 4)).1 (itL t n 112 (4 * np) 5 (skp t n i + 1) 0 (cpW Y (usF 112) (4 * np) 4)).2.1 (np + 1) X (itL t n 112 (4 * np) 5 (skp t n i + 1) 0 (cpW Y (usF 112) (4 * np) 4)).2.2
    else (skp t n i, np, X, Y)
section R27
variable {d : Nat} {iv lw : aF} {F N G O T S X Y Z : Int → Int} {R : aPost} {a w p h : Int}
theorem itL_r {t : Int → Int} {n cl fr : Int} (m : Nat) : ∀ (i g : Int) (X : Int → Int), 0 ≤ i → i ≤ n → (itL t n cl fr m i g X).1 = -1 → 0 ≤ (itL t n cl fr m i g X).2.1 ∧ (itL t n cl fr m i g X).2.1 ≤ n ∧ ¬ sg t n (itL t n cl fr m i g X).2.1 = 32 := by
  induction m with
  | zero => intro i g X h0 h1 h; have hs := skp_r (t := t) h0 h1; rw [itL] at h; simp only [] at h; omega
  | succ m ih =>
    intro i g X h0 h1 h
    have hs := skp_r (t := t) h0 h1
    rw [itL] at h ⊢
    by_cases c1 : itF cl (sg t n (skp t n i)) = -1 ∨ bt g (itF cl (sg t n (skp t n i)))
    · rw [if_pos c1] at h ⊢; exact ⟨by show 0 ≤ skp t n i; omega, hs.2.1, hs.2.2⟩
    · rw [if_neg c1] at h ⊢
      have hl := sg_lt (t := t) (n := n) (i := skp t n i) (fun e => c1 (Or.inl (by rw [e]; exact itF_n.1)))
      have hs2 := skp_r (t := t) (n := n) (i := skp t n i + 1) (by omega) (by omega)
      by_cases c2 : nmw t n (skp t n (skp t n i + 1)) (loF cl (itF cl (sg t n (skp t n i)))) (hiF cl (itF cl (sg t n (skp t n i)))) = -1
      · rw [if_pos c2] at h ⊢
        have hd := nmw_d c2 (by omega)
        have hr := nma_r hd
        exact ih _ _ _ (by omega) (by omega) h
      · rw [if_neg c2] at h; exact absurd h c2
theorem s_numberT {lo hi : Int} (hn : 0 ≤ F 2 ∧ F 2 ≤ 240) (ha : 0 ≤ a ∧ a ≤ F 2) (e : nmw (iv 1) (F 2) (skp (iv 1) (F 2) a) lo hi = -1) (k : R (some (aI (nmv (iv 1) (F 2) (skp (iv 1) (F 2) a)))) SHR (ST (RE iv X Y Z) (RF F (nma (iv 1) (F 2) (skp (iv 1) (F 2) a)) (-1) (p) (h)) N G O T S) lw RVR) : wp (d + 2) mX12_number 0 [some (aR 0), some (aI lo), some (aI hi), none] [] SHR (ST (RE iv X Y Z) (RF F (a) (-1) (p) (h)) N G O T S) lw RVR 0 0 R := s_number hn ha (fun _ => k) (fun z => absurd e z)
theorem s_numberF {lo hi : Int} (hn : 0 ≤ F 2 ∧ F 2 ≤ 240) (ha : 0 ≤ a ∧ a ≤ F 2) (e : ¬ nmw (iv 1) (F 2) (skp (iv 1) (F 2) a) lo hi = -1) (k : ∀ v a', (0 ≤ a' ∧ a' ≤ 300) → R (some (aI v)) SHR (ST (RE iv X Y Z) (RF F (a') (nmw (iv 1) (F 2) (skp (iv 1) (F 2) a) lo hi) (p) (h)) N G O T S) lw RVR) : wp (d + 2) mX12_number 0 [some (aR 0), some (aI lo), some (aI hi), none] [] SHR (ST (RE iv X Y Z) (RF F (a) (-1) (p) (h)) N G O T S) lw RVR 0 0 R := s_number hn ha (fun z => absurd z e) (fun _ => k)
theorem itqs {t : Int → Int} {n fr : Int} (m : Nat) (i g : Int) (X : Int → Int) (h0 : 0 ≤ i) (h1 : i ≤ n) : itL t n 115 fr m (skp t n i) g X = itL t n 115 fr m i g X := by
  cases m with
  | zero => rw [itL, itL, skp_n (skp_r (t := t) h0 h1).2.2]
  | succ m => rw [itL, itL, skp_n (skp_r (t := t) h0 h1).2.2]
theorem l_its (hn : 0 ≤ F 2 ∧ F 2 ≤ 240) (m : Nat) : ∀ (j g : Int) (X : Int → Int), (0 ≤ j ∧ j ≤ F 2) → ¬ sg (iv 1) (F 2) j = 32 → (0 ≤ g ∧ g < 32) → popc g.toNat + m = 6 → ((itL (iv 1) (F 2) 115 0 m j g X).1 = -1 → R none SHR (ST (RE iv (itL (iv 1) (F 2) 115 0 m j g X).2.2 Y Z) (RF F ((itL (iv 1) (F 2) 115 0 m j g X).2.1) (-1) (p) (h)) N G O T S) lw RVR) → (¬ (itL (iv 1) (F 2) 115 0 m j g X).1 = -1 → ∀ (a' : Int) (X' : Int → Int), (0 ≤ a' ∧ a' ≤ 300) → R none SHR (ST (RE iv X' Y Z) (RF F (a') ((itL (iv 1) (F 2) 115 0 m j g X).1) (p) (h)) N G O T S) lw RVR) → wp (d + 3) mX12_items 41 [some (aR 0), some (aI 115), some (aR 2), some (aI 0), some (aI 5), some (aI g), some (aI (itF 115 (sg (iv 1) (F 2) j)))] [] SHR (ST (RE iv X Y Z) (RF F (j) (-1) (p) (h)) N G O T S) lw RVR 0 0 R := by
  induction m with
  | zero =>
    intro j g X hj hs hg hm kt kf
    have := pop_f (g := g) (k := 0) (by omega) (by omega)
    omega
  | succ m ih =>
    intro j g X hj hs hg hm kt kf
    have ej : skp (iv 1) (F 2) j = j := skp_n hs
    have hk := itF_r (cl := 115) (c := sg (iv 1) (F 2) j)
    rw [itL, ej] at kt kf
    by_cases c1 : itF 115 (sg (iv 1) (F 2) j) = -1 ∨ bt g (itF 115 (sg (iv 1) (F 2) j))
    · rw [if_pos c1] at kt
      have hkk := kt rfl
      refine wp_aload_n dX12_items_41 rfl ?_
      refine wp_getI dX12_items_42 fX12_86 rfl ?_
      try simp only [ST0, ST5, ST6, ST7, ST8, ST10, ST11, ST12, ST13, ST1, ST2, ST3, ST4, RE1, RE2, RE3, RE4, RF2, RF3, RF4, RF8, RF9, RF13, RF14]
      refine wp_iconst dX12_items_45 ?_
      refine wp_icmp_ne (tgt := 131) dX12_items_46 rfl (fun h46 => by exfalso; omega) (fun h46 => ?_)
      refine wp_iload dX12_items_49 rfl ?_
      refine wp_iconst dX12_items_51 ?_
      refine wp_icmp_eq (tgt := 131) dX12_items_52 rfl (fun h52 => ?_) (fun h52 => ?_)
      · refine wp_return dX12_items_131 rfl ?_
        exact hkk
      · refine wp_iload dX12_items_55 rfl ?_
        refine wp_iload dX12_items_57 rfl ?_
        refine wp_callS (as := [_, _]) (ls0 := [_, _]) (kc := 0) (ks := 0) (bc' := 0) (bs' := 0) dX12_items_59 vX12_106 rfl rfl (Nat.le_of_ble_eq_true rfl) (Nat.le_of_ble_eq_true rfl) (by omega) (by omega) ?_
        refine s_has hg.1 (by omega) (fun h59 => ?_) (fun h59 => ?_)
        · refine wp_if_ne (tgt := 131) dX12_items_62 rfl (fun _ => ?_) (fun q => absurd q (by decide))
          refine wp_return dX12_items_131 rfl ?_
          exact hkk
        · exact absurd c1 (fun z => z.elim h52 h59)
    · rw [if_neg c1] at kt kf
      have hl := sg_lt (t := iv 1) (n := F 2) (i := j) (fun e => c1 (Or.inl (by rw [e]; exact itF_n.1)))
      have hk0 : ¬ itF 115 (sg (iv 1) (F 2) j) = -1 := fun e => c1 (Or.inl e)
      have hb : ¬ bt g (itF 115 (sg (iv 1) (F 2) j)) := fun e => c1 (Or.inr e)
      have hk3 : itF 115 (sg (iv 1) (F 2) j) < 5 := by have := hk.2.2; omega
      have hps := pop_s (g := g) (k := itF 115 (sg (iv 1) (F 2) j)) (by omega) (by omega) hb
      have h2 := p2_r (k := itF 115 (sg (iv 1) (F 2) j)) (by omega)
      by_cases c2 : nmw (iv 1) (F 2) (skp (iv 1) (F 2) (j + 1)) (loF 115 (itF 115 (sg (iv 1) (F 2) j))) (hiF 115 (itF 115 (sg (iv 1) (F 2) j))) = -1
      · rw [if_pos c2] at kt kf
        have hs2 := skp_r (t := iv 1) (n := F 2) (i := j + 1) (by omega) (by omega)
        have hr := nma_r (nmw_d c2 (by omega))
        have hs3 := skp_r (t := iv 1) (n := F 2) (i := nma (iv 1) (F 2) (skp (iv 1) (F 2) (j + 1))) (by omega) (by omega)
        refine wp_aload_n dX12_items_41 rfl ?_
        refine wp_getI dX12_items_42 fX12_86 rfl ?_
        try simp only [ST0, ST5, ST6, ST7, ST8, ST10, ST11, ST12, ST13, ST1, ST2, ST3, ST4, RE1, RE2, RE3, RE4, RF2, RF3, RF4, RF8, RF9, RF13, RF14]
        refine wp_iconst dX12_items_45 ?_
        refine wp_icmp_ne (tgt := 131) dX12_items_46 rfl (fun h46 => by exfalso; omega) (fun h46 => ?_)
        refine wp_iload dX12_items_49 rfl ?_
        refine wp_iconst dX12_items_51 ?_
        refine wp_icmp_eq (tgt := 131) dX12_items_52 rfl (fun h52 => by exfalso; omega) (fun h52 => ?_)
        refine wp_iload dX12_items_55 rfl ?_
        refine wp_iload dX12_items_57 rfl ?_
        refine wp_callS (as := [_, _]) (ls0 := [_, _]) (kc := 0) (ks := 0) (bc' := 0) (bs' := 0) dX12_items_59 vX12_106 rfl rfl (Nat.le_of_ble_eq_true rfl) (Nat.le_of_ble_eq_true rfl) (by omega) (by omega) ?_
        refine s_has hg.1 (by omega) (fun h59 => absurd h59 hb) (fun h59 => ?_)
        refine wp_if_ne (tgt := 131) dX12_items_62 rfl (fun q => absurd q (by decide)) (fun _ => ?_)
        refine wp_iload dX12_items_65 rfl ?_
        refine wp_iconst dX12_items_67 ?_
        refine wp_iload dX12_items_68 rfl ?_
        refine wp_ishl dX12_items_70 (by omega) (by omega) (by exact ⟨by omega, by omega⟩) ?_
        refine wp_ior dX12_items_71 (by omega) (by omega) ?_
        refine wp_istore (ls' := [_, _, _, _, _, _, _]) dX12_items_72 (by decide) rfl rfl ?_
        refine wp_aload_n dX12_items_74 rfl ?_
        refine wp_dup dX12_items_75 rfl ?_
        refine wp_getI dX12_items_76 fX12_79 rfl ?_
        try simp only [ST0, ST5, ST6, ST7, ST8, ST10, ST11, ST12, ST13, ST1, ST2, ST3, ST4, RE1, RE2, RE3, RE4, RF2, RF3, RF4, RF8, RF9, RF13, RF14]
        refine wp_iconst dX12_items_79 ?_
        refine wp_iadd dX12_items_80 ⟨by omega, by omega⟩ ?_
        refine wp_putI dX12_items_81 fX12_79 rfl ?_
        try simp only [STu0, STu8, STu10, STu11, STu12, STu13, STu2, STu3, STu4, RE2, RE3, RE4, REu2, REu3, REu4, RFu3, RFu4, RFu8, RFu9]
        refine wp_aload_n dX12_items_84 rfl ?_
        refine wp_iload_n dX12_items_85 rfl ?_
        refine wp_iload dX12_items_86 rfl ?_
        refine wp_iadd dX12_items_88 ⟨by omega, by omega⟩ ?_
        refine wp_aload_n dX12_items_89 rfl ?_
        refine wp_iload_n dX12_items_90 rfl ?_
        refine wp_iload dX12_items_91 rfl ?_
        refine wp_callS (as := [_, _]) (ls0 := [_, _]) (kc := 0) (ks := 0) (bc' := 0) (bs' := 0) dX12_items_93 vX12_110 rfl rfl (Nat.le_of_ble_eq_true rfl) (Nat.le_of_ble_eq_true rfl) (by omega) (by omega) ?_
        refine s_lowest ?_
        refine wp_iload_n dX12_items_96 rfl ?_
        refine wp_iload dX12_items_97 rfl ?_
        refine wp_callS (as := [_, _]) (ls0 := [_, _]) (kc := 0) (ks := 0) (bc' := 0) (bs' := 0) dX12_items_99 vX12_113 rfl rfl (Nat.le_of_ble_eq_true rfl) (Nat.le_of_ble_eq_true rfl) (by omega) (by omega) ?_
        refine s_highest ?_
        refine wp_callV (as := [_, _]) (ls0 := [_, _, _, _]) (kc := 0) (ks := 0) (bc' := 0) (bs' := 0) dX12_items_102 vX12_116 rfl rfl rfl (Nat.le_of_ble_eq_true rfl) (Nat.le_of_ble_eq_true rfl) (by omega) (by omega) ?_
        refine s_numberT hn (by omega) c2 ?_
        refine wp_iast dX12_items_105 rfl (by omega) (by omega) ?_
        try simp only [STu0, STu8, STu10, STu11, STu12, STu13, STu2, STu3, STu4, RE2, RE3, RE4, REu2, REu3, REu4, RFu3, RFu4, RFu8, RFu9]
        refine wp_aload_n dX12_items_106 rfl ?_
        refine wp_getI dX12_items_107 fX12_86 rfl ?_
        try simp only [ST0, ST5, ST6, ST7, ST8, ST10, ST11, ST12, ST13, ST1, ST2, ST3, ST4, RE1, RE2, RE3, RE4, RF2, RF3, RF4, RF8, RF9, RF13, RF14]
        refine wp_iconst dX12_items_110 ?_
        refine wp_icmp_ne (tgt := 125) dX12_items_111 rfl (fun h111 => by exfalso; omega) (fun h111 => ?_)
        refine wp_iload_n dX12_items_114 rfl ?_
        refine wp_aload_n dX12_items_115 rfl ?_
        refine wp_callV (as := []) (ls0 := [_]) (kc := 0) (ks := 0) (bc' := 0) (bs' := 0) dX12_items_116 vX12_89 rfl rfl rfl (Nat.le_of_ble_eq_true rfl) (Nat.le_of_ble_eq_true rfl) (by omega) (by omega) ?_
        refine s_ahead hn (by omega) ?_
        refine wp_callS (as := [_, _]) (ls0 := [_, _]) (kc := 0) (ks := 0) (bc' := 0) (bs' := 0) dX12_items_119 vX12_103 rfl rfl (Nat.le_of_ble_eq_true rfl) (Nat.le_of_ble_eq_true rfl) (by omega) (by omega) ?_
        refine s_itemOf ?_
        refine wp_goto (tgt := 126) dX12_items_122 rfl ?_
        refine wp_istore (ls' := [_, _, _, _, _, _, _]) dX12_items_126 (by decide) rfl rfl ?_
        refine wp_goto (tgt := 41) dX12_items_128 rfl ?_
        refine ih _ _ _ ⟨by omega, by omega⟩ hs3.2.2 ⟨hps.2.1.1, by have := hps.2.1.2; unfold orB at this; omega⟩ (by have := hps.1; unfold orB at this; omega) (fun e => ?_) (fun e a' Y' ha' => ?_)
        · have e' := e
          rw [itqs m _ _ _ (by omega) (by omega)] at e' ⊢
          exact kt e'
        · have e' := e
          rw [itqs m _ _ _ (by omega) (by omega)] at e' ⊢
          exact kf e' a' Y' ha'
      · rw [if_neg c2] at kf
        have hkk := kf c2
        refine wp_aload_n dX12_items_41 rfl ?_
        refine wp_getI dX12_items_42 fX12_86 rfl ?_
        try simp only [ST0, ST5, ST6, ST7, ST8, ST10, ST11, ST12, ST13, ST1, ST2, ST3, ST4, RE1, RE2, RE3, RE4, RF2, RF3, RF4, RF8, RF9, RF13, RF14]
        refine wp_iconst dX12_items_45 ?_
        refine wp_icmp_ne (tgt := 131) dX12_items_46 rfl (fun h46 => by exfalso; omega) (fun h46 => ?_)
        refine wp_iload dX12_items_49 rfl ?_
        refine wp_iconst dX12_items_51 ?_
        refine wp_icmp_eq (tgt := 131) dX12_items_52 rfl (fun h52 => by exfalso; omega) (fun h52 => ?_)
        refine wp_iload dX12_items_55 rfl ?_
        refine wp_iload dX12_items_57 rfl ?_
        refine wp_callS (as := [_, _]) (ls0 := [_, _]) (kc := 0) (ks := 0) (bc' := 0) (bs' := 0) dX12_items_59 vX12_106 rfl rfl (Nat.le_of_ble_eq_true rfl) (Nat.le_of_ble_eq_true rfl) (by omega) (by omega) ?_
        refine s_has hg.1 (by omega) (fun h59 => absurd h59 hb) (fun h59 => ?_)
        refine wp_if_ne (tgt := 131) dX12_items_62 rfl (fun q => absurd q (by decide)) (fun _ => ?_)
        refine wp_iload dX12_items_65 rfl ?_
        refine wp_iconst dX12_items_67 ?_
        refine wp_iload dX12_items_68 rfl ?_
        refine wp_ishl dX12_items_70 (by omega) (by omega) (by exact ⟨by omega, by omega⟩) ?_
        refine wp_ior dX12_items_71 (by omega) (by omega) ?_
        refine wp_istore (ls' := [_, _, _, _, _, _, _]) dX12_items_72 (by decide) rfl rfl ?_
        refine wp_aload_n dX12_items_74 rfl ?_
        refine wp_dup dX12_items_75 rfl ?_
        refine wp_getI dX12_items_76 fX12_79 rfl ?_
        try simp only [ST0, ST5, ST6, ST7, ST8, ST10, ST11, ST12, ST13, ST1, ST2, ST3, ST4, RE1, RE2, RE3, RE4, RF2, RF3, RF4, RF8, RF9, RF13, RF14]
        refine wp_iconst dX12_items_79 ?_
        refine wp_iadd dX12_items_80 ⟨by omega, by omega⟩ ?_
        refine wp_putI dX12_items_81 fX12_79 rfl ?_
        try simp only [STu0, STu8, STu10, STu11, STu12, STu13, STu2, STu3, STu4, RE2, RE3, RE4, REu2, REu3, REu4, RFu3, RFu4, RFu8, RFu9]
        refine wp_aload_n dX12_items_84 rfl ?_
        refine wp_iload_n dX12_items_85 rfl ?_
        refine wp_iload dX12_items_86 rfl ?_
        refine wp_iadd dX12_items_88 ⟨by omega, by omega⟩ ?_
        refine wp_aload_n dX12_items_89 rfl ?_
        refine wp_iload_n dX12_items_90 rfl ?_
        refine wp_iload dX12_items_91 rfl ?_
        refine wp_callS (as := [_, _]) (ls0 := [_, _]) (kc := 0) (ks := 0) (bc' := 0) (bs' := 0) dX12_items_93 vX12_110 rfl rfl (Nat.le_of_ble_eq_true rfl) (Nat.le_of_ble_eq_true rfl) (by omega) (by omega) ?_
        refine s_lowest ?_
        refine wp_iload_n dX12_items_96 rfl ?_
        refine wp_iload dX12_items_97 rfl ?_
        refine wp_callS (as := [_, _]) (ls0 := [_, _]) (kc := 0) (ks := 0) (bc' := 0) (bs' := 0) dX12_items_99 vX12_113 rfl rfl (Nat.le_of_ble_eq_true rfl) (Nat.le_of_ble_eq_true rfl) (by omega) (by omega) ?_
        refine s_highest ?_
        refine wp_callV (as := [_, _]) (ls0 := [_, _, _, _]) (kc := 0) (ks := 0) (bc' := 0) (bs' := 0) dX12_items_102 vX12_116 rfl rfl rfl (Nat.le_of_ble_eq_true rfl) (Nat.le_of_ble_eq_true rfl) (by omega) (by omega) ?_
        refine s_numberF hn (by omega) c2 (fun v a' ha' => ?_)
        refine wp_iast dX12_items_105 rfl (by omega) (by omega) ?_
        try simp only [STu0, STu8, STu10, STu11, STu12, STu13, STu2, STu3, STu4, RE2, RE3, RE4, REu2, REu3, REu4, RFu3, RFu4, RFu8, RFu9]
        refine wp_aload_n dX12_items_106 rfl ?_
        refine wp_getI dX12_items_107 fX12_86 rfl ?_
        try simp only [ST0, ST5, ST6, ST7, ST8, ST10, ST11, ST12, ST13, ST1, ST2, ST3, ST4, RE1, RE2, RE3, RE4, RF2, RF3, RF4, RF8, RF9, RF13, RF14]
        refine wp_iconst dX12_items_110 ?_
        refine wp_icmp_ne (tgt := 125) dX12_items_111 rfl (fun h111 => ?_) (fun h111 => by exfalso; omega)
        refine wp_iconst dX12_items_125 ?_
        refine wp_istore (ls' := [_, _, _, _, _, _, _]) dX12_items_126 (by decide) rfl rfl ?_
        refine wp_goto (tgt := 41) dX12_items_128 rfl ?_
        refine wp_aload_n dX12_items_41 rfl ?_
        refine wp_getI dX12_items_42 fX12_86 rfl ?_
        try simp only [ST0, ST5, ST6, ST7, ST8, ST10, ST11, ST12, ST13, ST1, ST2, ST3, ST4, RE1, RE2, RE3, RE4, RF2, RF3, RF4, RF8, RF9, RF13, RF14]
        refine wp_iconst dX12_items_45 ?_
        refine wp_icmp_ne (tgt := 131) dX12_items_46 rfl (fun h46 => ?_) (fun h46 => by exfalso; omega)
        refine wp_return dX12_items_131 rfl ?_
        exact hkk _ _ ha'
theorem itL_sks {t : Int → Int} {n fr : Int} (m : Nat) (i g : Int) (X : Int → Int) (h0 : 0 ≤ i) (h1 : i ≤ n) : itL t n 115 fr (m + 1) (skp t n i) g X = itL t n 115 fr (m + 1) i g X := by
  have hs := skp_r (t := t) h0 h1
  rw [itL, itL, skp_n hs.2.2]
theorem l_uss (k : ∀ v5 v6 : Option aV, wp (d + 3) mX12_items 28 [some (aR 0), some (aI 115), some (aR 2), some (aI 0), some (aI 5), v5, v6] [] SHR (ST (RE iv (cpW X (usF 115) 0 5) Y Z) (RF F (a) (w) (p) (h)) N G O T S) lw RVR 0 0 R) (m : Nat) : ∀ (c : Int) (v6 : Option aV), 0 ≤ c → c + m = 5 → wp (d + 3) mX12_items 3 [some (aR 0), some (aI 115), some (aR 2), some (aI 0), some (aI 5), some (aI c), v6] [] SHR (ST (RE iv (cpW X (usF 115) 0 c) Y Z) (RF F (a) (w) (p) (h)) N G O T S) lw RVR 0 0 R := by
  induction m with
  | zero =>
    intro c v6 h0 hm
    refine wp_iload dX12_items_3 rfl ?_
    refine wp_iload dX12_items_5 rfl ?_
    refine wp_icmp_ge (tgt := 28) dX12_items_7 rfl (fun h7 => ?_) (fun h7 => by exfalso; omega)
    rw [show c = 5 by omega]; exact k _ _
  | succ m ih =>
    intro c v6 h0 hm
    refine wp_iload dX12_items_3 rfl ?_
    refine wp_iload dX12_items_5 rfl ?_
    refine wp_icmp_ge (tgt := 28) dX12_items_7 rfl (fun h7 => by exfalso; omega) (fun h7 => ?_)
    refine wp_aload_n dX12_items_10 rfl ?_
    refine wp_iload_n dX12_items_11 rfl ?_
    refine wp_iload dX12_items_12 rfl ?_
    refine wp_iadd dX12_items_14 ⟨by omega, by omega⟩ ?_
    refine wp_iload_n dX12_items_15 rfl ?_
    refine wp_iload dX12_items_16 rfl ?_
    refine wp_callS (as := [_, _]) (ls0 := [_, _]) (kc := 0) (ks := 0) (bc' := 0) (bs' := 0) dX12_items_18 vX12_99 rfl rfl (Nat.le_of_ble_eq_true rfl) (Nat.le_of_ble_eq_true rfl) (by omega) (by omega) ?_
    refine s_usual ?_
    refine wp_iast dX12_items_21 rfl (by omega) (by omega) ?_
    try simp only [STu0, STu8, STu10, STu11, STu12, STu13, STu2, STu3, STu4, RE2, RE3, RE4, REu2, REu3, REu4, RFu3, RFu4, RFu8, RFu9]
    rw [cpW_s h0]
    refine wp_iinc (ls' := [_, _, _, _, _, _, _]) dX12_items_22 (by decide) rfl rfl ⟨by omega, by omega⟩ rfl ?_
    refine wp_goto (tgt := 3) dX12_items_25 rfl ?_
    exact ih _ _ (by omega) (by omega)
theorem s_itemss (hn : 0 ≤ F 2 ∧ F 2 ≤ 240) (ha : 0 ≤ a ∧ a ≤ F 2) (kt : (itL (iv 1) (F 2) 115 0 6 a 0 (cpW X (usF 115) 0 5)).1 = -1 → R none SHR (ST (RE iv (itL (iv 1) (F 2) 115 0 6 a 0 (cpW X (usF 115) 0 5)).2.2 Y Z) (RF F ((itL (iv 1) (F 2) 115 0 6 a 0 (cpW X (usF 115) 0 5)).2.1) (-1) (p) (h)) N G O T S) lw RVR) (kf : ¬ (itL (iv 1) (F 2) 115 0 6 a 0 (cpW X (usF 115) 0 5)).1 = -1 → ∀ (a' : Int) (X' : Int → Int), (0 ≤ a' ∧ a' ≤ 300) → R none SHR (ST (RE iv X' Y Z) (RF F (a') ((itL (iv 1) (F 2) 115 0 6 a 0 (cpW X (usF 115) 0 5)).1) (p) (h)) N G O T S) lw RVR) : wp (d + 3) mX12_items 0 [some (aR 0), some (aI 115), some (aR 2), some (aI 0), some (aI 5), none, none] [] SHR (ST (RE iv X Y Z) (RF F (a) (-1) (p) (h)) N G O T S) lw RVR 0 0 R := by
  have hs := skp_r (t := iv 1) ha.1 ha.2
  refine wp_iconst dX12_items_0 ?_
  refine wp_istore (ls' := [_, _, _, _, _, _, _]) dX12_items_1 (by decide) rfl rfl ?_
  rw [show RE iv X Y Z = RE iv (cpW X (usF 115) 0 0) Y Z by rw [cpW_0]]
  refine l_uss (fun v5 v6 => ?_) 5 0 _ (by omega) (by omega)
  refine wp_iconst dX12_items_28 ?_
  refine wp_istore (ls' := [_, _, _, _, _, _, _]) dX12_items_29 (by decide) rfl rfl ?_
  refine wp_iload_n dX12_items_31 rfl ?_
  refine wp_aload_n dX12_items_32 rfl ?_
  refine wp_callV (as := []) (ls0 := [_]) (kc := 0) (ks := 0) (bc' := 0) (bs' := 0) dX12_items_33 vX12_89 rfl rfl rfl (Nat.le_of_ble_eq_true rfl) (Nat.le_of_ble_eq_true rfl) (by omega) (by omega) ?_
  refine s_ahead hn (by omega) ?_
  refine wp_callS (as := [_, _]) (ls0 := [_, _]) (kc := 0) (ks := 0) (bc' := 0) (bs' := 0) dX12_items_36 vX12_103 rfl rfl (Nat.le_of_ble_eq_true rfl) (Nat.le_of_ble_eq_true rfl) (by omega) (by omega) ?_
  refine s_itemOf ?_
  refine wp_istore (ls' := [_, _, _, _, _, _, _]) dX12_items_39 (by decide) rfl rfl ?_
  refine l_its hn 6 _ 0 _ (by omega) hs.2.2 (by omega) (by decide) (fun e => ?_) (fun e a' Y' ha' => ?_)
  · have e' := e
    rw [itL_sks _ _ _ _ ha.1 ha.2] at e' ⊢
    exact kt e'
  · have e' := e
    rw [itL_sks _ _ _ _ ha.1 ha.2] at e' ⊢
    exact kf e' a' Y' ha'
theorem itqp {t : Int → Int} {n fr : Int} (m : Nat) (i g : Int) (X : Int → Int) (h0 : 0 ≤ i) (h1 : i ≤ n) : itL t n 112 fr m (skp t n i) g X = itL t n 112 fr m i g X := by
  cases m with
  | zero => rw [itL, itL, skp_n (skp_r (t := t) h0 h1).2.2]
  | succ m => rw [itL, itL, skp_n (skp_r (t := t) h0 h1).2.2]
theorem l_itp (hn : 0 ≤ F 2 ∧ F 2 ≤ 240) (hp : 0 ≤ p ∧ p < 6) (m : Nat) : ∀ (j g : Int) (Y : Int → Int), (0 ≤ j ∧ j ≤ F 2) → ¬ sg (iv 1) (F 2) j = 32 → (0 ≤ g ∧ g < 16) → popc g.toNat + m = 5 → ((itL (iv 1) (F 2) 112 (4 * p) m j g Y).1 = -1 → R none SHR (ST (RE iv X (itL (iv 1) (F 2) 112 (4 * p) m j g Y).2.2 Z) (RF F ((itL (iv 1) (F 2) 112 (4 * p) m j g Y).2.1) (-1) (p) (h)) N G O T S) lw RVR) → (¬ (itL (iv 1) (F 2) 112 (4 * p) m j g Y).1 = -1 → ∀ (a' : Int) (Y' : Int → Int), (0 ≤ a' ∧ a' ≤ 300) → R none SHR (ST (RE iv X Y' Z) (RF F (a') ((itL (iv 1) (F 2) 112 (4 * p) m j g Y).1) (p) (h)) N G O T S) lw RVR) → wp (d + 3) mX12_items 41 [some (aR 0), some (aI 112), some (aR 3), some (aI (4 * p)), some (aI 4), some (aI g), some (aI (itF 112 (sg (iv 1) (F 2) j)))] [] SHR (ST (RE iv X Y Z) (RF F (j) (-1) (p) (h)) N G O T S) lw RVR 0 0 R := by
  induction m with
  | zero =>
    intro j g Y hj hs hg hm kt kf
    have := pop_f (g := g) (k := 0) (by omega) (by omega)
    omega
  | succ m ih =>
    intro j g Y hj hs hg hm kt kf
    have ej : skp (iv 1) (F 2) j = j := skp_n hs
    have hk := itF_r (cl := 112) (c := sg (iv 1) (F 2) j)
    rw [itL, ej] at kt kf
    by_cases c1 : itF 112 (sg (iv 1) (F 2) j) = -1 ∨ bt g (itF 112 (sg (iv 1) (F 2) j))
    · rw [if_pos c1] at kt
      have hkk := kt rfl
      refine wp_aload_n dX12_items_41 rfl ?_
      refine wp_getI dX12_items_42 fX12_86 rfl ?_
      try simp only [ST0, ST5, ST6, ST7, ST8, ST10, ST11, ST12, ST13, ST1, ST2, ST3, ST4, RE1, RE2, RE3, RE4, RF2, RF3, RF4, RF8, RF9, RF13, RF14]
      refine wp_iconst dX12_items_45 ?_
      refine wp_icmp_ne (tgt := 131) dX12_items_46 rfl (fun h46 => by exfalso; omega) (fun h46 => ?_)
      refine wp_iload dX12_items_49 rfl ?_
      refine wp_iconst dX12_items_51 ?_
      refine wp_icmp_eq (tgt := 131) dX12_items_52 rfl (fun h52 => ?_) (fun h52 => ?_)
      · refine wp_return dX12_items_131 rfl ?_
        exact hkk
      · refine wp_iload dX12_items_55 rfl ?_
        refine wp_iload dX12_items_57 rfl ?_
        refine wp_callS (as := [_, _]) (ls0 := [_, _]) (kc := 0) (ks := 0) (bc' := 0) (bs' := 0) dX12_items_59 vX12_106 rfl rfl (Nat.le_of_ble_eq_true rfl) (Nat.le_of_ble_eq_true rfl) (by omega) (by omega) ?_
        refine s_has hg.1 (by omega) (fun h59 => ?_) (fun h59 => ?_)
        · refine wp_if_ne (tgt := 131) dX12_items_62 rfl (fun _ => ?_) (fun q => absurd q (by decide))
          refine wp_return dX12_items_131 rfl ?_
          exact hkk
        · exact absurd c1 (fun z => z.elim h52 h59)
    · rw [if_neg c1] at kt kf
      have hl := sg_lt (t := iv 1) (n := F 2) (i := j) (fun e => c1 (Or.inl (by rw [e]; exact itF_n.1)))
      have hk0 : ¬ itF 112 (sg (iv 1) (F 2) j) = -1 := fun e => c1 (Or.inl e)
      have hb : ¬ bt g (itF 112 (sg (iv 1) (F 2) j)) := fun e => c1 (Or.inr e)
      have hk3 : itF 112 (sg (iv 1) (F 2) j) < 4 := by have := hk.2.2; omega
      have hps := pop_s (g := g) (k := itF 112 (sg (iv 1) (F 2) j)) (by omega) (by omega) hb
      have h2 := p2_r (k := itF 112 (sg (iv 1) (F 2) j)) (by omega)
      by_cases c2 : nmw (iv 1) (F 2) (skp (iv 1) (F 2) (j + 1)) (loF 112 (itF 112 (sg (iv 1) (F 2) j))) (hiF 112 (itF 112 (sg (iv 1) (F 2) j))) = -1
      · rw [if_pos c2] at kt kf
        have hs2 := skp_r (t := iv 1) (n := F 2) (i := j + 1) (by omega) (by omega)
        have hr := nma_r (nmw_d c2 (by omega))
        have hs3 := skp_r (t := iv 1) (n := F 2) (i := nma (iv 1) (F 2) (skp (iv 1) (F 2) (j + 1))) (by omega) (by omega)
        refine wp_aload_n dX12_items_41 rfl ?_
        refine wp_getI dX12_items_42 fX12_86 rfl ?_
        try simp only [ST0, ST5, ST6, ST7, ST8, ST10, ST11, ST12, ST13, ST1, ST2, ST3, ST4, RE1, RE2, RE3, RE4, RF2, RF3, RF4, RF8, RF9, RF13, RF14]
        refine wp_iconst dX12_items_45 ?_
        refine wp_icmp_ne (tgt := 131) dX12_items_46 rfl (fun h46 => by exfalso; omega) (fun h46 => ?_)
        refine wp_iload dX12_items_49 rfl ?_
        refine wp_iconst dX12_items_51 ?_
        refine wp_icmp_eq (tgt := 131) dX12_items_52 rfl (fun h52 => by exfalso; omega) (fun h52 => ?_)
        refine wp_iload dX12_items_55 rfl ?_
        refine wp_iload dX12_items_57 rfl ?_
        refine wp_callS (as := [_, _]) (ls0 := [_, _]) (kc := 0) (ks := 0) (bc' := 0) (bs' := 0) dX12_items_59 vX12_106 rfl rfl (Nat.le_of_ble_eq_true rfl) (Nat.le_of_ble_eq_true rfl) (by omega) (by omega) ?_
        refine s_has hg.1 (by omega) (fun h59 => absurd h59 hb) (fun h59 => ?_)
        refine wp_if_ne (tgt := 131) dX12_items_62 rfl (fun q => absurd q (by decide)) (fun _ => ?_)
        refine wp_iload dX12_items_65 rfl ?_
        refine wp_iconst dX12_items_67 ?_
        refine wp_iload dX12_items_68 rfl ?_
        refine wp_ishl dX12_items_70 (by omega) (by omega) (by exact ⟨by omega, by omega⟩) ?_
        refine wp_ior dX12_items_71 (by omega) (by omega) ?_
        refine wp_istore (ls' := [_, _, _, _, _, _, _]) dX12_items_72 (by decide) rfl rfl ?_
        refine wp_aload_n dX12_items_74 rfl ?_
        refine wp_dup dX12_items_75 rfl ?_
        refine wp_getI dX12_items_76 fX12_79 rfl ?_
        try simp only [ST0, ST5, ST6, ST7, ST8, ST10, ST11, ST12, ST13, ST1, ST2, ST3, ST4, RE1, RE2, RE3, RE4, RF2, RF3, RF4, RF8, RF9, RF13, RF14]
        refine wp_iconst dX12_items_79 ?_
        refine wp_iadd dX12_items_80 ⟨by omega, by omega⟩ ?_
        refine wp_putI dX12_items_81 fX12_79 rfl ?_
        try simp only [STu0, STu8, STu10, STu11, STu12, STu13, STu2, STu3, STu4, RE2, RE3, RE4, REu2, REu3, REu4, RFu3, RFu4, RFu8, RFu9]
        refine wp_aload_n dX12_items_84 rfl ?_
        refine wp_iload_n dX12_items_85 rfl ?_
        refine wp_iload dX12_items_86 rfl ?_
        refine wp_iadd dX12_items_88 ⟨by omega, by omega⟩ ?_
        refine wp_aload_n dX12_items_89 rfl ?_
        refine wp_iload_n dX12_items_90 rfl ?_
        refine wp_iload dX12_items_91 rfl ?_
        refine wp_callS (as := [_, _]) (ls0 := [_, _]) (kc := 0) (ks := 0) (bc' := 0) (bs' := 0) dX12_items_93 vX12_110 rfl rfl (Nat.le_of_ble_eq_true rfl) (Nat.le_of_ble_eq_true rfl) (by omega) (by omega) ?_
        refine s_lowest ?_
        refine wp_iload_n dX12_items_96 rfl ?_
        refine wp_iload dX12_items_97 rfl ?_
        refine wp_callS (as := [_, _]) (ls0 := [_, _]) (kc := 0) (ks := 0) (bc' := 0) (bs' := 0) dX12_items_99 vX12_113 rfl rfl (Nat.le_of_ble_eq_true rfl) (Nat.le_of_ble_eq_true rfl) (by omega) (by omega) ?_
        refine s_highest ?_
        refine wp_callV (as := [_, _]) (ls0 := [_, _, _, _]) (kc := 0) (ks := 0) (bc' := 0) (bs' := 0) dX12_items_102 vX12_116 rfl rfl rfl (Nat.le_of_ble_eq_true rfl) (Nat.le_of_ble_eq_true rfl) (by omega) (by omega) ?_
        refine s_numberT hn (by omega) c2 ?_
        refine wp_iast dX12_items_105 rfl (by omega) (by omega) ?_
        try simp only [STu0, STu8, STu10, STu11, STu12, STu13, STu2, STu3, STu4, RE2, RE3, RE4, REu2, REu3, REu4, RFu3, RFu4, RFu8, RFu9]
        refine wp_aload_n dX12_items_106 rfl ?_
        refine wp_getI dX12_items_107 fX12_86 rfl ?_
        try simp only [ST0, ST5, ST6, ST7, ST8, ST10, ST11, ST12, ST13, ST1, ST2, ST3, ST4, RE1, RE2, RE3, RE4, RF2, RF3, RF4, RF8, RF9, RF13, RF14]
        refine wp_iconst dX12_items_110 ?_
        refine wp_icmp_ne (tgt := 125) dX12_items_111 rfl (fun h111 => by exfalso; omega) (fun h111 => ?_)
        refine wp_iload_n dX12_items_114 rfl ?_
        refine wp_aload_n dX12_items_115 rfl ?_
        refine wp_callV (as := []) (ls0 := [_]) (kc := 0) (ks := 0) (bc' := 0) (bs' := 0) dX12_items_116 vX12_89 rfl rfl rfl (Nat.le_of_ble_eq_true rfl) (Nat.le_of_ble_eq_true rfl) (by omega) (by omega) ?_
        refine s_ahead hn (by omega) ?_
        refine wp_callS (as := [_, _]) (ls0 := [_, _]) (kc := 0) (ks := 0) (bc' := 0) (bs' := 0) dX12_items_119 vX12_103 rfl rfl (Nat.le_of_ble_eq_true rfl) (Nat.le_of_ble_eq_true rfl) (by omega) (by omega) ?_
        refine s_itemOf ?_
        refine wp_goto (tgt := 126) dX12_items_122 rfl ?_
        refine wp_istore (ls' := [_, _, _, _, _, _, _]) dX12_items_126 (by decide) rfl rfl ?_
        refine wp_goto (tgt := 41) dX12_items_128 rfl ?_
        refine ih _ _ _ ⟨by omega, by omega⟩ hs3.2.2 ⟨hps.2.1.1, by have := hps.2.2 (by omega) (by omega); unfold orB at this; omega⟩ (by have := hps.1; unfold orB at this; omega) (fun e => ?_) (fun e a' Y' ha' => ?_)
        · have e' := e
          rw [itqp m _ _ _ (by omega) (by omega)] at e' ⊢
          exact kt e'
        · have e' := e
          rw [itqp m _ _ _ (by omega) (by omega)] at e' ⊢
          exact kf e' a' Y' ha'
      · rw [if_neg c2] at kf
        have hkk := kf c2
        refine wp_aload_n dX12_items_41 rfl ?_
        refine wp_getI dX12_items_42 fX12_86 rfl ?_
        try simp only [ST0, ST5, ST6, ST7, ST8, ST10, ST11, ST12, ST13, ST1, ST2, ST3, ST4, RE1, RE2, RE3, RE4, RF2, RF3, RF4, RF8, RF9, RF13, RF14]
        refine wp_iconst dX12_items_45 ?_
        refine wp_icmp_ne (tgt := 131) dX12_items_46 rfl (fun h46 => by exfalso; omega) (fun h46 => ?_)
        refine wp_iload dX12_items_49 rfl ?_
        refine wp_iconst dX12_items_51 ?_
        refine wp_icmp_eq (tgt := 131) dX12_items_52 rfl (fun h52 => by exfalso; omega) (fun h52 => ?_)
        refine wp_iload dX12_items_55 rfl ?_
        refine wp_iload dX12_items_57 rfl ?_
        refine wp_callS (as := [_, _]) (ls0 := [_, _]) (kc := 0) (ks := 0) (bc' := 0) (bs' := 0) dX12_items_59 vX12_106 rfl rfl (Nat.le_of_ble_eq_true rfl) (Nat.le_of_ble_eq_true rfl) (by omega) (by omega) ?_
        refine s_has hg.1 (by omega) (fun h59 => absurd h59 hb) (fun h59 => ?_)
        refine wp_if_ne (tgt := 131) dX12_items_62 rfl (fun q => absurd q (by decide)) (fun _ => ?_)
        refine wp_iload dX12_items_65 rfl ?_
        refine wp_iconst dX12_items_67 ?_
        refine wp_iload dX12_items_68 rfl ?_
        refine wp_ishl dX12_items_70 (by omega) (by omega) (by exact ⟨by omega, by omega⟩) ?_
        refine wp_ior dX12_items_71 (by omega) (by omega) ?_
        refine wp_istore (ls' := [_, _, _, _, _, _, _]) dX12_items_72 (by decide) rfl rfl ?_
        refine wp_aload_n dX12_items_74 rfl ?_
        refine wp_dup dX12_items_75 rfl ?_
        refine wp_getI dX12_items_76 fX12_79 rfl ?_
        try simp only [ST0, ST5, ST6, ST7, ST8, ST10, ST11, ST12, ST13, ST1, ST2, ST3, ST4, RE1, RE2, RE3, RE4, RF2, RF3, RF4, RF8, RF9, RF13, RF14]
        refine wp_iconst dX12_items_79 ?_
        refine wp_iadd dX12_items_80 ⟨by omega, by omega⟩ ?_
        refine wp_putI dX12_items_81 fX12_79 rfl ?_
        try simp only [STu0, STu8, STu10, STu11, STu12, STu13, STu2, STu3, STu4, RE2, RE3, RE4, REu2, REu3, REu4, RFu3, RFu4, RFu8, RFu9]
        refine wp_aload_n dX12_items_84 rfl ?_
        refine wp_iload_n dX12_items_85 rfl ?_
        refine wp_iload dX12_items_86 rfl ?_
        refine wp_iadd dX12_items_88 ⟨by omega, by omega⟩ ?_
        refine wp_aload_n dX12_items_89 rfl ?_
        refine wp_iload_n dX12_items_90 rfl ?_
        refine wp_iload dX12_items_91 rfl ?_
        refine wp_callS (as := [_, _]) (ls0 := [_, _]) (kc := 0) (ks := 0) (bc' := 0) (bs' := 0) dX12_items_93 vX12_110 rfl rfl (Nat.le_of_ble_eq_true rfl) (Nat.le_of_ble_eq_true rfl) (by omega) (by omega) ?_
        refine s_lowest ?_
        refine wp_iload_n dX12_items_96 rfl ?_
        refine wp_iload dX12_items_97 rfl ?_
        refine wp_callS (as := [_, _]) (ls0 := [_, _]) (kc := 0) (ks := 0) (bc' := 0) (bs' := 0) dX12_items_99 vX12_113 rfl rfl (Nat.le_of_ble_eq_true rfl) (Nat.le_of_ble_eq_true rfl) (by omega) (by omega) ?_
        refine s_highest ?_
        refine wp_callV (as := [_, _]) (ls0 := [_, _, _, _]) (kc := 0) (ks := 0) (bc' := 0) (bs' := 0) dX12_items_102 vX12_116 rfl rfl rfl (Nat.le_of_ble_eq_true rfl) (Nat.le_of_ble_eq_true rfl) (by omega) (by omega) ?_
        refine s_numberF hn (by omega) c2 (fun v a' ha' => ?_)
        refine wp_iast dX12_items_105 rfl (by omega) (by omega) ?_
        try simp only [STu0, STu8, STu10, STu11, STu12, STu13, STu2, STu3, STu4, RE2, RE3, RE4, REu2, REu3, REu4, RFu3, RFu4, RFu8, RFu9]
        refine wp_aload_n dX12_items_106 rfl ?_
        refine wp_getI dX12_items_107 fX12_86 rfl ?_
        try simp only [ST0, ST5, ST6, ST7, ST8, ST10, ST11, ST12, ST13, ST1, ST2, ST3, ST4, RE1, RE2, RE3, RE4, RF2, RF3, RF4, RF8, RF9, RF13, RF14]
        refine wp_iconst dX12_items_110 ?_
        refine wp_icmp_ne (tgt := 125) dX12_items_111 rfl (fun h111 => ?_) (fun h111 => by exfalso; omega)
        refine wp_iconst dX12_items_125 ?_
        refine wp_istore (ls' := [_, _, _, _, _, _, _]) dX12_items_126 (by decide) rfl rfl ?_
        refine wp_goto (tgt := 41) dX12_items_128 rfl ?_
        refine wp_aload_n dX12_items_41 rfl ?_
        refine wp_getI dX12_items_42 fX12_86 rfl ?_
        try simp only [ST0, ST5, ST6, ST7, ST8, ST10, ST11, ST12, ST13, ST1, ST2, ST3, ST4, RE1, RE2, RE3, RE4, RF2, RF3, RF4, RF8, RF9, RF13, RF14]
        refine wp_iconst dX12_items_45 ?_
        refine wp_icmp_ne (tgt := 131) dX12_items_46 rfl (fun h46 => ?_) (fun h46 => by exfalso; omega)
        refine wp_return dX12_items_131 rfl ?_
        exact hkk _ _ ha'
theorem itL_skp {t : Int → Int} {n fr : Int} (m : Nat) (i g : Int) (X : Int → Int) (h0 : 0 ≤ i) (h1 : i ≤ n) : itL t n 112 fr (m + 1) (skp t n i) g X = itL t n 112 fr (m + 1) i g X := by
  have hs := skp_r (t := t) h0 h1
  rw [itL, itL, skp_n hs.2.2]
theorem l_usp (hp : 0 ≤ p ∧ p < 6) (k : ∀ v5 v6 : Option aV, wp (d + 3) mX12_items 28 [some (aR 0), some (aI 112), some (aR 3), some (aI (4 * p)), some (aI 4), v5, v6] [] SHR (ST (RE iv X (cpW Y (usF 112) (4 * p) 4) Z) (RF F (a) (w) (p) (h)) N G O T S) lw RVR 0 0 R) (m : Nat) : ∀ (c : Int) (v6 : Option aV), 0 ≤ c → c + m = 4 → wp (d + 3) mX12_items 3 [some (aR 0), some (aI 112), some (aR 3), some (aI (4 * p)), some (aI 4), some (aI c), v6] [] SHR (ST (RE iv X (cpW Y (usF 112) (4 * p) c) Z) (RF F (a) (w) (p) (h)) N G O T S) lw RVR 0 0 R := by
  induction m with
  | zero =>
    intro c v6 h0 hm
    refine wp_iload dX12_items_3 rfl ?_
    refine wp_iload dX12_items_5 rfl ?_
    refine wp_icmp_ge (tgt := 28) dX12_items_7 rfl (fun h7 => ?_) (fun h7 => by exfalso; omega)
    rw [show c = 4 by omega]; exact k _ _
  | succ m ih =>
    intro c v6 h0 hm
    refine wp_iload dX12_items_3 rfl ?_
    refine wp_iload dX12_items_5 rfl ?_
    refine wp_icmp_ge (tgt := 28) dX12_items_7 rfl (fun h7 => by exfalso; omega) (fun h7 => ?_)
    refine wp_aload_n dX12_items_10 rfl ?_
    refine wp_iload_n dX12_items_11 rfl ?_
    refine wp_iload dX12_items_12 rfl ?_
    refine wp_iadd dX12_items_14 ⟨by omega, by omega⟩ ?_
    refine wp_iload_n dX12_items_15 rfl ?_
    refine wp_iload dX12_items_16 rfl ?_
    refine wp_callS (as := [_, _]) (ls0 := [_, _]) (kc := 0) (ks := 0) (bc' := 0) (bs' := 0) dX12_items_18 vX12_99 rfl rfl (Nat.le_of_ble_eq_true rfl) (Nat.le_of_ble_eq_true rfl) (by omega) (by omega) ?_
    refine s_usual ?_
    refine wp_iast dX12_items_21 rfl (by omega) (by omega) ?_
    try simp only [STu0, STu8, STu10, STu11, STu12, STu13, STu2, STu3, STu4, RE2, RE3, RE4, REu2, REu3, REu4, RFu3, RFu4, RFu8, RFu9]
    rw [cpW_s h0]
    refine wp_iinc (ls' := [_, _, _, _, _, _, _]) dX12_items_22 (by decide) rfl rfl ⟨by omega, by omega⟩ rfl ?_
    refine wp_goto (tgt := 3) dX12_items_25 rfl ?_
    exact ih _ _ (by omega) (by omega)
theorem s_itemsp (hn : 0 ≤ F 2 ∧ F 2 ≤ 240) (hp : 0 ≤ p ∧ p < 6) (ha : 0 ≤ a ∧ a ≤ F 2) (kt : (itL (iv 1) (F 2) 112 (4 * p) 5 a 0 (cpW Y (usF 112) (4 * p) 4)).1 = -1 → R none SHR (ST (RE iv X (itL (iv 1) (F 2) 112 (4 * p) 5 a 0 (cpW Y (usF 112) (4 * p) 4)).2.2 Z) (RF F ((itL (iv 1) (F 2) 112 (4 * p) 5 a 0 (cpW Y (usF 112) (4 * p) 4)).2.1) (-1) (p) (h)) N G O T S) lw RVR) (kf : ¬ (itL (iv 1) (F 2) 112 (4 * p) 5 a 0 (cpW Y (usF 112) (4 * p) 4)).1 = -1 → ∀ (a' : Int) (Y' : Int → Int), (0 ≤ a' ∧ a' ≤ 300) → R none SHR (ST (RE iv X Y' Z) (RF F (a') ((itL (iv 1) (F 2) 112 (4 * p) 5 a 0 (cpW Y (usF 112) (4 * p) 4)).1) (p) (h)) N G O T S) lw RVR) : wp (d + 3) mX12_items 0 [some (aR 0), some (aI 112), some (aR 3), some (aI (4 * p)), some (aI 4), none, none] [] SHR (ST (RE iv X Y Z) (RF F (a) (-1) (p) (h)) N G O T S) lw RVR 0 0 R := by
  have hs := skp_r (t := iv 1) ha.1 ha.2
  refine wp_iconst dX12_items_0 ?_
  refine wp_istore (ls' := [_, _, _, _, _, _, _]) dX12_items_1 (by decide) rfl rfl ?_
  rw [show RE iv X Y Z = RE iv X (cpW Y (usF 112) (4 * p) 0) Z by rw [cpW_0]]
  refine l_usp hp (fun v5 v6 => ?_) 4 0 _ (by omega) (by omega)
  refine wp_iconst dX12_items_28 ?_
  refine wp_istore (ls' := [_, _, _, _, _, _, _]) dX12_items_29 (by decide) rfl rfl ?_
  refine wp_iload_n dX12_items_31 rfl ?_
  refine wp_aload_n dX12_items_32 rfl ?_
  refine wp_callV (as := []) (ls0 := [_]) (kc := 0) (ks := 0) (bc' := 0) (bs' := 0) dX12_items_33 vX12_89 rfl rfl rfl (Nat.le_of_ble_eq_true rfl) (Nat.le_of_ble_eq_true rfl) (by omega) (by omega) ?_
  refine s_ahead hn (by omega) ?_
  refine wp_callS (as := [_, _]) (ls0 := [_, _]) (kc := 0) (ks := 0) (bc' := 0) (bs' := 0) dX12_items_36 vX12_103 rfl rfl (Nat.le_of_ble_eq_true rfl) (Nat.le_of_ble_eq_true rfl) (by omega) (by omega) ?_
  refine s_itemOf ?_
  refine wp_istore (ls' := [_, _, _, _, _, _, _]) dX12_items_39 (by decide) rfl rfl ?_
  refine l_itp hn hp 5 _ 0 _ (by omega) hs.2.2 (by omega) (by decide) (fun e => ?_) (fun e a' Y' ha' => ?_)
  · have e' := e
    rw [itL_skp _ _ _ _ ha.1 ha.2] at e' ⊢
    exact kt e'
  · have e' := e
    rw [itL_skp _ _ _ _ ha.1 ha.2] at e' ⊢
    exact kf e' a' Y' ha'
end R27
