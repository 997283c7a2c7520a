section C23
variable {d : Nat} {sh : aSh} {iv lw : aF} {rv : aP} {R : aPost} {r X Y Z t : Int → Int} {p h q a u n : Int}
theorem cpy5 : cpyI (fun k => (aXl 5).getD k.toNat 0) Y 0 (4 * p) 4 = cpW Y (usF 112) (4 * p) 4 := by
  funext k
  unfold cpyI cpW
  by_cases e : 4 * p ≤ k ∧ k < 4 * p + 4
  · rw [if_pos e, if_pos e]
    rcases (by omega : k - 4 * p = 0 ∨ k - 4 * p = 1 ∨ k - 4 * p = 2 ∨ k - 4 * p = 3) with e2 | e2 | e2 | e2 <;> rw [e2] <;> rfl
  · rw [if_neg e, if_neg e]
theorem cpy2 : cpyI (fun k => (aXl 2).getD k.toNat 0) X 0 0 5 = cpW X (usF 115) 0 5 := by
  funext k
  unfold cpyI cpW
  by_cases e : 0 ≤ k ∧ k < 0 + 5
  · rw [if_pos e, if_pos e]
    rcases (by omega : k - 0 = 0 ∨ k - 0 = 1 ∨ k - 0 = 2 ∨ k - 0 = 3 ∨ k - 0 = 4) with e2 | e2 | e2 | e2 | e2 <;> rw [e2] <;> rfl
  · rw [if_neg e, if_neg e]
theorem l_cwh1 {x : Int} (hA : RdA sh rv) (hp : 0 ≤ p ∧ p ≤ 6) (kt : Whl p Y → R (some (aI 1)) sh (CR iv (RQ r (p) (h) (q) (a) (u)) X Y Z) lw rv) (kf : ¬ Whl p Y → R (some (aI 0)) sh (CR iv (RQ r (p) (h) (q) (a) (u)) X Y Z) lw rv) (hx : 0 ≤ x ∧ x < p) (h0' : ¬ Y (4 * x + 0) = Y (4 * x + 1)) (k : WhP Y x → ∀ v4 : Option aV, wp (d) mX8_isWhole 86 [some (aR 7), some (aI x), some (aI (Y (4 * x + 0))), some (aI (Y (4 * x + 1))), v4] [] sh (CR iv (RQ r (p) (h) (q) (a) (u)) X Y Z) lw rv 0 0 R) (m : Nat) : ∀ y : Int, 0 ≤ y → y + m = x → (∀ z : Int, 0 ≤ z → z < y → ¬ (Y (4 * x + 0) = Y (4 * z + 0) ∧ Y (4 * x + 1) = Y (4 * z + 1))) → wp (d) mX8_isWhole 42 [some (aR 7), some (aI x), some (aI (Y (4 * x + 0))), some (aI (Y (4 * x + 1))), some (aI y)] [] sh (CR iv (RQ r (p) (h) (q) (a) (u)) X Y Z) lw rv 0 0 R := by
  induction m with
  | zero =>
    intro y h0 hm hz
    refine wp_iload dX8_isWhole_42 rfl ?_
    refine wp_iload_n dX8_isWhole_44 rfl ?_
    refine wp_icmp_ge (tgt := 86) dX8_isWhole_45 rfl (fun h45 => ?_) (fun h45 => by exfalso; omega)
    exact k ⟨h0', fun z a b => hz z a (by omega)⟩ _
  | succ m ih =>
    intro y h0 hm hz
    refine wp_iload dX8_isWhole_42 rfl ?_
    refine wp_iload_n dX8_isWhole_44 rfl ?_
    refine wp_icmp_ge (tgt := 86) dX8_isWhole_45 rfl (fun h45 => by exfalso; omega) (fun h45 => ?_)
    refine wp_aload_n dX8_isWhole_48 rfl ?_
    refine wp_getR hA.2.2.2.1 dX8_isWhole_49 fX8_17 hA.1 ?_
    refine wp_iload dX8_isWhole_52 rfl ?_
    refine wp_iconst dX8_isWhole_54 ?_
    refine wp_imul dX8_isWhole_55 ⟨by omega, by omega⟩ ?_
    refine wp_iconst dX8_isWhole_56 ?_
    refine wp_iadd dX8_isWhole_57 ⟨by omega, by omega⟩ ?_
    refine wp_iald dX8_isWhole_58 hA.2.2.2.2.2.2.1 (by omega) (by omega) ?_
    try simp only [CR1, CR2, CR7, CR8, CR9, CR10, RQ4, RQ5, RQ6, RQ7, RQ8, CR1]
    rw [show y * 4 + 0 = 4 * y + 0 by omega]
    refine wp_iload_n dX8_isWhole_59 rfl ?_
    refine wp_icmp_ne (tgt := 80) dX8_isWhole_60 rfl (fun h60 => ?_) (fun h60 => ?_)
    · refine wp_iinc (ls' := [_, _, _, _, _]) dX8_isWhole_80 (by decide) rfl rfl ⟨by omega, by omega⟩ rfl ?_
      refine wp_goto (tgt := 42) dX8_isWhole_83 rfl ?_
      exact ih _ (by omega) (by omega) (fun z a b => by
        by_cases e : z = y
        · rw [e]; first | exact (fun w => h75 w.2.symm) | exact (fun w => h60 w.1.symm)
        · exact hz z a (by omega))
    · refine wp_aload_n dX8_isWhole_63 rfl ?_
      refine wp_getR hA.2.2.2.1 dX8_isWhole_64 fX8_17 hA.1 ?_
      refine wp_iload dX8_isWhole_67 rfl ?_
      refine wp_iconst dX8_isWhole_69 ?_
      refine wp_imul dX8_isWhole_70 ⟨by omega, by omega⟩ ?_
      refine wp_iconst dX8_isWhole_71 ?_
      refine wp_iadd dX8_isWhole_72 ⟨by omega, by omega⟩ ?_
      refine wp_iald dX8_isWhole_73 hA.2.2.2.2.2.2.1 (by omega) (by omega) ?_
      try simp only [CR1, CR2, CR7, CR8, CR9, CR10, RQ4, RQ5, RQ6, RQ7, RQ8, CR1]
      rw [show y * 4 + 1 = 4 * y + 1 by omega]
      refine wp_iload_n dX8_isWhole_74 rfl ?_
      refine wp_icmp_ne (tgt := 80) dX8_isWhole_75 rfl (fun h75 => ?_) (fun h75 => ?_)
      · refine wp_iinc (ls' := [_, _, _, _, _]) dX8_isWhole_80 (by decide) rfl rfl ⟨by omega, by omega⟩ rfl ?_
        refine wp_goto (tgt := 42) dX8_isWhole_83 rfl ?_
        exact ih _ (by omega) (by omega) (fun z a b => by
          by_cases e : z = y
          · rw [e]; first | exact (fun w => h75 w.2.symm) | exact (fun w => h60 w.1.symm)
          · exact hz z a (by omega))
      · refine wp_iconst dX8_isWhole_78 ?_
        refine wp_zreturn dX8_isWhole_79 rfl (Or.inl rfl) ?_
        exact kf (fun z => (z.2 x hx.1 hx.2).2 y h0 (by omega) ⟨h60.symm, h75.symm⟩)
theorem l_cwh2 (hA : RdA sh rv) (hp : 0 ≤ p ∧ p ≤ 6) (kt : Whl p Y → R (some (aI 1)) sh (CR iv (RQ r (p) (h) (q) (a) (u)) X Y Z) lw rv) (kf : ¬ Whl p Y → R (some (aI 0)) sh (CR iv (RQ r (p) (h) (q) (a) (u)) X Y Z) lw rv) (m : Nat) : ∀ (x : Int) (v2 v3 v4 : Option aV), 0 ≤ x → x + m = p → (∀ z : Int, 0 ≤ z → z < x → WhP Y z) → wp (d) mX8_isWhole 2 [some (aR 7), some (aI x), v2, v3, v4] [] sh (CR iv (RQ r (p) (h) (q) (a) (u)) X Y Z) lw rv 0 0 R := by
  induction m with
  | zero =>
    intro x v2 v3 v4 h0 hm hz
    refine wp_iload_n dX8_isWhole_2 rfl ?_
    refine wp_aload_n dX8_isWhole_3 rfl ?_
    refine wp_getI dX8_isWhole_4 fX8_31 hA.1 ?_
    try simp only [CR1, CR2, CR7, CR8, CR9, CR10, RQ4, RQ5, RQ6, RQ7, RQ8, CR1]
    refine wp_icmp_ge (tgt := 92) dX8_isWhole_7 rfl (fun h7 => ?_) (fun h7 => by exfalso; omega)
    refine wp_aload_n dX8_isWhole_92 rfl ?_
    refine wp_getI dX8_isWhole_93 fX8_31 hA.1 ?_
    try simp only [CR1, CR2, CR7, CR8, CR9, CR10, RQ4, RQ5, RQ6, RQ7, RQ8, CR1]
    refine wp_if_le (tgt := 103) dX8_isWhole_96 rfl (fun h96 => ?_) (fun h96 => ?_)
    · refine wp_iconst dX8_isWhole_103 ?_
      refine wp_zreturn dX8_isWhole_104 rfl (Or.inl rfl) ?_
      exact kf (fun z => by have := z.1; omega)
    · refine wp_iconst dX8_isWhole_99 ?_
      refine wp_goto (tgt := 104) dX8_isWhole_100 rfl ?_
      refine wp_zreturn dX8_isWhole_104 rfl (Or.inr rfl) ?_
      exact kt ⟨by omega, fun z a b => hz z a (by omega)⟩
  | succ m ih =>
    intro x v2 v3 v4 h0 hm hz
    refine wp_iload_n dX8_isWhole_2 rfl ?_
    refine wp_aload_n dX8_isWhole_3 rfl ?_
    refine wp_getI dX8_isWhole_4 fX8_31 hA.1 ?_
    try simp only [CR1, CR2, CR7, CR8, CR9, CR10, RQ4, RQ5, RQ6, RQ7, RQ8, CR1]
    refine wp_icmp_ge (tgt := 92) dX8_isWhole_7 rfl (fun h7 => by exfalso; omega) (fun h7 => ?_)
    refine wp_aload_n dX8_isWhole_10 rfl ?_
    refine wp_getR hA.2.2.2.1 dX8_isWhole_11 fX8_17 hA.1 ?_
    refine wp_iload_n dX8_isWhole_14 rfl ?_
    refine wp_iconst dX8_isWhole_15 ?_
    refine wp_imul dX8_isWhole_16 ⟨by omega, by omega⟩ ?_
    refine wp_iconst dX8_isWhole_17 ?_
    refine wp_iadd dX8_isWhole_18 ⟨by omega, by omega⟩ ?_
    refine wp_iald dX8_isWhole_19 hA.2.2.2.2.2.2.1 (by omega) (by omega) ?_
    try simp only [CR1, CR2, CR7, CR8, CR9, CR10, RQ4, RQ5, RQ6, RQ7, RQ8, CR1]
    rw [show x * 4 + 0 = 4 * x + 0 by omega]
    refine wp_istore_n (ls' := [_, _, _, _, _]) dX8_isWhole_20 (by decide) rfl rfl ?_
    refine wp_aload_n dX8_isWhole_21 rfl ?_
    refine wp_getR hA.2.2.2.1 dX8_isWhole_22 fX8_17 hA.1 ?_
    refine wp_iload_n dX8_isWhole_25 rfl ?_
    refine wp_iconst dX8_isWhole_26 ?_
    refine wp_imul dX8_isWhole_27 ⟨by omega, by omega⟩ ?_
    refine wp_iconst dX8_isWhole_28 ?_
    refine wp_iadd dX8_isWhole_29 ⟨by omega, by omega⟩ ?_
    refine wp_iald dX8_isWhole_30 hA.2.2.2.2.2.2.1 (by omega) (by omega) ?_
    try simp only [CR1, CR2, CR7, CR8, CR9, CR10, RQ4, RQ5, RQ6, RQ7, RQ8, CR1]
    rw [show x * 4 + 1 = 4 * x + 1 by omega]
    refine wp_istore_n (ls' := [_, _, _, _, _]) dX8_isWhole_31 (by decide) rfl rfl ?_
    refine wp_iload_n dX8_isWhole_32 rfl ?_
    refine wp_iload_n dX8_isWhole_33 rfl ?_
    refine wp_icmp_ne (tgt := 39) dX8_isWhole_34 rfl (fun h34 => ?_) (fun h34 => ?_)
    · refine wp_iconst dX8_isWhole_39 ?_
      refine wp_istore (ls' := [_, _, _, _, _]) dX8_isWhole_40 (by decide) rfl rfl ?_
      refine l_cwh1 hA hp kt kf (by omega) h34 (fun hw v4 => ?_) x.toNat 0 (by omega) (by omega) (fun z a b => by omega)
      refine wp_iinc (ls' := [_, _, _, _, _]) dX8_isWhole_86 (by decide) rfl rfl ⟨by omega, by omega⟩ rfl ?_
      refine wp_goto (tgt := 2) dX8_isWhole_89 rfl ?_
      exact ih _ _ _ _ (by omega) (by omega) (fun z a b => by
        by_cases e : z = x
        · rw [e]; exact hw
        · exact hz z a (by omega))
    · refine wp_iconst dX8_isWhole_37 ?_
      refine wp_zreturn dX8_isWhole_38 rfl (Or.inl rfl) ?_
      exact kf (fun z => (z.2 x h0 (by omega)).1 h34)
theorem p_isWhole (hA : RdA sh rv) (hp : 0 ≤ p ∧ p ≤ 6) (kt : Whl p Y → R (some (aI 1)) sh (CR iv (RQ r (p) (h) (q) (a) (u)) X Y Z) lw rv) (kf : ¬ Whl p Y → R (some (aI 0)) sh (CR iv (RQ r (p) (h) (q) (a) (u)) X Y Z) lw rv) : wp (d) mX8_isWhole 0 [some (aR 7), none, none, none, none] [] sh (CR iv (RQ r (p) (h) (q) (a) (u)) X Y Z) lw rv 0 0 R := by
  refine wp_iconst dX8_isWhole_0 ?_
  refine wp_istore_n (ls' := [_, _, _, _, _]) dX8_isWhole_1 (by decide) rfl rfl ?_
  exact l_cwh2 hA hp kt kf p.toNat 0 _ _ _ (by omega) (by omega) (fun z a b => by omega)
theorem p_clauseA (hA : RdA sh rv) (hT0 : TpA sh rv) (hT : TpR iv t n) (ha : 0 ≤ a ∧ a ≤ n) (c1 : sg t n (skp t n a) = 115) (kt : (itL t n 115 0 6 (skp t n a + 1) 0 X).1 = -1 → ∀ u' : Int, R (some (aI (rIt t n (itL t n 115 0 6 (skp t n a + 1) 0 X).2.1))) sh (CR iv (RQ r (p) (h) (1) ((itL t n 115 0 6 (skp t n a + 1) 0 X).2.1) (u')) (itL t n 115 0 6 (skp t n a + 1) 0 X).2.2 Y Z) lw rv) (kf : ¬ (itL t n 115 0 6 (skp t n a + 1) 0 X).1 = -1 → ∀ (a' u' : Int) (X' : Int → Int), R (some (aI (itL t n 115 0 6 (skp t n a + 1) 0 X).1)) sh (CR iv (RQ r (p) (h) (1) (a') (u')) X' Y Z) lw rv) : wp (d + 5) mX8_readClause 0 [some (aR 7), none, none] [] sh (CR iv (RQ r (p) (h) (0) (a) (u)) X Y Z) lw rv 0 0 R := by
  obtain ⟨-, hn, -, -⟩ := id hT
  have hs := skp_r (t := t) ha.1 ha.2
  have hl := sg_lt (t := t) (n := n) (i := skp t n a) (by omega)
  refine wp_aload_n dX8_readClause_0 rfl ?_
  refine wp_callV (as := []) (ls0 := [_, _]) (kc := 0) (ks := 0) (bc' := 0) (bs' := 0) dX8_readClause_1 vX8_71 hA.1 rfl rfl (Nat.le_of_ble_eq_true rfl) (Nat.le_of_ble_eq_true rfl) (by omega) (by omega) ?_
  refine p_skip hA hT0 hT ha ?_
  refine wp_aload_n dX8_readClause_4 rfl ?_
  refine wp_getR hA.2.1 dX8_readClause_5 fX8_23 hA.1 ?_
  refine wp_aload_n dX8_readClause_8 rfl ?_
  refine wp_getI dX8_readClause_9 fX8_27 hA.1 ?_
  try simp only [CR1, CR2, CR7, CR8, CR9, CR10, RQ4, RQ5, RQ6, RQ7, RQ8, hT.1]
  refine wp_callV (as := [_]) (ls0 := [_, _]) (kc := 0) (ks := 0) (bc' := 0) (bs' := 0) dX8_readClause_12 vX8_63 hT0.1 rfl rfl (Nat.le_of_ble_eq_true rfl) (Nat.le_of_ble_eq_true rfl) (by omega) (by omega) ?_
  refine p_signAt hT0 hT ?_
  refine wp_istore_n (ls' := [_, _, _]) dX8_readClause_15 (by decide) rfl rfl ?_
  refine wp_iload_n dX8_readClause_16 rfl ?_
  refine wp_bipush dX8_readClause_17 ?_
  refine wp_icmp_ne (tgt := 62) dX8_readClause_19 rfl (fun h19 => by exfalso; omega) (fun h19 => ?_)
  refine wp_aload_n dX8_readClause_22 rfl ?_
  refine wp_getZ dX8_readClause_23 fX8_34 hA.1 ?_
  try simp only [CR1, CR2, CR7, CR8, CR9, CR10, RQ4, RQ5, RQ6, RQ7, RQ8, hT.1]
  refine wp_if_ne (tgt := 62) dX8_readClause_26 rfl (fun h26 => by exfalso; omega) (fun h26 => ?_)
  refine wp_aload_n dX8_readClause_29 rfl ?_
  refine wp_iconst dX8_readClause_30 ?_
  refine wp_putZ (Or.inr rfl) dX8_readClause_31 fX8_34 hA.1 ?_
  try simp only [CRu7, CRu8, CRu9, CRu10, RQu4, RQu5, RQu6, RQu7, RQu8]
  refine wp_aload_n dX8_readClause_34 rfl ?_
  refine wp_dup dX8_readClause_35 rfl ?_
  refine wp_getI dX8_readClause_36 fX8_27 hA.1 ?_
  try simp only [CR1, CR2, CR7, CR8, CR9, CR10, RQ4, RQ5, RQ6, RQ7, RQ8, hT.1]
  refine wp_iconst dX8_readClause_39 ?_
  refine wp_iadd dX8_readClause_40 ⟨by omega, by omega⟩ ?_
  refine wp_putI dX8_readClause_41 fX8_27 hA.1 ?_
  try simp only [CRu7, CRu8, CRu9, CRu10, RQu4, RQu5, RQu6, RQu7, RQu8]
  refine wp_aload_n dX8_readClause_44 rfl ?_
  refine wp_ldcS0 dX8_readClause_45 rfl ?_
  refine wp_gets (q := 0) dX8_readClause_47 (by decide) sX8_76 ?_
  refine wp_gets (q := 1) dX8_readClause_50 (by decide) sX8_79 ?_
  refine wp_aload_n dX8_readClause_53 rfl ?_
  refine wp_getR hA.2.2.1 dX8_readClause_54 fX8_11 hA.1 ?_
  refine wp_iconst dX8_readClause_57 ?_
  refine wp_callV (as := [_, _, _, _, _]) (ls0 := [_, _, _, _, _, _, _, _, _, _, _]) (kc := 0) (ks := 0) (bc' := 0) (bs' := 0) dX8_readClause_58 vX8_82 hA.1 rfl rfl (Nat.le_of_ble_eq_true rfl) (Nat.le_of_ble_eq_true rfl) (by omega) (by omega) ?_
  refine p_items0 hA hT0 hT (by omega) (fun e u' => ?_) (fun e a' u' X' => ?_)
  · refine wp_ireturn dX8_readClause_61 rfl ?_
    exact kt e u'
  · refine wp_ireturn dX8_readClause_61 rfl ?_
    exact kf e a' u' X'
theorem p_clauseB (hA : RdA sh rv) (hT0 : TpA sh rv) (hT : TpR iv t n) (ha : 0 ≤ a ∧ a ≤ n) (hp : 0 ≤ p ∧ p < 6) (c2 : sg t n (skp t n a) = 112) (kt : (itL t n 112 (4 * p) 5 (skp t n a + 1) 0 (cpW Y (usF 112) (4 * p) 4)).1 = -1 → ∀ u' : Int, R (some (aI (rIt t n (itL t n 112 (4 * p) 5 (skp t n a + 1) 0 (cpW Y (usF 112) (4 * p) 4)).2.1))) sh (CR iv (RQ r (p + 1) (h) (q) ((itL t n 112 (4 * p) 5 (skp t n a + 1) 0 (cpW Y (usF 112) (4 * p) 4)).2.1) (u')) X (itL t n 112 (4 * p) 5 (skp t n a + 1) 0 (cpW Y (usF 112) (4 * p) 4)).2.2 Z) lw rv) (kf : ¬ (itL t n 112 (4 * p) 5 (skp t n a + 1) 0 (cpW Y (usF 112) (4 * p) 4)).1 = -1 → ∀ (a' u' : Int) (Y' : Int → Int), R (some (aI (itL t n 112 (4 * p) 5 (skp t n a + 1) 0 (cpW Y (usF 112) (4 * p) 4)).1)) sh (CR iv (RQ r (p + 1) (h) (q) (a') (u')) X Y' Z) lw rv) : wp (d + 5) mX8_readClause 0 [some (aR 7), none, none] [] sh (CR iv (RQ r (p) (h) (q) (a) (u)) X Y Z) lw rv 0 0 R := by
  obtain ⟨-, hn, -, -⟩ := id hT
  have hs := skp_r (t := t) ha.1 ha.2
  have hl := sg_lt (t := t) (n := n) (i := skp t n a) (by omega)
  refine wp_aload_n dX8_readClause_0 rfl ?_
  refine wp_callV (as := []) (ls0 := [_, _]) (kc := 0) (ks := 0) (bc' := 0) (bs' := 0) dX8_readClause_1 vX8_71 hA.1 rfl rfl (Nat.le_of_ble_eq_true rfl) (Nat.le_of_ble_eq_true rfl) (by omega) (by omega) ?_
  refine p_skip hA hT0 hT ha ?_
  refine wp_aload_n dX8_readClause_4 rfl ?_
  refine wp_getR hA.2.1 dX8_readClause_5 fX8_23 hA.1 ?_
  refine wp_aload_n dX8_readClause_8 rfl ?_
  refine wp_getI dX8_readClause_9 fX8_27 hA.1 ?_
  try simp only [CR1, CR2, CR7, CR8, CR9, CR10, RQ4, RQ5, RQ6, RQ7, RQ8, hT.1]
  refine wp_callV (as := [_]) (ls0 := [_, _]) (kc := 0) (ks := 0) (bc' := 0) (bs' := 0) dX8_readClause_12 vX8_63 hT0.1 rfl rfl (Nat.le_of_ble_eq_true rfl) (Nat.le_of_ble_eq_true rfl) (by omega) (by omega) ?_
  refine p_signAt hT0 hT ?_
  refine wp_istore_n (ls' := [_, _, _]) dX8_readClause_15 (by decide) rfl rfl ?_
  refine wp_iload_n dX8_readClause_16 rfl ?_
  refine wp_bipush dX8_readClause_17 ?_
  refine wp_icmp_ne (tgt := 62) dX8_readClause_19 rfl (fun h19 => ?_) (fun h19 => by exfalso; omega)
  refine wp_iload_n dX8_readClause_62 rfl ?_
  refine wp_bipush dX8_readClause_63 ?_
  refine wp_icmp_ne (tgt := 135) dX8_readClause_65 rfl (fun h65 => by exfalso; omega) (fun h65 => ?_)
  refine wp_aload_n dX8_readClause_68 rfl ?_
  refine wp_getI dX8_readClause_69 fX8_31 hA.1 ?_
  try simp only [CR1, CR2, CR7, CR8, CR9, CR10, RQ4, RQ5, RQ6, RQ7, RQ8, hT.1]
  refine wp_bipush dX8_readClause_72 ?_
  refine wp_icmp_ge (tgt := 135) dX8_readClause_74 rfl (fun h74 => by exfalso; omega) (fun h74 => ?_)
  refine wp_aload_n dX8_readClause_77 rfl ?_
  refine wp_getI dX8_readClause_78 fX8_31 hA.1 ?_
  try simp only [CR1, CR2, CR7, CR8, CR9, CR10, RQ4, RQ5, RQ6, RQ7, RQ8, hT.1]
  refine wp_iconst dX8_readClause_81 ?_
  refine wp_imul dX8_readClause_82 ⟨by omega, by omega⟩ ?_
  refine wp_istore_n (ls' := [_, _, _]) dX8_readClause_83 (by decide) rfl rfl ?_
  refine wp_gets (q := 5) dX8_readClause_84 (by decide) sX8_86 ?_
  refine wp_iconst dX8_readClause_87 ?_
  refine wp_aload_n dX8_readClause_88 rfl ?_
  refine wp_getR hA.2.2.2.1 dX8_readClause_89 fX8_17 hA.1 ?_
  refine wp_iload_n dX8_readClause_92 rfl ?_
  refine wp_iconst dX8_readClause_93 ?_
  refine wp_copyX dX8_readClause_94 aX8_41 (by decide) hA.2.2.2.2.2.2.1 (by omega) (by decide) (by omega) (by decide) (by decide) (by show p * 4 + 4 ≤ ((24 : Nat) : Int); omega) (Nat.le_of_ble_eq_true rfl) ?_
  rw [CR9, CRa9, show p * 4 = 4 * p by omega, cpy5]
  refine wp_aload_n dX8_readClause_97 rfl ?_
  refine wp_dup dX8_readClause_98 rfl ?_
  refine wp_getI dX8_readClause_99 fX8_31 hA.1 ?_
  try simp only [CR1, CR2, CR7, CR8, CR9, CR10, RQ4, RQ5, RQ6, RQ7, RQ8, hT.1]
  refine wp_iconst dX8_readClause_102 ?_
  refine wp_iadd dX8_readClause_103 ⟨by omega, by omega⟩ ?_
  refine wp_putI dX8_readClause_104 fX8_31 hA.1 ?_
  try simp only [CRu7, CRu8, CRu9, CRu10, RQu4, RQu5, RQu6, RQu7, RQu8]
  refine wp_aload_n dX8_readClause_107 rfl ?_
  refine wp_dup dX8_readClause_108 rfl ?_
  refine wp_getI dX8_readClause_109 fX8_27 hA.1 ?_
  try simp only [CR1, CR2, CR7, CR8, CR9, CR10, RQ4, RQ5, RQ6, RQ7, RQ8, hT.1]
  refine wp_iconst dX8_readClause_112 ?_
  refine wp_iadd dX8_readClause_113 ⟨by omega, by omega⟩ ?_
  refine wp_putI dX8_readClause_114 fX8_27 hA.1 ?_
  try simp only [CRu7, CRu8, CRu9, CRu10, RQu4, RQu5, RQu6, RQu7, RQu8]
  refine wp_aload_n dX8_readClause_117 rfl ?_
  refine wp_ldcS1 dX8_readClause_118 rfl ?_
  refine wp_gets (q := 3) dX8_readClause_120 (by decide) sX8_91 ?_
  refine wp_gets (q := 4) dX8_readClause_123 (by decide) sX8_94 ?_
  refine wp_aload_n dX8_readClause_126 rfl ?_
  refine wp_getR hA.2.2.2.1 dX8_readClause_127 fX8_17 hA.1 ?_
  refine wp_iload_n dX8_readClause_130 rfl ?_
  refine wp_callV (as := [_, _, _, _, _]) (ls0 := [_, _, _, _, _, _, _, _, _, _, _]) (kc := 0) (ks := 0) (bc' := 0) (bs' := 0) dX8_readClause_131 vX8_82 hA.1 rfl rfl (Nat.le_of_ble_eq_true rfl) (Nat.le_of_ble_eq_true rfl) (by omega) (by omega) ?_
  refine p_items1 (q0 := p) hA hT0 hT hp (by omega) (fun e u' => ?_) (fun e a' u' Y' => ?_)
  · refine wp_ireturn dX8_readClause_134 rfl ?_
    exact kt e u'
  · refine wp_ireturn dX8_readClause_134 rfl ?_
    exact kf e a' u' Y'
theorem p_clauseC (hA : RdA sh rv) (hT0 : TpA sh rv) (hT : TpR iv t n) (ha : 0 ≤ a ∧ a ≤ n) (hq : q = 0 ∨ q = 1) (c1 : ¬ (sg t n (skp t n a) = 115 ∧ q = 0)) (c2 : ¬ (sg t n (skp t n a) = 112 ∧ p < 6)) (k : R (some (aI (skp t n a))) sh (CR iv (RQ r (p) (h) (q) (skp t n a) (u)) X Y Z) lw rv) : wp (d + 5) mX8_readClause 0 [some (aR 7), none, none] [] sh (CR iv (RQ r (p) (h) (q) (a) (u)) X Y Z) lw rv 0 0 R := by
  obtain ⟨-, hn, -, -⟩ := id hT
  have hs := skp_r (t := t) ha.1 ha.2
  refine wp_aload_n dX8_readClause_0 rfl ?_
  refine wp_callV (as := []) (ls0 := [_, _]) (kc := 0) (ks := 0) (bc' := 0) (bs' := 0) dX8_readClause_1 vX8_71 hA.1 rfl rfl (Nat.le_of_ble_eq_true rfl) (Nat.le_of_ble_eq_true rfl) (by omega) (by omega) ?_
  refine p_skip hA hT0 hT ha ?_
  refine wp_aload_n dX8_readClause_4 rfl ?_
  refine wp_getR hA.2.1 dX8_readClause_5 fX8_23 hA.1 ?_
  refine wp_aload_n dX8_readClause_8 rfl ?_
  refine wp_getI dX8_readClause_9 fX8_27 hA.1 ?_
  try simp only [CR1, CR2, CR7, CR8, CR9, CR10, RQ4, RQ5, RQ6, RQ7, RQ8, hT.1]
  refine wp_callV (as := [_]) (ls0 := [_, _]) (kc := 0) (ks := 0) (bc' := 0) (bs' := 0) dX8_readClause_12 vX8_63 hT0.1 rfl rfl (Nat.le_of_ble_eq_true rfl) (Nat.le_of_ble_eq_true rfl) (by omega) (by omega) ?_
  refine p_signAt hT0 hT ?_
  refine wp_istore_n (ls' := [_, _, _]) dX8_readClause_15 (by decide) rfl rfl ?_
  refine wp_iload_n dX8_readClause_16 rfl ?_
  refine wp_bipush dX8_readClause_17 ?_
  refine wp_icmp_ne (tgt := 62) dX8_readClause_19 rfl (fun h19 => ?_) (fun h19 => ?_)
  · refine wp_iload_n dX8_readClause_62 rfl ?_
    refine wp_bipush dX8_readClause_63 ?_
    refine wp_icmp_ne (tgt := 135) dX8_readClause_65 rfl (fun h65 => ?_) (fun h65 => ?_)
    · refine wp_aload_n dX8_readClause_135 rfl ?_
      refine wp_getI dX8_readClause_136 fX8_27 hA.1 ?_
      try simp only [CR1, CR2, CR7, CR8, CR9, CR10, RQ4, RQ5, RQ6, RQ7, RQ8, hT.1]
      refine wp_ireturn dX8_readClause_139 rfl ?_
      exact k
    · refine wp_aload_n dX8_readClause_68 rfl ?_
      refine wp_getI dX8_readClause_69 fX8_31 hA.1 ?_
      try simp only [CR1, CR2, CR7, CR8, CR9, CR10, RQ4, RQ5, RQ6, RQ7, RQ8, hT.1]
      refine wp_bipush dX8_readClause_72 ?_
      refine wp_icmp_ge (tgt := 135) dX8_readClause_74 rfl (fun h74 => ?_) (fun h74 => ?_)
      · refine wp_aload_n dX8_readClause_135 rfl ?_
        refine wp_getI dX8_readClause_136 fX8_27 hA.1 ?_
        try simp only [CR1, CR2, CR7, CR8, CR9, CR10, RQ4, RQ5, RQ6, RQ7, RQ8, hT.1]
        refine wp_ireturn dX8_readClause_139 rfl ?_
        exact k
      · exact absurd ⟨by omega, by omega⟩ c2
  · refine wp_aload_n dX8_readClause_22 rfl ?_
    refine wp_getZ dX8_readClause_23 fX8_34 hA.1 ?_
    try simp only [CR1, CR2, CR7, CR8, CR9, CR10, RQ4, RQ5, RQ6, RQ7, RQ8, hT.1]
    refine wp_if_ne (tgt := 62) dX8_readClause_26 rfl (fun h26 => ?_) (fun h26 => ?_)
    · refine wp_iload_n dX8_readClause_62 rfl ?_
      refine wp_bipush dX8_readClause_63 ?_
      refine wp_icmp_ne (tgt := 135) dX8_readClause_65 rfl (fun h65 => ?_) (fun h65 => ?_)
      · refine wp_aload_n dX8_readClause_135 rfl ?_
        refine wp_getI dX8_readClause_136 fX8_27 hA.1 ?_
        try simp only [CR1, CR2, CR7, CR8, CR9, CR10, RQ4, RQ5, RQ6, RQ7, RQ8, hT.1]
        refine wp_ireturn dX8_readClause_139 rfl ?_
        exact k
      · refine wp_aload_n dX8_readClause_68 rfl ?_
        refine wp_getI dX8_readClause_69 fX8_31 hA.1 ?_
        try simp only [CR1, CR2, CR7, CR8, CR9, CR10, RQ4, RQ5, RQ6, RQ7, RQ8, hT.1]
        refine wp_bipush dX8_readClause_72 ?_
        refine wp_icmp_ge (tgt := 135) dX8_readClause_74 rfl (fun h74 => ?_) (fun h74 => ?_)
        · refine wp_aload_n dX8_readClause_135 rfl ?_
          refine wp_getI dX8_readClause_136 fX8_27 hA.1 ?_
          try simp only [CR1, CR2, CR7, CR8, CR9, CR10, RQ4, RQ5, RQ6, RQ7, RQ8, hT.1]
          refine wp_ireturn dX8_readClause_139 rfl ?_
          exact k
        · exact absurd ⟨by omega, by omega⟩ c2
    · exact absurd ⟨by omega, by omega⟩ c1
theorem l_meshF (hA : RdA sh rv) (hT0 : TpA sh rv) (hT : TpR iv t n) (m : Nat) : ∀ (i ru p c u : Int) (X Y X2 Y2 : Int → Int) (v2 : Option aV), (0 ≤ i ∧ i ≤ n) → (ru = 0 ∨ ru = 1) → (0 ≤ p ∧ p ≤ 6) → ru + p + m = 8 → c = ru + p → (∀ k : Int, 0 ≤ k → k < 5 → X k = X2 k) → (∀ k : Int, 0 ≤ k → k < 4 * p → Y k = Y2 k) → (ru = 0 → ∀ k : Int, 0 ≤ k → k < 5 → X k = usF 115 k) → ((msL t n m i ru p X2 Y2).1 = -1 → ∀ (a' u' q' : Int) (X' Y' : Int → Int), (∀ k : Int, 0 ≤ k → k < 5 → X' k = (msL t n m i ru p X2 Y2).2.2.1 k) → (∀ k : Int, 0 ≤ k → k < 4 * (msL t n m i ru p X2 Y2).2.1 → Y' k = (msL t n m i ru p X2 Y2).2.2.2 k) → R (some (aI (-1))) sh (CR iv (RQ r ((msL t n m i ru p X2 Y2).2.1) (h) (q') (a') (u')) X' Y' Z) lw rv) → (¬ (msL t n m i ru p X2 Y2).1 = -1 → ∀ (a' u' q' p' : Int) (X' Y' : Int → Int), R (some (aI (msL t n m i ru p X2 Y2).1)) sh (CR iv (RQ r (p') (h) (q') (a') (u')) X' Y' Z) lw rv) → wp (d + 6) mX8_meshFault 30 [some (aR 7), some (aI c), v2] [] sh (CR iv (RQ r (p) (h) (ru) (i) (u)) X Y Z) lw rv 0 0 R := by
  obtain ⟨-, hn, -, -⟩ := id hT
  induction m with
  | zero => intro i ru p c u X Y X2 Y2 v2 hi hru hp hm _ _ _ _ _ _; omega
  | succ m ih =>
    intro i ru p c u X Y X2 Y2 v2 hi hru hp hm hc0 hX hY hus kt kf
    have hs := skp_r (t := t) hi.1 hi.2
    rw [msL] at kt kf
    by_cases c1 : sg t n (skp t n i) = 115 ∧ ru = 0
    · rw [if_pos c1] at kt kf
      have hl := sg_lt (t := t) (n := n) (i := skp t n i) (by omega)
      have hc := itL_cg (t := t) (n := n) (cl := 115) (fr := 0) 6 (skp t n i + 1) 0 X (cpW X2 (usF 115) 0 5)
      obtain ⟨c1, rfl⟩ := c1
      refine wp_iload_n dX8_meshFault_30 rfl ?_
      refine wp_sipush dX8_meshFault_31 ?_
      refine wp_icmp_gt (tgt := 82) dX8_meshFault_34 rfl (fun h34 => by exfalso; omega) (fun h34 => ?_)
      refine wp_aload_n dX8_meshFault_37 rfl ?_
      refine wp_callV (as := []) (ls0 := [_, _, _]) (kc := 0) (ks := 0) (bc' := 0) (bs' := 0) dX8_meshFault_38 vX8_49 hA.1 rfl rfl (Nat.le_of_ble_eq_true rfl) (Nat.le_of_ble_eq_true rfl) (by omega) (by omega) ?_
      refine p_clauseA hA hT0 hT hi c1 (fun e u' => ?_) (fun e a' u' X' => ?_)
      · skip
        have hq := itL_r (t := t) (n := n) 6 (skp t n i + 1) 0 X (by omega) (by omega) e
        have hbq := sgb (i := (itL t n 115 0 6 (skp t n i + 1) 0 X).2.1) hT
        unfold msC at kt kf
        rw [← hc.1, ← hc.2.1, if_neg (fun z => z e)] at kt kf
        by_cases c59 : sg t n (itL t n 115 0 6 (skp t n i + 1) 0 X).2.1 = 59
        · rw [if_pos c59] at kt kf
          have er : rIt t n (itL t n 115 0 6 (skp t n i + 1) 0 X).2.1 = -1 := by unfold rIt; rw [if_pos (Or.inr c59)]
          rw [er]
          refine wp_istore_n (ls' := [_, _, _]) dX8_meshFault_41 (by decide) rfl rfl ?_
          refine wp_iload_n dX8_meshFault_42 rfl ?_
          refine wp_iconst dX8_meshFault_43 ?_
          refine wp_icmp_eq (tgt := 49) dX8_meshFault_44 rfl (fun h44 => ?_) (fun h44 => by exfalso; omega)
          refine wp_aload_n dX8_meshFault_49 rfl ?_
          refine wp_getI dX8_meshFault_50 fX8_27 hA.1 ?_
          try simp only [CR1, CR2, CR7, CR8, CR9, CR10, RQ4, RQ5, RQ6, RQ7, RQ8, hT.1]
          refine wp_aload_n dX8_meshFault_53 rfl ?_
          refine wp_getR hA.2.1 dX8_meshFault_54 fX8_23 hA.1 ?_
          refine wp_callV (as := []) (ls0 := [_]) (kc := 0) (ks := 0) (bc' := 0) (bs' := 0) dX8_meshFault_57 vX8_53 hT0.1 rfl rfl (Nat.le_of_ble_eq_true rfl) (Nat.le_of_ble_eq_true rfl) (by omega) (by omega) ?_
          refine p_size hT0 hT ?_
          refine wp_icmp_lt (tgt := 66) dX8_meshFault_60 rfl (fun h60 => ?_) (fun h60 => by exfalso; omega)
          refine wp_aload_n dX8_meshFault_66 rfl ?_
          refine wp_dup dX8_meshFault_67 rfl ?_
          refine wp_getI dX8_meshFault_68 fX8_27 hA.1 ?_
          try simp only [CR1, CR2, CR7, CR8, CR9, CR10, RQ4, RQ5, RQ6, RQ7, RQ8, hT.1]
          refine wp_iconst dX8_meshFault_71 ?_
          refine wp_iadd dX8_meshFault_72 ⟨by omega, by omega⟩ ?_
          refine wp_putI dX8_meshFault_73 fX8_27 hA.1 ?_
          try simp only [CRu7, CRu8, CRu9, CRu10, RQu4, RQu5, RQu6, RQu7, RQu8]
          refine wp_iinc (ls' := [_, _, _]) dX8_meshFault_76 (by decide) rfl rfl ⟨by omega, by omega⟩ rfl ?_
          refine wp_goto (tgt := 30) dX8_meshFault_79 rfl ?_
          exact ih _ _ _ _ _ _ _ _ _ _ (by omega) (by omega) (by omega) (by omega) (by omega) (fun k x y => hc.2.2 k (by unfold cpW; rw [if_pos (by omega), show k - 0 = k by omega]; exact hus rfl k x y)) hY (fun z => by omega) kt kf
        · rw [if_neg c59] at kt kf
          by_cases cm : sg t n (itL t n 115 0 6 (skp t n i + 1) 0 X).2.1 = -1
          · have er : rIt t n (itL t n 115 0 6 (skp t n i + 1) 0 X).2.1 = -1 := by unfold rIt; rw [if_pos (Or.inl cm)]
            rw [er]
            have ean : (itL t n 115 0 6 (skp t n i + 1) 0 X).2.1 = n := by omega
            refine wp_istore_n (ls' := [_, _, _]) dX8_meshFault_41 (by decide) rfl rfl ?_
            refine wp_iload_n dX8_meshFault_42 rfl ?_
            refine wp_iconst dX8_meshFault_43 ?_
            refine wp_icmp_eq (tgt := 49) dX8_meshFault_44 rfl (fun h44 => ?_) (fun h44 => by exfalso; omega)
            refine wp_aload_n dX8_meshFault_49 rfl ?_
            refine wp_getI dX8_meshFault_50 fX8_27 hA.1 ?_
            try simp only [CR1, CR2, CR7, CR8, CR9, CR10, RQ4, RQ5, RQ6, RQ7, RQ8, hT.1]
            refine wp_aload_n dX8_meshFault_53 rfl ?_
            refine wp_getR hA.2.1 dX8_meshFault_54 fX8_23 hA.1 ?_
            refine wp_callV (as := []) (ls0 := [_]) (kc := 0) (ks := 0) (bc' := 0) (bs' := 0) dX8_meshFault_57 vX8_53 hT0.1 rfl rfl (Nat.le_of_ble_eq_true rfl) (Nat.le_of_ble_eq_true rfl) (by omega) (by omega) ?_
            refine p_size hT0 hT ?_
            refine wp_icmp_lt (tgt := 66) dX8_meshFault_60 rfl (fun h60 => by exfalso; omega) (fun h60 => ?_)
            refine wp_goto (tgt := 82) dX8_meshFault_63 rfl ?_
            refine wp_aload_n dX8_meshFault_82 rfl ?_
            refine wp_callV (as := []) (ls0 := [_, _, _, _, _]) (kc := 0) (ks := 0) (bc' := 0) (bs' := 0) dX8_meshFault_83 vX8_56 hA.1 rfl rfl (Nat.le_of_ble_eq_true rfl) (Nat.le_of_ble_eq_true rfl) (by omega) (by omega) ?_
            refine p_isWhole hA (by omega) (fun h83 => ?_) (fun h83 => ?_)
            · refine wp_if_eq (tgt := 93) dX8_meshFault_86 rfl (fun q => absurd q (by decide)) (fun _ => ?_)
              refine wp_iconst dX8_meshFault_89 ?_
              refine wp_goto (tgt := 100) dX8_meshFault_90 rfl ?_
              refine wp_ireturn dX8_meshFault_100 rfl ?_
              first
              | (rw [if_pos ⟨cm, (Whl_cg hY).mp h83⟩] at kt; exact kt rfl _ _ _ _ _ (fun k x y => hc.2.2 k (by unfold cpW; rw [if_pos (by omega), show k - 0 = k by omega]; exact hus rfl k x y)) hY)
              | (rw [if_neg (fun z => h83 ((Whl_cg hY).mpr z.2))] at kf; have hkk := kf (by show ¬ (itL t n 115 0 6 (skp t n i + 1) 0 X).2.1 = -1; omega); rw [ean] at hkk; exact hkk _ _ _ _ _ _)
            · refine wp_if_eq (tgt := 93) dX8_meshFault_86 rfl (fun _ => ?_) (fun q => absurd q (by decide))
              refine wp_aload_n dX8_meshFault_93 rfl ?_
              refine wp_getR hA.2.1 dX8_meshFault_94 fX8_23 hA.1 ?_
              refine wp_callV (as := []) (ls0 := [_]) (kc := 0) (ks := 0) (bc' := 0) (bs' := 0) dX8_meshFault_97 vX8_53 hT0.1 rfl rfl (Nat.le_of_ble_eq_true rfl) (Nat.le_of_ble_eq_true rfl) (by omega) (by omega) ?_
              refine p_size hT0 hT ?_
              refine wp_ireturn dX8_meshFault_100 rfl ?_
              first
              | (rw [if_pos ⟨cm, (Whl_cg hY).mp h83⟩] at kt; exact kt rfl _ _ _ _ _ (fun k x y => hc.2.2 k (by unfold cpW; rw [if_pos (by omega), show k - 0 = k by omega]; exact hus rfl k x y)) hY)
              | (rw [if_neg (fun z => h83 ((Whl_cg hY).mpr z.2))] at kf; have hkk := kf (by show ¬ (itL t n 115 0 6 (skp t n i + 1) 0 X).2.1 = -1; omega); rw [ean] at hkk; exact hkk _ _ _ _ _ _)
          · have er : rIt t n (itL t n 115 0 6 (skp t n i + 1) 0 X).2.1 = (itL t n 115 0 6 (skp t n i + 1) 0 X).2.1 := by unfold rIt; rw [if_neg (fun z => z.elim cm c59)]
            rw [if_neg (fun z => cm z.1)] at kf
            rw [er]
            have hkk := kf (by show ¬ (itL t n 115 0 6 (skp t n i + 1) 0 X).2.1 = -1; omega)
            refine wp_istore_n (ls' := [_, _, _]) dX8_meshFault_41 (by decide) rfl rfl ?_
            refine wp_iload_n dX8_meshFault_42 rfl ?_
            refine wp_iconst dX8_meshFault_43 ?_
            refine wp_icmp_eq (tgt := 49) dX8_meshFault_44 rfl (fun h44 => by exfalso; omega) (fun h44 => ?_)
            refine wp_iload_n dX8_meshFault_47 rfl ?_
            refine wp_ireturn dX8_meshFault_48 rfl ?_
            exact hkk _ _ _ _ _ _
      · unfold msC at kf
        rw [← hc.1, if_pos e] at kf
        have hkk := kf e
        refine wp_istore_n (ls' := [_, _, _]) dX8_meshFault_41 (by decide) rfl rfl ?_
        refine wp_iload_n dX8_meshFault_42 rfl ?_
        refine wp_iconst dX8_meshFault_43 ?_
        refine wp_icmp_eq (tgt := 49) dX8_meshFault_44 rfl (fun h44 => by exfalso; omega) (fun h44 => ?_)
        refine wp_iload_n dX8_meshFault_47 rfl ?_
        refine wp_ireturn dX8_meshFault_48 rfl ?_
        exact hkk _ _ _ _ _ _
    · rw [if_neg c1] at kt kf
      by_cases c2 : sg t n (skp t n i) = 112 ∧ p < 6
      · rw [if_pos c2] at kt kf
        have hl := sg_lt (t := t) (n := n) (i := skp t n i) (by omega)
        have hc := itL_cg (t := t) (n := n) (cl := 112) (fr := 4 * p) 5 (skp t n i + 1) 0 (cpW Y (usF 112) (4 * p) 4) (cpW Y2 (usF 112) (4 * p) 4)
        obtain ⟨c2, c3⟩ := c2
        have hyb : ∀ k : Int, 0 ≤ k → k < 4 * (p + 1) → (itL t n 112 (4 * p) 5 (skp t n i + 1) 0 (cpW Y (usF 112) (4 * p) 4)).2.2 k = (itL t n 112 (4 * p) 5 (skp t n i + 1) 0 (cpW Y2 (usF 112) (4 * p) 4)).2.2 k := fun k x y => hc.2.2 k (by
          unfold cpW
          by_cases ez : 4 * p ≤ k ∧ k < 4 * p + 4
          · rw [if_pos ez, if_pos ez]
          · rw [if_neg ez, if_neg ez]; exact hY k x (by omega))
        refine wp_iload_n dX8_meshFault_30 rfl ?_
        refine wp_sipush dX8_meshFault_31 ?_
        refine wp_icmp_gt (tgt := 82) dX8_meshFault_34 rfl (fun h34 => by exfalso; omega) (fun h34 => ?_)
        refine wp_aload_n dX8_meshFault_37 rfl ?_
        refine wp_callV (as := []) (ls0 := [_, _, _]) (kc := 0) (ks := 0) (bc' := 0) (bs' := 0) dX8_meshFault_38 vX8_49 hA.1 rfl rfl (Nat.le_of_ble_eq_true rfl) (Nat.le_of_ble_eq_true rfl) (by omega) (by omega) ?_
        refine p_clauseB hA hT0 hT hi (by omega) c2 (fun e u' => ?_) (fun e a' u' Y' => ?_)
        · skip
          have hq := itL_r (t := t) (n := n) 5 (skp t n i + 1) 0 (cpW Y (usF 112) (4 * p) 4) (by omega) (by omega) e
          have hbq := sgb (i := (itL t n 112 (4 * p) 5 (skp t n i + 1) 0 (cpW Y (usF 112) (4 * p) 4)).2.1) hT
          unfold msC at kt kf
          rw [← hc.1, ← hc.2.1, if_neg (fun z => z e)] at kt kf
          by_cases c59 : sg t n (itL t n 112 (4 * p) 5 (skp t n i + 1) 0 (cpW Y (usF 112) (4 * p) 4)).2.1 = 59
          · rw [if_pos c59] at kt kf
            have er : rIt t n (itL t n 112 (4 * p) 5 (skp t n i + 1) 0 (cpW Y (usF 112) (4 * p) 4)).2.1 = -1 := by unfold rIt; rw [if_pos (Or.inr c59)]
            rw [er]
            refine wp_istore_n (ls' := [_, _, _]) dX8_meshFault_41 (by decide) rfl rfl ?_
            refine wp_iload_n dX8_meshFault_42 rfl ?_
            refine wp_iconst dX8_meshFault_43 ?_
            refine wp_icmp_eq (tgt := 49) dX8_meshFault_44 rfl (fun h44 => ?_) (fun h44 => by exfalso; omega)
            refine wp_aload_n dX8_meshFault_49 rfl ?_
            refine wp_getI dX8_meshFault_50 fX8_27 hA.1 ?_
            try simp only [CR1, CR2, CR7, CR8, CR9, CR10, RQ4, RQ5, RQ6, RQ7, RQ8, hT.1]
            refine wp_aload_n dX8_meshFault_53 rfl ?_
            refine wp_getR hA.2.1 dX8_meshFault_54 fX8_23 hA.1 ?_
            refine wp_callV (as := []) (ls0 := [_]) (kc := 0) (ks := 0) (bc' := 0) (bs' := 0) dX8_meshFault_57 vX8_53 hT0.1 rfl rfl (Nat.le_of_ble_eq_true rfl) (Nat.le_of_ble_eq_true rfl) (by omega) (by omega) ?_
            refine p_size hT0 hT ?_
            refine wp_icmp_lt (tgt := 66) dX8_meshFault_60 rfl (fun h60 => ?_) (fun h60 => by exfalso; omega)
            refine wp_aload_n dX8_meshFault_66 rfl ?_
            refine wp_dup dX8_meshFault_67 rfl ?_
            refine wp_getI dX8_meshFault_68 fX8_27 hA.1 ?_
            try simp only [CR1, CR2, CR7, CR8, CR9, CR10, RQ4, RQ5, RQ6, RQ7, RQ8, hT.1]
            refine wp_iconst dX8_meshFault_71 ?_
            refine wp_iadd dX8_meshFault_72 ⟨by omega, by omega⟩ ?_
            refine wp_putI dX8_meshFault_73 fX8_27 hA.1 ?_
            try simp only [CRu7, CRu8, CRu9, CRu10, RQu4, RQu5, RQu6, RQu7, RQu8]
            refine wp_iinc (ls' := [_, _, _]) dX8_meshFault_76 (by decide) rfl rfl ⟨by omega, by omega⟩ rfl ?_
            refine wp_goto (tgt := 30) dX8_meshFault_79 rfl ?_
            exact ih _ _ _ _ _ _ _ _ _ _ (by omega) (by omega) (by omega) (by omega) (by omega) hX hyb hus kt kf
          · rw [if_neg c59] at kt kf
            by_cases cm : sg t n (itL t n 112 (4 * p) 5 (skp t n i + 1) 0 (cpW Y (usF 112) (4 * p) 4)).2.1 = -1
            · have er : rIt t n (itL t n 112 (4 * p) 5 (skp t n i + 1) 0 (cpW Y (usF 112) (4 * p) 4)).2.1 = -1 := by unfold rIt; rw [if_pos (Or.inl cm)]
              rw [er]
              have ean : (itL t n 112 (4 * p) 5 (skp t n i + 1) 0 (cpW Y (usF 112) (4 * p) 4)).2.1 = n := by omega
              refine wp_istore_n (ls' := [_, _, _]) dX8_meshFault_41 (by decide) rfl rfl ?_
              refine wp_iload_n dX8_meshFault_42 rfl ?_
              refine wp_iconst dX8_meshFault_43 ?_
              refine wp_icmp_eq (tgt := 49) dX8_meshFault_44 rfl (fun h44 => ?_) (fun h44 => by exfalso; omega)
              refine wp_aload_n dX8_meshFault_49 rfl ?_
              refine wp_getI dX8_meshFault_50 fX8_27 hA.1 ?_
              try simp only [CR1, CR2, CR7, CR8, CR9, CR10, RQ4, RQ5, RQ6, RQ7, RQ8, hT.1]
              refine wp_aload_n dX8_meshFault_53 rfl ?_
              refine wp_getR hA.2.1 dX8_meshFault_54 fX8_23 hA.1 ?_
              refine wp_callV (as := []) (ls0 := [_]) (kc := 0) (ks := 0) (bc' := 0) (bs' := 0) dX8_meshFault_57 vX8_53 hT0.1 rfl rfl (Nat.le_of_ble_eq_true rfl) (Nat.le_of_ble_eq_true rfl) (by omega) (by omega) ?_
              refine p_size hT0 hT ?_
              refine wp_icmp_lt (tgt := 66) dX8_meshFault_60 rfl (fun h60 => by exfalso; omega) (fun h60 => ?_)
              refine wp_goto (tgt := 82) dX8_meshFault_63 rfl ?_
              refine wp_aload_n dX8_meshFault_82 rfl ?_
              refine wp_callV (as := []) (ls0 := [_, _, _, _, _]) (kc := 0) (ks := 0) (bc' := 0) (bs' := 0) dX8_meshFault_83 vX8_56 hA.1 rfl rfl (Nat.le_of_ble_eq_true rfl) (Nat.le_of_ble_eq_true rfl) (by omega) (by omega) ?_
              refine p_isWhole hA (by omega) (fun h83 => ?_) (fun h83 => ?_)
              · refine wp_if_eq (tgt := 93) dX8_meshFault_86 rfl (fun q => absurd q (by decide)) (fun _ => ?_)
                refine wp_iconst dX8_meshFault_89 ?_
                refine wp_goto (tgt := 100) dX8_meshFault_90 rfl ?_
                refine wp_ireturn dX8_meshFault_100 rfl ?_
                first
                | (rw [if_pos ⟨cm, (Whl_cg hyb).mp h83⟩] at kt; exact kt rfl _ _ _ _ _ hX hyb)
                | (rw [if_neg (fun z => h83 ((Whl_cg hyb).mpr z.2))] at kf; have hkk := kf (by show ¬ (itL t n 112 (4 * p) 5 (skp t n i + 1) 0 (cpW Y (usF 112) (4 * p) 4)).2.1 = -1; omega); rw [ean] at hkk; exact hkk _ _ _ _ _ _)
              · refine wp_if_eq (tgt := 93) dX8_meshFault_86 rfl (fun _ => ?_) (fun q => absurd q (by decide))
                refine wp_aload_n dX8_meshFault_93 rfl ?_
                refine wp_getR hA.2.1 dX8_meshFault_94 fX8_23 hA.1 ?_
                refine wp_callV (as := []) (ls0 := [_]) (kc := 0) (ks := 0) (bc' := 0) (bs' := 0) dX8_meshFault_97 vX8_53 hT0.1 rfl rfl (Nat.le_of_ble_eq_true rfl) (Nat.le_of_ble_eq_true rfl) (by omega) (by omega) ?_
                refine p_size hT0 hT ?_
                refine wp_ireturn dX8_meshFault_100 rfl ?_
                first
                | (rw [if_pos ⟨cm, (Whl_cg hyb).mp h83⟩] at kt; exact kt rfl _ _ _ _ _ hX hyb)
                | (rw [if_neg (fun z => h83 ((Whl_cg hyb).mpr z.2))] at kf; have hkk := kf (by show ¬ (itL t n 112 (4 * p) 5 (skp t n i + 1) 0 (cpW Y (usF 112) (4 * p) 4)).2.1 = -1; omega); rw [ean] at hkk; exact hkk _ _ _ _ _ _)
            · have er : rIt t n (itL t n 112 (4 * p) 5 (skp t n i + 1) 0 (cpW Y (usF 112) (4 * p) 4)).2.1 = (itL t n 112 (4 * p) 5 (skp t n i + 1) 0 (cpW Y (usF 112) (4 * p) 4)).2.1 := by unfold rIt; rw [if_neg (fun z => z.elim cm c59)]
              rw [if_neg (fun z => cm z.1)] at kf
              rw [er]
              have hkk := kf (by show ¬ (itL t n 112 (4 * p) 5 (skp t n i + 1) 0 (cpW Y (usF 112) (4 * p) 4)).2.1 = -1; omega)
              refine wp_istore_n (ls' := [_, _, _]) dX8_meshFault_41 (by decide) rfl rfl ?_
              refine wp_iload_n dX8_meshFault_42 rfl ?_
              refine wp_iconst dX8_meshFault_43 ?_
              refine wp_icmp_eq (tgt := 49) dX8_meshFault_44 rfl (fun h44 => by exfalso; omega) (fun h44 => ?_)
              refine wp_iload_n dX8_meshFault_47 rfl ?_
              refine wp_ireturn dX8_meshFault_48 rfl ?_
              exact hkk _ _ _ _ _ _
        · unfold msC at kf
          rw [← hc.1, if_pos e] at kf
          have hkk := kf e
          refine wp_istore_n (ls' := [_, _, _]) dX8_meshFault_41 (by decide) rfl rfl ?_
          refine wp_iload_n dX8_meshFault_42 rfl ?_
          refine wp_iconst dX8_meshFault_43 ?_
          refine wp_icmp_eq (tgt := 49) dX8_meshFault_44 rfl (fun h44 => by exfalso; omega) (fun h44 => ?_)
          refine wp_iload_n dX8_meshFault_47 rfl ?_
          refine wp_ireturn dX8_meshFault_48 rfl ?_
          exact hkk _ _ _ _ _ _
      · rw [if_neg c2] at kf
        have hkk := kf (by show ¬ skp t n i = -1; omega)
        refine wp_iload_n dX8_meshFault_30 rfl ?_
        refine wp_sipush dX8_meshFault_31 ?_
        refine wp_icmp_gt (tgt := 82) dX8_meshFault_34 rfl (fun h34 => by exfalso; omega) (fun h34 => ?_)
        refine wp_aload_n dX8_meshFault_37 rfl ?_
        refine wp_callV (as := []) (ls0 := [_, _, _]) (kc := 0) (ks := 0) (bc' := 0) (bs' := 0) dX8_meshFault_38 vX8_49 hA.1 rfl rfl (Nat.le_of_ble_eq_true rfl) (Nat.le_of_ble_eq_true rfl) (by omega) (by omega) ?_
        refine p_clauseC hA hT0 hT hi hru c1 c2 ?_
        refine wp_istore_n (ls' := [_, _, _]) dX8_meshFault_41 (by decide) rfl rfl ?_
        refine wp_iload_n dX8_meshFault_42 rfl ?_
        refine wp_iconst dX8_meshFault_43 ?_
        refine wp_icmp_eq (tgt := 49) dX8_meshFault_44 rfl (fun h44 => by exfalso; omega) (fun h44 => ?_)
        refine wp_iload_n dX8_meshFault_47 rfl ?_
        refine wp_ireturn dX8_meshFault_48 rfl ?_
        exact hkk _ _ _ _ _ _
theorem p_meshFault {X2 Y2 : Int → Int} (hA : RdA sh rv) (hT0 : TpA sh rv) (hT : TpR iv t n) (kt : (mshV t n X2 Y2).1 = -1 → ∀ (a' u' q' : Int) (X' Y' : Int → Int), (∀ k : Int, 0 ≤ k → k < 5 → X' k = (mshV t n X2 Y2).2.2.1 k) → (∀ k : Int, 0 ≤ k → k < 4 * (mshV t n X2 Y2).2.1 → Y' k = (mshV t n X2 Y2).2.2.2 k) → R (some (aI (-1))) sh (CR iv (RQ r ((mshV t n X2 Y2).2.1) (h) (q') (a') (u')) X' Y' Z) lw rv) (kf : ¬ (mshV t n X2 Y2).1 = -1 → ∀ (a' u' q' p' : Int) (X' Y' : Int → Int), R (some (aI (mshV t n X2 Y2).1)) sh (CR iv (RQ r (p') (h) (q') (a') (u')) X' Y' Z) lw rv) : wp (d + 6) mX8_meshFault 0 [some (aR 7), none, none] [] sh (CR iv (RQ r (p) (h) (q) (a) (u)) X Y Z) lw rv 0 0 R := by
  refine wp_aload_n dX8_meshFault_0 rfl ?_
  refine wp_iconst dX8_meshFault_1 ?_
  refine wp_putI dX8_meshFault_2 fX8_27 hA.1 ?_
  try simp only [CRu7, CRu8, CRu9, CRu10, RQu4, RQu5, RQu6, RQu7, RQu8]
  refine wp_aload_n dX8_meshFault_5 rfl ?_
  refine wp_iconst dX8_meshFault_6 ?_
  refine wp_putI dX8_meshFault_7 fX8_31 hA.1 ?_
  try simp only [CRu7, CRu8, CRu9, CRu10, RQu4, RQu5, RQu6, RQu7, RQu8]
  refine wp_aload_n dX8_meshFault_10 rfl ?_
  refine wp_iconst dX8_meshFault_11 ?_
  refine wp_putZ (Or.inl rfl) dX8_meshFault_12 fX8_34 hA.1 ?_
  try simp only [CRu7, CRu8, CRu9, CRu10, RQu4, RQu5, RQu6, RQu7, RQu8]
  refine wp_gets (q := 2) dX8_meshFault_15 (by decide) sX8_38 ?_
  refine wp_iconst dX8_meshFault_18 ?_
  refine wp_aload_n dX8_meshFault_19 rfl ?_
  refine wp_getR hA.2.2.1 dX8_meshFault_20 fX8_11 hA.1 ?_
  refine wp_iconst dX8_meshFault_23 ?_
  refine wp_iconst dX8_meshFault_24 ?_
  refine wp_copyX dX8_meshFault_25 aX8_41 (by decide) hA.2.2.2.2.2.1 (by omega) (by decide) (by decide) (by decide) (by decide) (by decide) (Nat.le_of_ble_eq_true rfl) ?_
  rw [CR8, CRa8, cpy2]
  refine wp_iconst dX8_meshFault_28 ?_
  refine wp_istore_n (ls' := [_, _, _]) dX8_meshFault_29 (by decide) rfl rfl ?_
  have hu : ∀ (W : Int → Int) (k : Int), 0 ≤ k → k < 5 → cpW W (usF 115) 0 5 k = usF 115 k := fun W k x y => by unfold cpW; rw [if_pos (by omega), show k - 0 = k by omega]
  exact l_meshF hA hT0 hT 8 0 0 0 0 _ _ _ (cpW X2 (usF 115) 0 5) Y2 _ (by have := hT.2.1; omega) (Or.inl rfl) (by omega) (by omega) (by omega) (fun k x y => by rw [hu _ k x y, hu _ k x y]) (fun k x y => by omega) (fun _ k x y => hu _ k x y) kt kf
theorem l_hopsF (hA : RdA sh rv) (hT0 : TpA sh rv) (hT : TpR iv t n) (m : Nat) : ∀ (i h : Int) (Z Z2 : Int → Int) (v2 : Option aV), 0 ≤ i → i + m = n → (0 ≤ h ∧ h ≤ 16) → (∀ k : Int, 0 ≤ k → k < h → Z k = Z2 k) → ((hpL t n m i h Z2).1 = -1 → ∀ (Z' : Int → Int), (∀ k : Int, 0 ≤ k → k < (hpL t n m i h Z2).2.1 → Z' k = (hpL t n m i h Z2).2.2 k) → R (some (aI (-1))) sh (CR iv (RQ r (p) ((hpL t n m i h Z2).2.1) (q) (a) (u)) X Y Z') lw rv) → (¬ (hpL t n m i h Z2).1 = -1 → ∀ (h' : Int) (Z' : Int → Int), R (some (aI (hpL t n m i h Z2).1)) sh (CR iv (RQ r (p) (h') (q) (a) (u)) X Y Z') lw rv) → wp (d + 1) mX8_hopsFault 7 [some (aR 7), some (aI i), v2] [] sh (CR iv (RQ r (p) (h) (q) (a) (u)) X Y Z) lw rv 0 0 R := by
  obtain ⟨-, hn, -, -⟩ := id hT
  induction m with
  | zero =>
    intro i h Z Z2 v2 h0 hm hh hZ kt kf
    rw [hpL] at kt kf
    refine wp_iload_n dX8_hopsFault_7 rfl ?_
    refine wp_aload_n dX8_hopsFault_8 rfl ?_
    refine wp_getR hA.2.1 dX8_hopsFault_9 fX8_23 hA.1 ?_
    refine wp_callV (as := []) (ls0 := [_]) (kc := 0) (ks := 0) (bc' := 0) (bs' := 0) dX8_hopsFault_12 vX8_53 hT0.1 rfl rfl (Nat.le_of_ble_eq_true rfl) (Nat.le_of_ble_eq_true rfl) (by omega) (by omega) ?_
    refine p_size hT0 hT ?_
    refine wp_icmp_ge (tgt := 83) dX8_hopsFault_15 rfl (fun h15 => ?_) (fun h15 => by exfalso; omega)
    refine wp_aload_n dX8_hopsFault_83 rfl ?_
    refine wp_getI dX8_hopsFault_84 fX8_60 hA.1 ?_
    try simp only [CR1, CR2, CR7, CR8, CR9, CR10, RQ4, RQ5, RQ6, RQ7, RQ8, hT.1]
    refine wp_if_le (tgt := 94) dX8_hopsFault_87 rfl (fun h87 => ?_) (fun h87 => ?_)
    · refine wp_aload_n dX8_hopsFault_94 rfl ?_
      refine wp_getR hA.2.1 dX8_hopsFault_95 fX8_23 hA.1 ?_
      refine wp_callV (as := []) (ls0 := [_]) (kc := 0) (ks := 0) (bc' := 0) (bs' := 0) dX8_hopsFault_98 vX8_53 hT0.1 rfl rfl (Nat.le_of_ble_eq_true rfl) (Nat.le_of_ble_eq_true rfl) (by omega) (by omega) ?_
      refine p_size hT0 hT ?_
      refine wp_ireturn dX8_hopsFault_101 rfl ?_
      first
      | (rw [if_pos (by omega)] at kt; exact kt rfl _ hZ)
      | (rw [if_neg (by omega), show i = n by omega] at kf; exact kf (by show ¬ n = -1; omega) _ _)
    · refine wp_iconst dX8_hopsFault_90 ?_
      refine wp_goto (tgt := 101) dX8_hopsFault_91 rfl ?_
      refine wp_ireturn dX8_hopsFault_101 rfl ?_
      first
      | (rw [if_pos (by omega)] at kt; exact kt rfl _ hZ)
      | (rw [if_neg (by omega), show i = n by omega] at kf; exact kf (by show ¬ n = -1; omega) _ _)
  | succ m ih =>
    intro i h Z Z2 v2 h0 hm hh hZ kt kf
    have hb := sgb (i := i) hT
    rw [hpL] at kt kf
    refine wp_iload_n dX8_hopsFault_7 rfl ?_
    refine wp_aload_n dX8_hopsFault_8 rfl ?_
    refine wp_getR hA.2.1 dX8_hopsFault_9 fX8_23 hA.1 ?_
    refine wp_callV (as := []) (ls0 := [_]) (kc := 0) (ks := 0) (bc' := 0) (bs' := 0) dX8_hopsFault_12 vX8_53 hT0.1 rfl rfl (Nat.le_of_ble_eq_true rfl) (Nat.le_of_ble_eq_true rfl) (by omega) (by omega) ?_
    refine p_size hT0 hT ?_
    refine wp_icmp_ge (tgt := 83) dX8_hopsFault_15 rfl (fun h15 => by exfalso; omega) (fun h15 => ?_)
    refine wp_aload_n dX8_hopsFault_18 rfl ?_
    refine wp_getR hA.2.1 dX8_hopsFault_19 fX8_23 hA.1 ?_
    refine wp_iload_n dX8_hopsFault_22 rfl ?_
    refine wp_callV (as := [_]) (ls0 := [_, _]) (kc := 0) (ks := 0) (bc' := 0) (bs' := 0) dX8_hopsFault_23 vX8_63 hT0.1 rfl rfl (Nat.le_of_ble_eq_true rfl) (Nat.le_of_ble_eq_true rfl) (by omega) (by omega) ?_
    refine p_signAt hT0 hT ?_
    refine wp_istore_n (ls' := [_, _, _]) dX8_hopsFault_26 (by decide) rfl rfl ?_
    refine wp_iload_n dX8_hopsFault_27 rfl ?_
    refine wp_bipush dX8_hopsFault_28 ?_
    refine wp_icmp_ne (tgt := 36) dX8_hopsFault_30 rfl (fun h30 => ?_) (fun h30 => ?_)
    · rw [if_neg h30] at kt kf
      refine wp_iload_n dX8_hopsFault_36 rfl ?_
      refine wp_callS (as := [_]) (ls0 := [_]) (kc := 0) (ks := 0) (bc' := 0) (bs' := 0) dX8_hopsFault_37 vX8_67 rfl rfl (Nat.le_of_ble_eq_true rfl) (Nat.le_of_ble_eq_true rfl) (by omega) (by omega) ?_
      refine p_isDigit (fun h37 => ?_) (fun h37 => ?_)
      · have d37 := h37
        unfold dg at d37
        refine wp_if_eq (tgt := 52) dX8_hopsFault_40 rfl (fun q => absurd q (by decide)) (fun _ => ?_)
        refine wp_aload_n dX8_hopsFault_43 rfl ?_
        refine wp_getI dX8_hopsFault_44 fX8_60 hA.1 ?_
        try simp only [CR1, CR2, CR7, CR8, CR9, CR10, RQ4, RQ5, RQ6, RQ7, RQ8, hT.1]
        refine wp_bipush dX8_hopsFault_47 ?_
        refine wp_icmp_lt (tgt := 54) dX8_hopsFault_49 rfl (fun h49 => ?_) (fun h49 => ?_)
        · rw [if_neg (fun z => z.elim (fun y => y h37) (fun y => by omega))] at kt kf
          refine wp_aload_n dX8_hopsFault_54 rfl ?_
          refine wp_getR hA.2.2.2.2.1 dX8_hopsFault_55 fX8_20 hA.1 ?_
          refine wp_aload_n dX8_hopsFault_58 rfl ?_
          refine wp_getI dX8_hopsFault_59 fX8_60 hA.1 ?_
          try simp only [CR1, CR2, CR7, CR8, CR9, CR10, RQ4, RQ5, RQ6, RQ7, RQ8, hT.1]
          refine wp_iload_n dX8_hopsFault_62 rfl ?_
          refine wp_bipush dX8_hopsFault_63 ?_
          refine wp_isub dX8_hopsFault_65 ⟨by omega, by omega⟩ ?_
          refine wp_iast dX8_hopsFault_66 hA.2.2.2.2.2.2.2 (by omega) (by omega) ?_
          try simp only [CRu7, CRu8, CRu9, CRu10, RQu4, RQu5, RQu6, RQu7, RQu8]
          refine wp_aload_n dX8_hopsFault_67 rfl ?_
          refine wp_dup dX8_hopsFault_68 rfl ?_
          refine wp_getI dX8_hopsFault_69 fX8_60 hA.1 ?_
          try simp only [CR1, CR2, CR7, CR8, CR9, CR10, RQ4, RQ5, RQ6, RQ7, RQ8, hT.1]
          refine wp_iconst dX8_hopsFault_72 ?_
          refine wp_iadd dX8_hopsFault_73 ⟨by omega, by omega⟩ ?_
          refine wp_putI dX8_hopsFault_74 fX8_60 hA.1 ?_
          try simp only [CRu7, CRu8, CRu9, CRu10, RQu4, RQu5, RQu6, RQu7, RQu8]
          refine wp_iinc (ls' := [_, _, _]) dX8_hopsFault_77 (by decide) rfl rfl ⟨by omega, by omega⟩ rfl ?_
          refine wp_goto (tgt := 7) dX8_hopsFault_80 rfl ?_
          first
          | exact ih _ _ _ _ _ (by omega) (by omega) hh hZ kt kf
          | exact ih _ _ _ _ _ (by omega) (by omega) (by omega) (fun k x y => by
              by_cases e : k = h
              · rw [e, up_s, up_s]
              · rw [up_n e, up_n e]; exact hZ k x (by omega)) kt kf
        · rw [if_pos (Or.inr (by omega))] at kf
          have hkk := kf (by show ¬ i = -1; omega)
          refine wp_iload_n dX8_hopsFault_52 rfl ?_
          refine wp_ireturn dX8_hopsFault_53 rfl ?_
          exact hkk _ _
      · rw [if_pos (Or.inl h37)] at kf
        have hkk := kf (by show ¬ i = -1; omega)
        refine wp_if_eq (tgt := 52) dX8_hopsFault_40 rfl (fun _ => ?_) (fun q => absurd q (by decide))
        refine wp_iload_n dX8_hopsFault_52 rfl ?_
        refine wp_ireturn dX8_hopsFault_53 rfl ?_
        exact hkk _ _
    · rw [if_pos h30] at kt kf
      refine wp_goto (tgt := 77) dX8_hopsFault_33 rfl ?_
      refine wp_iinc (ls' := [_, _, _]) dX8_hopsFault_77 (by decide) rfl rfl ⟨by omega, by omega⟩ rfl ?_
      refine wp_goto (tgt := 7) dX8_hopsFault_80 rfl ?_
      first
      | exact ih _ _ _ _ _ (by omega) (by omega) hh hZ kt kf
      | exact ih _ _ _ _ _ (by omega) (by omega) (by omega) (fun k x y => by
          by_cases e : k = h
          · rw [e, up_s, up_s]
          · rw [up_n e, up_n e]; exact hZ k x (by omega)) kt kf
theorem p_hopsFault {Z2 : Int → Int} (hA : RdA sh rv) (hT0 : TpA sh rv) (hT : TpR iv t n) (kt : (hopV t n Z2).1 = -1 → ∀ (Z' : Int → Int), (∀ k : Int, 0 ≤ k → k < (hopV t n Z2).2.1 → Z' k = (hopV t n Z2).2.2 k) → R (some (aI (-1))) sh (CR iv (RQ r (p) ((hopV t n Z2).2.1) (q) (a) (u)) X Y Z') lw rv) (kf : ¬ (hopV t n Z2).1 = -1 → ∀ (h' : Int) (Z' : Int → Int), R (some (aI (hopV t n Z2).1)) sh (CR iv (RQ r (p) (h') (q) (a) (u)) X Y Z') lw rv) : wp (d + 1) mX8_hopsFault 0 [some (aR 7), none, none] [] sh (CR iv (RQ r (p) (h) (q) (a) (u)) X Y Z) lw rv 0 0 R := by
  refine wp_aload_n dX8_hopsFault_0 rfl ?_
  refine wp_iconst dX8_hopsFault_1 ?_
  refine wp_putI dX8_hopsFault_2 fX8_60 hA.1 ?_
  try simp only [CRu7, CRu8, CRu9, CRu10, RQu4, RQu5, RQu6, RQu7, RQu8]
  refine wp_iconst dX8_hopsFault_5 ?_
  refine wp_istore_n (ls' := [_, _, _]) dX8_hopsFault_6 (by decide) rfl rfl ?_
  exact l_hopsF hA hT0 hT n.toNat 0 0 _ Z2 _ (by omega) (by have := hT.2.1; omega) (by omega) (fun k x y => by omega) kt kf
end C23
