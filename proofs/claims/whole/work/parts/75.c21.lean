/-- the tape: object 1, signs 2; the reader: object 7, rules 8, items 9, hops 10 -/
def TpA (sh : aSh) (rv : aP) : Prop := sh[1]? = some (3, 10) ∧ rv 1 0 = some 2 ∧ sh[2]? = some (0, 240)
def RdA (sh : aSh) (rv : aP) : Prop := sh[7]? = some (3, 8) ∧ rv 7 0 = some 1 ∧ rv 7 1 = some 8 ∧ rv 7 2 = some 9 ∧ rv 7 3 = some 10 ∧ sh[8]? = some (0, 5) ∧ sh[9]? = some (0, 24) ∧ sh[10]? = some (0, 16)
/-- what it holds: n signs, those of t -/
def TpR (iv : aF) (t : Int → Int) (n : Int) : Prop := iv 1 1 = n ∧ (0 ≤ n ∧ n ≤ 240) ∧ (∀ i : Int, 0 ≤ i → i < n → iv 2 i = t i) ∧ ∀ i : Int, 0 ≤ i → i < n → 1 ≤ t i ∧ t i ≤ 255
def RQ (r : Int → Int) (p h q a u : Int) : Int → Int := up (up (up (up (up r 4 p) 5 h) 6 q) 7 a) 8 u
def CR (iv : aF) (r X Y Z : Int → Int) : aF := uA (uA (uA (uA iv 7 r) 8 X) 9 Y) 10 Z
section C21a
variable {iv : aF} {r X Y Z t : Int → Int} {p h q a u v n i : Int}
theorem RQ4 : RQ r p h q a u 4 = p := by unfold RQ; rw [up_n (by decide), up_n (by decide), up_n (by decide), up_n (by decide), up_s]
theorem RQ5 : RQ r p h q a u 5 = h := by unfold RQ; rw [up_n (by decide), up_n (by decide), up_n (by decide), up_s]
theorem RQ6 : RQ r p h q a u 6 = q := by unfold RQ; rw [up_n (by decide), up_n (by decide), up_s]
theorem RQ7 : RQ r p h q a u 7 = a := by unfold RQ; rw [up_n (by decide), up_s]
theorem RQ8 : RQ r p h q a u 8 = u := by unfold RQ; rw [up_s]
theorem RQu4 : up (RQ r p h q a u) 4 v = RQ r v h q a u := by unfold RQ; rw [up_comm (by decide : ¬ (8 : Int) = 4), up_comm (by decide : ¬ (7 : Int) = 4), up_comm (by decide : ¬ (6 : Int) = 4), up_comm (by decide : ¬ (5 : Int) = 4), up_uu]
theorem RQu5 : up (RQ r p h q a u) 5 v = RQ r p v q a u := by unfold RQ; rw [up_comm (by decide : ¬ (8 : Int) = 5), up_comm (by decide : ¬ (7 : Int) = 5), up_comm (by decide : ¬ (6 : Int) = 5), up_uu]
theorem RQu6 : up (RQ r p h q a u) 6 v = RQ r p h v a u := by unfold RQ; rw [up_comm (by decide : ¬ (8 : Int) = 6), up_comm (by decide : ¬ (7 : Int) = 6), up_uu]
theorem RQu7 : up (RQ r p h q a u) 7 v = RQ r p h q v u := by unfold RQ; rw [up_comm (by decide : ¬ (8 : Int) = 7), up_uu]
theorem RQu8 : up (RQ r p h q a u) 8 v = RQ r p h q a v := by unfold RQ; rw [up_uu]
theorem RQ_id : RQ r (r 4) (r 5) (r 6) (r 7) (r 8) = r := by
  funext j; unfold RQ up
  split
  · rename_i h; rw [h]
  · split
    · rename_i h; rw [h]
    · split
      · rename_i h; rw [h]
      · split
        · rename_i h; rw [h]
        · split
          · rename_i h; rw [h]
          · rfl
theorem CR1 : CR iv r X Y Z 1 = iv 1 := by unfold CR; rw [uA_n (by decide), uA_n (by decide), uA_n (by decide), uA_n (by decide)]
theorem CR2 : CR iv r X Y Z 2 = iv 2 := by unfold CR; rw [uA_n (by decide), uA_n (by decide), uA_n (by decide), uA_n (by decide)]
theorem CR7 : CR iv r X Y Z 7 = r := by unfold CR; rw [uA_n (by decide), uA_n (by decide), uA_n (by decide), uA_s]
theorem CR8 : CR iv r X Y Z 8 = X := by unfold CR; rw [uA_n (by decide), uA_n (by decide), uA_s]
theorem CR9 : CR iv r X Y Z 9 = Y := by unfold CR; rw [uA_n (by decide), uA_s]
theorem CR10 : CR iv r X Y Z 10 = Z := by unfold CR; rw [uA_s]
theorem CRa7 {f : Int → Int} : uA (CR iv r X Y Z) 7 f = CR iv f X Y Z := by unfold CR; rw [uA_c (show (7 : Nat) ≠ 10 by decide), uA_c (show (7 : Nat) ≠ 9 by decide), uA_c (show (7 : Nat) ≠ 8 by decide), uA_uA]
theorem CRa8 {f : Int → Int} : uA (CR iv r X Y Z) 8 f = CR iv r f Y Z := by unfold CR; rw [uA_c (show (8 : Nat) ≠ 10 by decide), uA_c (show (8 : Nat) ≠ 9 by decide), uA_uA]
theorem CRa9 {f : Int → Int} : uA (CR iv r X Y Z) 9 f = CR iv r X f Z := by unfold CR; rw [uA_c (show (9 : Nat) ≠ 10 by decide), uA_uA]
theorem CRa10 {f : Int → Int} : uA (CR iv r X Y Z) 10 f = CR iv r X Y f := by unfold CR; rw [uA_uA]
theorem CRu7 {k : Int} : uI (CR iv r X Y Z) 7 k v = CR iv (up r k v) X Y Z := by rw [uI_eq, CR7, CRa7]
theorem CRu8 {k : Int} : uI (CR iv r X Y Z) 8 k v = CR iv r (up X k v) Y Z := by rw [uI_eq, CR8, CRa8]
theorem CRu9 {k : Int} : uI (CR iv r X Y Z) 9 k v = CR iv r X (up Y k v) Z := by rw [uI_eq, CR9, CRa9]
theorem CRu10 {k : Int} : uI (CR iv r X Y Z) 10 k v = CR iv r X Y (up Z k v) := by rw [uI_eq, CR10, CRa10]
theorem CR_id : CR iv (iv 7) (iv 8) (iv 9) (iv 10) = iv := by unfold CR; rw [uA_id, uA_id, uA_id, uA_id]
theorem TpR.sgn (h : TpR iv t n) (h0 : 0 ≤ i) (h1 : i < n) : iv 2 i = sg t n i := by rw [h.2.2.1 i h0 h1]; unfold sg; rw [if_pos ⟨h0, h1⟩]
theorem sgb (h : TpR iv t n) : sg t n i = -1 ∧ ¬ (0 ≤ i ∧ i < n) ∨ (0 ≤ i ∧ i < n) ∧ 1 ≤ sg t n i ∧ sg t n i ≤ 255 := by
  by_cases e : 0 ≤ i ∧ i < n
  · right; have := h.2.2.2 i e.1 e.2; unfold sg; rw [if_pos e]; exact ⟨e, this⟩
  · left; unfold sg; rw [if_neg e]; exact ⟨rfl, e⟩
end C21a
section C21
variable {d : Nat} {sh : aSh} {iv lw : aF} {rv : aP} {R : aPost} {r X Y Z t : Int → Int} {p h q a u n : Int}
theorem p_signAt {i : Int} (hT0 : TpA sh rv) (hT : TpR iv t n) (k : R (some (aI (sg t n i))) sh (CR iv (RQ r (p) (h) (q) (a) (u)) X Y Z) lw rv) : wp (d) mX10_signAt 0 [some (aR 1), some (aI i)] [] sh (CR iv (RQ r (p) (h) (q) (a) (u)) X Y Z) lw rv 0 0 R := by
  obtain ⟨-, hn, -, -⟩ := id hT
  refine wp_iload_n dX10_signAt_0 rfl ?_
  refine wp_if_lt (tgt := 21) dX10_signAt_1 rfl (fun h1 => ?_) (fun h1 => ?_)
  · refine wp_iconst dX10_signAt_21 ?_
    refine wp_ireturn dX10_signAt_22 rfl ?_
    first | exact k | (unfold sg at k; rw [if_neg (by omega)] at k; exact k)
  · refine wp_iload_n dX10_signAt_4 rfl ?_
    refine wp_aload_n dX10_signAt_5 rfl ?_
    refine wp_getI dX10_signAt_6 fX10_15 hT0.1 ?_
    try simp only [CR1, CR2, CR7, CR8, CR9, CR10, RQ4, RQ5, RQ6, RQ7, RQ8, hT.1]
    refine wp_icmp_ge (tgt := 21) dX10_signAt_9 rfl (fun h9 => ?_) (fun h9 => ?_)
    · refine wp_iconst dX10_signAt_21 ?_
      refine wp_ireturn dX10_signAt_22 rfl ?_
      first | exact k | (unfold sg at k; rw [if_neg (by omega)] at k; exact k)
    · refine wp_aload_n dX10_signAt_12 rfl ?_
      refine wp_getR hT0.2.1 dX10_signAt_13 fX10_11 hT0.1 ?_
      refine wp_iload_n dX10_signAt_16 rfl ?_
      refine wp_iald dX10_signAt_17 hT0.2.2 (by omega) (by omega) ?_
      try simp only [CR1, CR2, CR7, CR8, CR9, CR10, RQ4, RQ5, RQ6, RQ7, RQ8, hT.1]
      rw [hT.sgn (by omega) (by omega)]
      refine wp_goto (tgt := 22) dX10_signAt_18 rfl ?_
      refine wp_ireturn dX10_signAt_22 rfl ?_
      first | exact k | (unfold sg at k; rw [if_neg (by omega)] at k; exact k)
theorem p_size (hT0 : TpA sh rv) (hT : TpR iv t n) (k : R (some (aI n)) sh (CR iv (RQ r (p) (h) (q) (a) (u)) X Y Z) lw rv) : wp (d) mX10_size 0 [some (aR 1)] [] sh (CR iv (RQ r (p) (h) (q) (a) (u)) X Y Z) lw rv 0 0 R := by
  refine wp_aload_n dX10_size_0 rfl ?_
  refine wp_getI dX10_size_1 fX10_15 hT0.1 ?_
  try simp only [CR1, CR2, CR7, CR8, CR9, CR10, RQ4, RQ5, RQ6, RQ7, RQ8, hT.1]
  refine wp_ireturn dX10_size_4 rfl ?_
  exact k
theorem p_isDigit {c : Int} (kt : dg c → R (some (aI 1)) sh iv lw rv) (kf : ¬ dg c → R (some (aI 0)) sh iv lw rv) : wp d mX8_isDigit 0 [some (aI c)] [] sh iv lw rv 0 0 R := by
  refine wp_iload_n dX8_isDigit_0 rfl ?_
  refine wp_bipush dX8_isDigit_1 ?_
  refine wp_icmp_lt (tgt := 16) dX8_isDigit_3 rfl (fun h3 => ?_) (fun h3 => ?_)
  · refine wp_iconst dX8_isDigit_16 ?_
    refine wp_zreturn dX8_isDigit_17 rfl (Or.inl rfl) ?_
    exact kf (by unfold dg; omega)
  · refine wp_iload_n dX8_isDigit_6 rfl ?_
    refine wp_bipush dX8_isDigit_7 ?_
    refine wp_icmp_gt (tgt := 16) dX8_isDigit_9 rfl (fun h9 => ?_) (fun h9 => ?_)
    · refine wp_iconst dX8_isDigit_16 ?_
      refine wp_zreturn dX8_isDigit_17 rfl (Or.inl rfl) ?_
      exact kf (by unfold dg; omega)
    · refine wp_iconst dX8_isDigit_12 ?_
      refine wp_goto (tgt := 17) dX8_isDigit_13 rfl ?_
      refine wp_zreturn dX8_isDigit_17 rfl (Or.inr rfl) ?_
      exact kt (by unfold dg; omega)
theorem l_skip (hA : RdA sh rv) (hT0 : TpA sh rv) (hT : TpR iv t n) (m : Nat) : ∀ (i a : Int), 0 ≤ i → i ≤ a → a + m = n → R none sh (CR iv (RQ r (p) (h) (q) (skp t n a) (u)) X Y Z) lw rv → wp (d + 1) mX8_skipBlanks 2 [some (aR 7), some (aI i)] [] sh (CR iv (RQ r (p) (h) (q) (a) (u)) X Y Z) lw rv 0 0 R := by
  obtain ⟨-, hn, -, -⟩ := id hT
  induction m with
  | zero =>
    intro i a h0 h1 hm k
    have es : sg t n a = -1 := sg_n (by omega)
    rw [skp_n (by omega)] at k
    refine wp_iload_n dX8_skipBlanks_2 rfl ?_
    refine wp_sipush dX8_skipBlanks_3 ?_
    refine wp_icmp_ge (tgt := 41) dX8_skipBlanks_6 rfl (fun h6 => ?_) (fun h6 => ?_)
    · refine wp_return dX8_skipBlanks_41 rfl ?_
      exact k
    · refine wp_aload_n dX8_skipBlanks_9 rfl ?_
      refine wp_getR hA.2.1 dX8_skipBlanks_10 fX8_23 hA.1 ?_
      refine wp_aload_n dX8_skipBlanks_13 rfl ?_
      refine wp_getI dX8_skipBlanks_14 fX8_27 hA.1 ?_
      try simp only [CR1, CR2, CR7, CR8, CR9, CR10, RQ4, RQ5, RQ6, RQ7, RQ8, hT.1]
      refine wp_callV (as := [_]) (ls0 := [_, _]) (kc := 0) (ks := 0) (bc' := 0) (bs' := 0) dX8_skipBlanks_17 vX8_63 hT0.1 rfl rfl (Nat.le_of_ble_eq_true rfl) (Nat.le_of_ble_eq_true rfl) (by omega) (by omega) ?_
      refine p_signAt hT0 hT ?_
      refine wp_bipush dX8_skipBlanks_20 ?_
      refine wp_icmp_ne (tgt := 41) dX8_skipBlanks_22 rfl (fun h22 => ?_) (fun h22 => by exfalso; omega)
      refine wp_return dX8_skipBlanks_41 rfl ?_
      exact k
  | succ m ih =>
    intro i a h0 h1 hm k
    refine wp_iload_n dX8_skipBlanks_2 rfl ?_
    refine wp_sipush dX8_skipBlanks_3 ?_
    refine wp_icmp_ge (tgt := 41) dX8_skipBlanks_6 rfl (fun h6 => by exfalso; omega) (fun h6 => ?_)
    refine wp_aload_n dX8_skipBlanks_9 rfl ?_
    refine wp_getR hA.2.1 dX8_skipBlanks_10 fX8_23 hA.1 ?_
    refine wp_aload_n dX8_skipBlanks_13 rfl ?_
    refine wp_getI dX8_skipBlanks_14 fX8_27 hA.1 ?_
    try simp only [CR1, CR2, CR7, CR8, CR9, CR10, RQ4, RQ5, RQ6, RQ7, RQ8, hT.1]
    refine wp_callV (as := [_]) (ls0 := [_, _]) (kc := 0) (ks := 0) (bc' := 0) (bs' := 0) dX8_skipBlanks_17 vX8_63 hT0.1 rfl rfl (Nat.le_of_ble_eq_true rfl) (Nat.le_of_ble_eq_true rfl) (by omega) (by omega) ?_
    refine p_signAt hT0 hT ?_
    refine wp_bipush dX8_skipBlanks_20 ?_
    refine wp_icmp_ne (tgt := 41) dX8_skipBlanks_22 rfl (fun h22 => ?_) (fun h22 => ?_)
    · rw [skp_n h22] at k
      refine wp_return dX8_skipBlanks_41 rfl ?_
      exact k
    · rw [skp_s (by omega) h22] at k
      refine wp_aload_n dX8_skipBlanks_25 rfl ?_
      refine wp_dup dX8_skipBlanks_26 rfl ?_
      refine wp_getI dX8_skipBlanks_27 fX8_27 hA.1 ?_
      try simp only [CR1, CR2, CR7, CR8, CR9, CR10, RQ4, RQ5, RQ6, RQ7, RQ8, hT.1]
      refine wp_iconst dX8_skipBlanks_30 ?_
      refine wp_iadd dX8_skipBlanks_31 ⟨by omega, by omega⟩ ?_
      refine wp_putI dX8_skipBlanks_32 fX8_27 hA.1 ?_
      try simp only [CRu7, CRu8, CRu9, CRu10, RQu4, RQu5, RQu6, RQu7, RQu8]
      refine wp_iinc (ls' := [_, _]) dX8_skipBlanks_35 (by decide) rfl rfl ⟨by omega, by omega⟩ rfl ?_
      refine wp_goto (tgt := 2) dX8_skipBlanks_38 rfl ?_
      exact ih _ _ (by omega) (by omega) (by omega) k
theorem p_skip (hA : RdA sh rv) (hT0 : TpA sh rv) (hT : TpR iv t n) (ha : 0 ≤ a ∧ a ≤ n) (k : R none sh (CR iv (RQ r (p) (h) (q) (skp t n a) (u)) X Y Z) lw rv) : wp (d + 1) mX8_skipBlanks 0 [some (aR 7), none] [] sh (CR iv (RQ r (p) (h) (q) (a) (u)) X Y Z) lw rv 0 0 R := by
  refine wp_iconst dX8_skipBlanks_0 ?_
  refine wp_istore_n (ls' := [_, _]) dX8_skipBlanks_1 (by decide) rfl rfl ?_
  exact l_skip hA hT0 hT (n - a).toNat _ _ (by omega) (by omega) (by omega) k
theorem p_number {lo hi : Int} (hA : RdA sh rv) (hT0 : TpA sh rv) (hT : TpR iv t n) (ha : 0 ≤ a ∧ a < n) (kt : nmw t n (skp t n (a + 1)) lo hi = -1 → R (some (aI (-1))) sh (CR iv (RQ r (p) (h) (q) (nma t n (skp t n (a + 1))) (nmv t n (skp t n (a + 1)))) X Y Z) lw rv) (kf : ¬ nmw t n (skp t n (a + 1)) lo hi = -1 → ∀ a' u' : Int, R (some (aI (nmw t n (skp t n (a + 1)) lo hi))) sh (CR iv (RQ r (p) (h) (q) (a') (u')) X Y Z) lw rv) : wp (d + 2) mX8_readNumber 0 [some (aR 7), some (aI lo), some (aI hi), none, none] [] sh (CR iv (RQ r (p) (h) (q) (a) (u)) X Y Z) lw rv 0 0 R := by
  obtain ⟨-, hn, -, -⟩ := id hT
  have hs := skp_r (t := t) (n := n) (i := a + 1) (by omega) (by omega)
  have hb0 := sgb (i := skp t n (a + 1)) hT
  have hb1 := sgb (i := skp t n (a + 1) + 1) hT
  generalize hj : skp t n (a + 1) = j at *
  refine wp_aload_n dX8_readNumber_0 rfl ?_
  refine wp_dup dX8_readNumber_1 rfl ?_
  refine wp_getI dX8_readNumber_2 fX8_27 hA.1 ?_
  try simp only [CR1, CR2, CR7, CR8, CR9, CR10, RQ4, RQ5, RQ6, RQ7, RQ8, hT.1]
  refine wp_iconst dX8_readNumber_5 ?_
  refine wp_iadd dX8_readNumber_6 ⟨by omega, by omega⟩ ?_
  refine wp_putI dX8_readNumber_7 fX8_27 hA.1 ?_
  try simp only [CRu7, CRu8, CRu9, CRu10, RQu4, RQu5, RQu6, RQu7, RQu8]
  refine wp_aload_n dX8_readNumber_10 rfl ?_
  refine wp_callV (as := []) (ls0 := [_, _]) (kc := 0) (ks := 0) (bc' := 0) (bs' := 0) dX8_readNumber_11 vX8_71 hA.1 rfl rfl (Nat.le_of_ble_eq_true rfl) (Nat.le_of_ble_eq_true rfl) (by omega) (by omega) ?_
  refine p_skip hA hT0 hT (by omega) ?_
  rw [hj]
  refine wp_aload_n dX8_readNumber_14 rfl ?_
  refine wp_iconst dX8_readNumber_15 ?_
  refine wp_putI dX8_readNumber_16 fX8_109 hA.1 ?_
  try simp only [CRu7, CRu8, CRu9, CRu10, RQu4, RQu5, RQu6, RQu7, RQu8]
  refine wp_iconst dX8_readNumber_19 ?_
  refine wp_istore_n (ls' := [_, _, _, _, _]) dX8_readNumber_20 (by decide) rfl rfl ?_
  by_cases d0 : dg (sg t n j)
  · have l0 := dg_lt d0
    have e0 := d0
    unfold dg at e0
    by_cases d1 : dg (sg t n (j + 1))
    · have l1 := dg_lt d1
      have e1 := d1
      unfold dg at e1
      have hv : (0 * 10 + sg t n j - 48) * 10 + sg t n (j + 1) - 48 = nv2 t n j := by unfold nv2; omega
      by_cases d2 : dg (sg t n (j + 2))
      · have ew : nmw t n j lo hi = j + 2 := by unfold nmw; rw [if_neg (fun z => z d0), if_neg (fun z => z d1), if_pos d2]
        have hk := kf (by rw [ew]; omega)
        rw [ew] at hk
        refine wp_iload_n dX8_readNumber_21 rfl ?_
        refine wp_iconst dX8_readNumber_22 ?_
        refine wp_icmp_ge (tgt := 99) dX8_readNumber_23 rfl (fun q => absurd q (by decide)) (fun _ => ?_)
        refine wp_aload_n dX8_readNumber_26 rfl ?_
        refine wp_getR hA.2.1 dX8_readNumber_27 fX8_23 hA.1 ?_
        refine wp_aload_n dX8_readNumber_30 rfl ?_
        refine wp_getI dX8_readNumber_31 fX8_27 hA.1 ?_
        try simp only [CR1, CR2, CR7, CR8, CR9, CR10, RQ4, RQ5, RQ6, RQ7, RQ8, hT.1]
        refine wp_callV (as := [_]) (ls0 := [_, _]) (kc := 0) (ks := 0) (bc' := 0) (bs' := 0) dX8_readNumber_34 vX8_63 hT0.1 rfl rfl (Nat.le_of_ble_eq_true rfl) (Nat.le_of_ble_eq_true rfl) (by omega) (by omega) ?_
        refine p_signAt hT0 hT ?_
        refine wp_istore (ls' := [_, _, _, _, _]) dX8_readNumber_37 (by decide) rfl rfl ?_
        refine wp_iload dX8_readNumber_39 rfl ?_
        refine wp_callS (as := [_]) (ls0 := [_]) (kc := 0) (ks := 0) (bc' := 0) (bs' := 0) dX8_readNumber_41 vX8_67 rfl rfl (Nat.le_of_ble_eq_true rfl) (Nat.le_of_ble_eq_true rfl) (by omega) (by omega) ?_
        refine p_isDigit (fun _ => ?_) (fun z => absurd d0 z)
        refine wp_if_ne (tgt := 56) dX8_readNumber_44 rfl (fun _ => ?_) (fun q => absurd q (by decide))
        refine wp_iload_n dX8_readNumber_56 rfl ?_
        refine wp_iconst dX8_readNumber_57 ?_
        refine wp_icmp_ne (tgt := 66) dX8_readNumber_58 rfl (fun _ => ?_) (fun q => absurd q (by decide))
        refine wp_aload_n dX8_readNumber_66 rfl ?_
        refine wp_aload_n dX8_readNumber_67 rfl ?_
        refine wp_getI dX8_readNumber_68 fX8_109 hA.1 ?_
        try simp only [CR1, CR2, CR7, CR8, CR9, CR10, RQ4, RQ5, RQ6, RQ7, RQ8, hT.1]
        refine wp_bipush dX8_readNumber_71 ?_
        refine wp_imul dX8_readNumber_73 ⟨by omega, by omega⟩ ?_
        refine wp_iload dX8_readNumber_74 rfl ?_
        refine wp_iadd dX8_readNumber_76 ⟨by omega, by omega⟩ ?_
        refine wp_bipush dX8_readNumber_77 ?_
        refine wp_isub dX8_readNumber_79 ⟨by omega, by omega⟩ ?_
        refine wp_putI dX8_readNumber_80 fX8_109 hA.1 ?_
        try simp only [CRu7, CRu8, CRu9, CRu10, RQu4, RQu5, RQu6, RQu7, RQu8]
        refine wp_aload_n dX8_readNumber_83 rfl ?_
        refine wp_dup dX8_readNumber_84 rfl ?_
        refine wp_getI dX8_readNumber_85 fX8_27 hA.1 ?_
        try simp only [CR1, CR2, CR7, CR8, CR9, CR10, RQ4, RQ5, RQ6, RQ7, RQ8, hT.1]
        refine wp_iconst dX8_readNumber_88 ?_
        refine wp_iadd dX8_readNumber_89 ⟨by omega, by omega⟩ ?_
        refine wp_putI dX8_readNumber_90 fX8_27 hA.1 ?_
        try simp only [CRu7, CRu8, CRu9, CRu10, RQu4, RQu5, RQu6, RQu7, RQu8]
        refine wp_iinc (ls' := [_, _, _, _, _]) dX8_readNumber_93 (by decide) rfl rfl ⟨by omega, by omega⟩ rfl ?_
        refine wp_goto (tgt := 21) dX8_readNumber_96 rfl ?_
        refine wp_iload_n dX8_readNumber_21 rfl ?_
        refine wp_iconst dX8_readNumber_22 ?_
        refine wp_icmp_ge (tgt := 99) dX8_readNumber_23 rfl (fun q => absurd q (by decide)) (fun _ => ?_)
        refine wp_aload_n dX8_readNumber_26 rfl ?_
        refine wp_getR hA.2.1 dX8_readNumber_27 fX8_23 hA.1 ?_
        refine wp_aload_n dX8_readNumber_30 rfl ?_
        refine wp_getI dX8_readNumber_31 fX8_27 hA.1 ?_
        try simp only [CR1, CR2, CR7, CR8, CR9, CR10, RQ4, RQ5, RQ6, RQ7, RQ8, hT.1]
        refine wp_callV (as := [_]) (ls0 := [_, _]) (kc := 0) (ks := 0) (bc' := 0) (bs' := 0) dX8_readNumber_34 vX8_63 hT0.1 rfl rfl (Nat.le_of_ble_eq_true rfl) (Nat.le_of_ble_eq_true rfl) (by omega) (by omega) ?_
        refine p_signAt hT0 hT ?_
        refine wp_istore (ls' := [_, _, _, _, _]) dX8_readNumber_37 (by decide) rfl rfl ?_
        refine wp_iload dX8_readNumber_39 rfl ?_
        refine wp_callS (as := [_]) (ls0 := [_]) (kc := 0) (ks := 0) (bc' := 0) (bs' := 0) dX8_readNumber_41 vX8_67 rfl rfl (Nat.le_of_ble_eq_true rfl) (Nat.le_of_ble_eq_true rfl) (by omega) (by omega) ?_
        refine p_isDigit (fun _ => ?_) (fun z => absurd d1 z)
        refine wp_if_ne (tgt := 56) dX8_readNumber_44 rfl (fun _ => ?_) (fun q => absurd q (by decide))
        refine wp_iload_n dX8_readNumber_56 rfl ?_
        refine wp_iconst dX8_readNumber_57 ?_
        refine wp_icmp_ne (tgt := 66) dX8_readNumber_58 rfl (fun _ => ?_) (fun q => absurd q (by decide))
        refine wp_aload_n dX8_readNumber_66 rfl ?_
        refine wp_aload_n dX8_readNumber_67 rfl ?_
        refine wp_getI dX8_readNumber_68 fX8_109 hA.1 ?_
        try simp only [CR1, CR2, CR7, CR8, CR9, CR10, RQ4, RQ5, RQ6, RQ7, RQ8, hT.1]
        refine wp_bipush dX8_readNumber_71 ?_
        refine wp_imul dX8_readNumber_73 ⟨by omega, by omega⟩ ?_
        refine wp_iload dX8_readNumber_74 rfl ?_
        refine wp_iadd dX8_readNumber_76 ⟨by omega, by omega⟩ ?_
        refine wp_bipush dX8_readNumber_77 ?_
        refine wp_isub dX8_readNumber_79 ⟨by omega, by omega⟩ ?_
        refine wp_putI dX8_readNumber_80 fX8_109 hA.1 ?_
        try simp only [CRu7, CRu8, CRu9, CRu10, RQu4, RQu5, RQu6, RQu7, RQu8]
        refine wp_aload_n dX8_readNumber_83 rfl ?_
        refine wp_dup dX8_readNumber_84 rfl ?_
        refine wp_getI dX8_readNumber_85 fX8_27 hA.1 ?_
        try simp only [CR1, CR2, CR7, CR8, CR9, CR10, RQ4, RQ5, RQ6, RQ7, RQ8, hT.1]
        refine wp_iconst dX8_readNumber_88 ?_
        refine wp_iadd dX8_readNumber_89 ⟨by omega, by omega⟩ ?_
        refine wp_putI dX8_readNumber_90 fX8_27 hA.1 ?_
        try simp only [CRu7, CRu8, CRu9, CRu10, RQu4, RQu5, RQu6, RQu7, RQu8]
        refine wp_iinc (ls' := [_, _, _, _, _]) dX8_readNumber_93 (by decide) rfl rfl ⟨by omega, by omega⟩ rfl ?_
        refine wp_goto (tgt := 21) dX8_readNumber_96 rfl ?_
        refine wp_iload_n dX8_readNumber_21 rfl ?_
        refine wp_iconst dX8_readNumber_22 ?_
        refine wp_icmp_ge (tgt := 99) dX8_readNumber_23 rfl (fun q => absurd q (by decide)) (fun _ => ?_)
        refine wp_aload_n dX8_readNumber_26 rfl ?_
        refine wp_getR hA.2.1 dX8_readNumber_27 fX8_23 hA.1 ?_
        refine wp_aload_n dX8_readNumber_30 rfl ?_
        refine wp_getI dX8_readNumber_31 fX8_27 hA.1 ?_
        try simp only [CR1, CR2, CR7, CR8, CR9, CR10, RQ4, RQ5, RQ6, RQ7, RQ8, hT.1]
        refine wp_callV (as := [_]) (ls0 := [_, _]) (kc := 0) (ks := 0) (bc' := 0) (bs' := 0) dX8_readNumber_34 vX8_63 hT0.1 rfl rfl (Nat.le_of_ble_eq_true rfl) (Nat.le_of_ble_eq_true rfl) (by omega) (by omega) ?_
        refine p_signAt hT0 hT ?_
        refine wp_istore (ls' := [_, _, _, _, _]) dX8_readNumber_37 (by decide) rfl rfl ?_
        refine wp_iload dX8_readNumber_39 rfl ?_
        refine wp_callS (as := [_]) (ls0 := [_]) (kc := 0) (ks := 0) (bc' := 0) (bs' := 0) dX8_readNumber_41 vX8_67 rfl rfl (Nat.le_of_ble_eq_true rfl) (Nat.le_of_ble_eq_true rfl) (by omega) (by omega) ?_
        rw [show j + 1 + 1 = j + 2 by omega]
        refine p_isDigit (fun _ => ?_) (fun z => absurd d2 z)
        refine wp_if_ne (tgt := 56) dX8_readNumber_44 rfl (fun _ => ?_) (fun q => absurd q (by decide))
        refine wp_iload_n dX8_readNumber_56 rfl ?_
        refine wp_iconst dX8_readNumber_57 ?_
        refine wp_icmp_ne (tgt := 66) dX8_readNumber_58 rfl (fun q => absurd q (by decide)) (fun _ => ?_)
        refine wp_aload_n dX8_readNumber_61 rfl ?_
        refine wp_getI dX8_readNumber_62 fX8_27 hA.1 ?_
        try simp only [CR1, CR2, CR7, CR8, CR9, CR10, RQ4, RQ5, RQ6, RQ7, RQ8, hT.1]
        refine wp_ireturn dX8_readNumber_65 rfl ?_
        exact hk _ _
      · have ew : nmw t n j lo hi = if lo ≤ nv2 t n j ∧ nv2 t n j ≤ hi then -1 else j + 1 := by unfold nmw; rw [if_neg (fun z => z d0), if_neg (fun z => z d1), if_neg d2]
        have ev : nmv t n j = nv2 t n j := by unfold nmv; rw [if_neg (fun z => z d1)]
        have ea : nma t n j = j + 2 := by unfold nma; rw [if_neg (fun z => z d1)]
        rw [ev, ea] at kt
        rw [ew] at kt kf
        refine wp_iload_n dX8_readNumber_21 rfl ?_
        refine wp_iconst dX8_readNumber_22 ?_
        refine wp_icmp_ge (tgt := 99) dX8_readNumber_23 rfl (fun q => absurd q (by decide)) (fun _ => ?_)
        refine wp_aload_n dX8_readNumber_26 rfl ?_
        refine wp_getR hA.2.1 dX8_readNumber_27 fX8_23 hA.1 ?_
        refine wp_aload_n dX8_readNumber_30 rfl ?_
        refine wp_getI dX8_readNumber_31 fX8_27 hA.1 ?_
        try simp only [CR1, CR2, CR7, CR8, CR9, CR10, RQ4, RQ5, RQ6, RQ7, RQ8, hT.1]
        refine wp_callV (as := [_]) (ls0 := [_, _]) (kc := 0) (ks := 0) (bc' := 0) (bs' := 0) dX8_readNumber_34 vX8_63 hT0.1 rfl rfl (Nat.le_of_ble_eq_true rfl) (Nat.le_of_ble_eq_true rfl) (by omega) (by omega) ?_
        refine p_signAt hT0 hT ?_
        refine wp_istore (ls' := [_, _, _, _, _]) dX8_readNumber_37 (by decide) rfl rfl ?_
        refine wp_iload dX8_readNumber_39 rfl ?_
        refine wp_callS (as := [_]) (ls0 := [_]) (kc := 0) (ks := 0) (bc' := 0) (bs' := 0) dX8_readNumber_41 vX8_67 rfl rfl (Nat.le_of_ble_eq_true rfl) (Nat.le_of_ble_eq_true rfl) (by omega) (by omega) ?_
        refine p_isDigit (fun _ => ?_) (fun z => absurd d0 z)
        refine wp_if_ne (tgt := 56) dX8_readNumber_44 rfl (fun _ => ?_) (fun q => absurd q (by decide))
        refine wp_iload_n dX8_readNumber_56 rfl ?_
        refine wp_iconst dX8_readNumber_57 ?_
        refine wp_icmp_ne (tgt := 66) dX8_readNumber_58 rfl (fun _ => ?_) (fun q => absurd q (by decide))
        refine wp_aload_n dX8_readNumber_66 rfl ?_
        refine wp_aload_n dX8_readNumber_67 rfl ?_
        refine wp_getI dX8_readNumber_68 fX8_109 hA.1 ?_
        try simp only [CR1, CR2, CR7, CR8, CR9, CR10, RQ4, RQ5, RQ6, RQ7, RQ8, hT.1]
        refine wp_bipush dX8_readNumber_71 ?_
        refine wp_imul dX8_readNumber_73 ⟨by omega, by omega⟩ ?_
        refine wp_iload dX8_readNumber_74 rfl ?_
        refine wp_iadd dX8_readNumber_76 ⟨by omega, by omega⟩ ?_
        refine wp_bipush dX8_readNumber_77 ?_
        refine wp_isub dX8_readNumber_79 ⟨by omega, by omega⟩ ?_
        refine wp_putI dX8_readNumber_80 fX8_109 hA.1 ?_
        try simp only [CRu7, CRu8, CRu9, CRu10, RQu4, RQu5, RQu6, RQu7, RQu8]
        refine wp_aload_n dX8_readNumber_83 rfl ?_
        refine wp_dup dX8_readNumber_84 rfl ?_
        refine wp_getI dX8_readNumber_85 fX8_27 hA.1 ?_
        try simp only [CR1, CR2, CR7, CR8, CR9, CR10, RQ4, RQ5, RQ6, RQ7, RQ8, hT.1]
        refine wp_iconst dX8_readNumber_88 ?_
        refine wp_iadd dX8_readNumber_89 ⟨by omega, by omega⟩ ?_
        refine wp_putI dX8_readNumber_90 fX8_27 hA.1 ?_
        try simp only [CRu7, CRu8, CRu9, CRu10, RQu4, RQu5, RQu6, RQu7, RQu8]
        refine wp_iinc (ls' := [_, _, _, _, _]) dX8_readNumber_93 (by decide) rfl rfl ⟨by omega, by omega⟩ rfl ?_
        refine wp_goto (tgt := 21) dX8_readNumber_96 rfl ?_
        refine wp_iload_n dX8_readNumber_21 rfl ?_
        refine wp_iconst dX8_readNumber_22 ?_
        refine wp_icmp_ge (tgt := 99) dX8_readNumber_23 rfl (fun q => absurd q (by decide)) (fun _ => ?_)
        refine wp_aload_n dX8_readNumber_26 rfl ?_
        refine wp_getR hA.2.1 dX8_readNumber_27 fX8_23 hA.1 ?_
        refine wp_aload_n dX8_readNumber_30 rfl ?_
        refine wp_getI dX8_readNumber_31 fX8_27 hA.1 ?_
        try simp only [CR1, CR2, CR7, CR8, CR9, CR10, RQ4, RQ5, RQ6, RQ7, RQ8, hT.1]
        refine wp_callV (as := [_]) (ls0 := [_, _]) (kc := 0) (ks := 0) (bc' := 0) (bs' := 0) dX8_readNumber_34 vX8_63 hT0.1 rfl rfl (Nat.le_of_ble_eq_true rfl) (Nat.le_of_ble_eq_true rfl) (by omega) (by omega) ?_
        refine p_signAt hT0 hT ?_
        refine wp_istore (ls' := [_, _, _, _, _]) dX8_readNumber_37 (by decide) rfl rfl ?_
        refine wp_iload dX8_readNumber_39 rfl ?_
        refine wp_callS (as := [_]) (ls0 := [_]) (kc := 0) (ks := 0) (bc' := 0) (bs' := 0) dX8_readNumber_41 vX8_67 rfl rfl (Nat.le_of_ble_eq_true rfl) (Nat.le_of_ble_eq_true rfl) (by omega) (by omega) ?_
        refine p_isDigit (fun _ => ?_) (fun z => absurd d1 z)
        refine wp_if_ne (tgt := 56) dX8_readNumber_44 rfl (fun _ => ?_) (fun q => absurd q (by decide))
        refine wp_iload_n dX8_readNumber_56 rfl ?_
        refine wp_iconst dX8_readNumber_57 ?_
        refine wp_icmp_ne (tgt := 66) dX8_readNumber_58 rfl (fun _ => ?_) (fun q => absurd q (by decide))
        refine wp_aload_n dX8_readNumber_66 rfl ?_
        refine wp_aload_n dX8_readNumber_67 rfl ?_
        refine wp_getI dX8_readNumber_68 fX8_109 hA.1 ?_
        try simp only [CR1, CR2, CR7, CR8, CR9, CR10, RQ4, RQ5, RQ6, RQ7, RQ8, hT.1]
        refine wp_bipush dX8_readNumber_71 ?_
        refine wp_imul dX8_readNumber_73 ⟨by omega, by omega⟩ ?_
        refine wp_iload dX8_readNumber_74 rfl ?_
        refine wp_iadd dX8_readNumber_76 ⟨by omega, by omega⟩ ?_
        refine wp_bipush dX8_readNumber_77 ?_
        refine wp_isub dX8_readNumber_79 ⟨by omega, by omega⟩ ?_
        refine wp_putI dX8_readNumber_80 fX8_109 hA.1 ?_
        try simp only [CRu7, CRu8, CRu9, CRu10, RQu4, RQu5, RQu6, RQu7, RQu8]
        refine wp_aload_n dX8_readNumber_83 rfl ?_
        refine wp_dup dX8_readNumber_84 rfl ?_
        refine wp_getI dX8_readNumber_85 fX8_27 hA.1 ?_
        try simp only [CR1, CR2, CR7, CR8, CR9, CR10, RQ4, RQ5, RQ6, RQ7, RQ8, hT.1]
        refine wp_iconst dX8_readNumber_88 ?_
        refine wp_iadd dX8_readNumber_89 ⟨by omega, by omega⟩ ?_
        refine wp_putI dX8_readNumber_90 fX8_27 hA.1 ?_
        try simp only [CRu7, CRu8, CRu9, CRu10, RQu4, RQu5, RQu6, RQu7, RQu8]
        refine wp_iinc (ls' := [_, _, _, _, _]) dX8_readNumber_93 (by decide) rfl rfl ⟨by omega, by omega⟩ rfl ?_
        refine wp_goto (tgt := 21) dX8_readNumber_96 rfl ?_
        refine wp_iload_n dX8_readNumber_21 rfl ?_
        refine wp_iconst dX8_readNumber_22 ?_
        refine wp_icmp_ge (tgt := 99) dX8_readNumber_23 rfl (fun q => absurd q (by decide)) (fun _ => ?_)
        refine wp_aload_n dX8_readNumber_26 rfl ?_
        refine wp_getR hA.2.1 dX8_readNumber_27 fX8_23 hA.1 ?_
        refine wp_aload_n dX8_readNumber_30 rfl ?_
        refine wp_getI dX8_readNumber_31 fX8_27 hA.1 ?_
        try simp only [CR1, CR2, CR7, CR8, CR9, CR10, RQ4, RQ5, RQ6, RQ7, RQ8, hT.1]
        refine wp_callV (as := [_]) (ls0 := [_, _]) (kc := 0) (ks := 0) (bc' := 0) (bs' := 0) dX8_readNumber_34 vX8_63 hT0.1 rfl rfl (Nat.le_of_ble_eq_true rfl) (Nat.le_of_ble_eq_true rfl) (by omega) (by omega) ?_
        refine p_signAt hT0 hT ?_
        refine wp_istore (ls' := [_, _, _, _, _]) dX8_readNumber_37 (by decide) rfl rfl ?_
        refine wp_iload dX8_readNumber_39 rfl ?_
        refine wp_callS (as := [_]) (ls0 := [_]) (kc := 0) (ks := 0) (bc' := 0) (bs' := 0) dX8_readNumber_41 vX8_67 rfl rfl (Nat.le_of_ble_eq_true rfl) (Nat.le_of_ble_eq_true rfl) (by omega) (by omega) ?_
        rw [show j + 1 + 1 = j + 2 by omega]
        refine p_isDigit (fun z => absurd z d2) (fun _ => ?_)
        refine wp_if_ne (tgt := 56) dX8_readNumber_44 rfl (fun q => absurd q (by decide)) (fun _ => ?_)
        refine wp_iload_n dX8_readNumber_47 rfl ?_
        refine wp_if_ne (tgt := 99) dX8_readNumber_48 rfl (fun _ => ?_) (fun q => absurd q (by decide))
        refine wp_aload_n dX8_readNumber_99 rfl ?_
        refine wp_getI dX8_readNumber_100 fX8_109 hA.1 ?_
        try simp only [CR1, CR2, CR7, CR8, CR9, CR10, RQ4, RQ5, RQ6, RQ7, RQ8, hT.1]
        refine wp_iload_n dX8_readNumber_103 rfl ?_
        refine wp_icmp_lt (tgt := 115) dX8_readNumber_104 rfl (fun h104 => ?_) (fun h104 => ?_)
        · refine wp_aload_n dX8_readNumber_115 rfl ?_
          refine wp_getI dX8_readNumber_116 fX8_27 hA.1 ?_
          try simp only [CR1, CR2, CR7, CR8, CR9, CR10, RQ4, RQ5, RQ6, RQ7, RQ8, hT.1]
          refine wp_iconst dX8_readNumber_119 ?_
          refine wp_isub dX8_readNumber_120 ⟨by omega, by omega⟩ ?_
          refine wp_goto (tgt := 125) dX8_readNumber_121 rfl ?_
          refine wp_ireturn dX8_readNumber_125 rfl ?_
          rw [hv] at *
          first
          | (rw [if_pos (by omega)] at kt; exact kt rfl)
          | (rw [if_neg (by omega)] at kf
             have hk := kf (by omega)
             first
             | exact hk _ _
             | (rw [show j + 2 - 1 = j + 1 by omega]; exact hk _ _)
             | (rw [show j + 1 - 1 = j by omega]; exact hk _ _))
        · refine wp_aload_n dX8_readNumber_107 rfl ?_
          refine wp_getI dX8_readNumber_108 fX8_109 hA.1 ?_
          try simp only [CR1, CR2, CR7, CR8, CR9, CR10, RQ4, RQ5, RQ6, RQ7, RQ8, hT.1]
          refine wp_iload_n dX8_readNumber_111 rfl ?_
          refine wp_icmp_le (tgt := 124) dX8_readNumber_112 rfl (fun h112 => ?_) (fun h112 => ?_)
          · refine wp_iconst dX8_readNumber_124 ?_
            refine wp_ireturn dX8_readNumber_125 rfl ?_
            rw [hv] at *
            first
            | (rw [if_pos (by omega)] at kt; exact kt rfl)
            | (rw [if_neg (by omega)] at kf
               have hk := kf (by omega)
               first
               | exact hk _ _
               | (rw [show j + 2 - 1 = j + 1 by omega]; exact hk _ _)
               | (rw [show j + 1 - 1 = j by omega]; exact hk _ _))
          · refine wp_aload_n dX8_readNumber_115 rfl ?_
            refine wp_getI dX8_readNumber_116 fX8_27 hA.1 ?_
            try simp only [CR1, CR2, CR7, CR8, CR9, CR10, RQ4, RQ5, RQ6, RQ7, RQ8, hT.1]
            refine wp_iconst dX8_readNumber_119 ?_
            refine wp_isub dX8_readNumber_120 ⟨by omega, by omega⟩ ?_
            refine wp_goto (tgt := 125) dX8_readNumber_121 rfl ?_
            refine wp_ireturn dX8_readNumber_125 rfl ?_
            rw [hv] at *
            first
            | (rw [if_pos (by omega)] at kt; exact kt rfl)
            | (rw [if_neg (by omega)] at kf
               have hk := kf (by omega)
               first
               | exact hk _ _
               | (rw [show j + 2 - 1 = j + 1 by omega]; exact hk _ _)
               | (rw [show j + 1 - 1 = j by omega]; exact hk _ _))
    · have ew : nmw t n j lo hi = if lo ≤ sg t n j - 48 ∧ sg t n j - 48 ≤ hi then -1 else j := by unfold nmw; rw [if_neg (fun z => z d0), if_pos d1]
      have ev : nmv t n j = sg t n j - 48 := by unfold nmv; rw [if_pos d1]
      have ea : nma t n j = j + 1 := by unfold nma; rw [if_pos d1]
      have hv : 0 * 10 + sg t n j - 48 = sg t n j - 48 := by omega
      rw [ev, ea] at kt
      rw [ew] at kt kf
      refine wp_iload_n dX8_readNumber_21 rfl ?_
      refine wp_iconst dX8_readNumber_22 ?_
      refine wp_icmp_ge (tgt := 99) dX8_readNumber_23 rfl (fun q => absurd q (by decide)) (fun _ => ?_)
      refine wp_aload_n dX8_readNumber_26 rfl ?_
      refine wp_getR hA.2.1 dX8_readNumber_27 fX8_23 hA.1 ?_
      refine wp_aload_n dX8_readNumber_30 rfl ?_
      refine wp_getI dX8_readNumber_31 fX8_27 hA.1 ?_
      try simp only [CR1, CR2, CR7, CR8, CR9, CR10, RQ4, RQ5, RQ6, RQ7, RQ8, hT.1]
      refine wp_callV (as := [_]) (ls0 := [_, _]) (kc := 0) (ks := 0) (bc' := 0) (bs' := 0) dX8_readNumber_34 vX8_63 hT0.1 rfl rfl (Nat.le_of_ble_eq_true rfl) (Nat.le_of_ble_eq_true rfl) (by omega) (by omega) ?_
      refine p_signAt hT0 hT ?_
      refine wp_istore (ls' := [_, _, _, _, _]) dX8_readNumber_37 (by decide) rfl rfl ?_
      refine wp_iload dX8_readNumber_39 rfl ?_
      refine wp_callS (as := [_]) (ls0 := [_]) (kc := 0) (ks := 0) (bc' := 0) (bs' := 0) dX8_readNumber_41 vX8_67 rfl rfl (Nat.le_of_ble_eq_true rfl) (Nat.le_of_ble_eq_true rfl) (by omega) (by omega) ?_
      refine p_isDigit (fun _ => ?_) (fun z => absurd d0 z)
      refine wp_if_ne (tgt := 56) dX8_readNumber_44 rfl (fun _ => ?_) (fun q => absurd q (by decide))
      refine wp_iload_n dX8_readNumber_56 rfl ?_
      refine wp_iconst dX8_readNumber_57 ?_
      refine wp_icmp_ne (tgt := 66) dX8_readNumber_58 rfl (fun _ => ?_) (fun q => absurd q (by decide))
      refine wp_aload_n dX8_readNumber_66 rfl ?_
      refine wp_aload_n dX8_readNumber_67 rfl ?_
      refine wp_getI dX8_readNumber_68 fX8_109 hA.1 ?_
      try simp only [CR1, CR2, CR7, CR8, CR9, CR10, RQ4, RQ5, RQ6, RQ7, RQ8, hT.1]
      refine wp_bipush dX8_readNumber_71 ?_
      refine wp_imul dX8_readNumber_73 ⟨by omega, by omega⟩ ?_
      refine wp_iload dX8_readNumber_74 rfl ?_
      refine wp_iadd dX8_readNumber_76 ⟨by omega, by omega⟩ ?_
      refine wp_bipush dX8_readNumber_77 ?_
      refine wp_isub dX8_readNumber_79 ⟨by omega, by omega⟩ ?_
      refine wp_putI dX8_readNumber_80 fX8_109 hA.1 ?_
      try simp only [CRu7, CRu8, CRu9, CRu10, RQu4, RQu5, RQu6, RQu7, RQu8]
      refine wp_aload_n dX8_readNumber_83 rfl ?_
      refine wp_dup dX8_readNumber_84 rfl ?_
      refine wp_getI dX8_readNumber_85 fX8_27 hA.1 ?_
      try simp only [CR1, CR2, CR7, CR8, CR9, CR10, RQ4, RQ5, RQ6, RQ7, RQ8, hT.1]
      refine wp_iconst dX8_readNumber_88 ?_
      refine wp_iadd dX8_readNumber_89 ⟨by omega, by omega⟩ ?_
      refine wp_putI dX8_readNumber_90 fX8_27 hA.1 ?_
      try simp only [CRu7, CRu8, CRu9, CRu10, RQu4, RQu5, RQu6, RQu7, RQu8]
      refine wp_iinc (ls' := [_, _, _, _, _]) dX8_readNumber_93 (by decide) rfl rfl ⟨by omega, by omega⟩ rfl ?_
      refine wp_goto (tgt := 21) dX8_readNumber_96 rfl ?_
      refine wp_iload_n dX8_readNumber_21 rfl ?_
      refine wp_iconst dX8_readNumber_22 ?_
      refine wp_icmp_ge (tgt := 99) dX8_readNumber_23 rfl (fun q => absurd q (by decide)) (fun _ => ?_)
      refine wp_aload_n dX8_readNumber_26 rfl ?_
      refine wp_getR hA.2.1 dX8_readNumber_27 fX8_23 hA.1 ?_
      refine wp_aload_n dX8_readNumber_30 rfl ?_
      refine wp_getI dX8_readNumber_31 fX8_27 hA.1 ?_
      try simp only [CR1, CR2, CR7, CR8, CR9, CR10, RQ4, RQ5, RQ6, RQ7, RQ8, hT.1]
      refine wp_callV (as := [_]) (ls0 := [_, _]) (kc := 0) (ks := 0) (bc' := 0) (bs' := 0) dX8_readNumber_34 vX8_63 hT0.1 rfl rfl (Nat.le_of_ble_eq_true rfl) (Nat.le_of_ble_eq_true rfl) (by omega) (by omega) ?_
      refine p_signAt hT0 hT ?_
      refine wp_istore (ls' := [_, _, _, _, _]) dX8_readNumber_37 (by decide) rfl rfl ?_
      refine wp_iload dX8_readNumber_39 rfl ?_
      refine wp_callS (as := [_]) (ls0 := [_]) (kc := 0) (ks := 0) (bc' := 0) (bs' := 0) dX8_readNumber_41 vX8_67 rfl rfl (Nat.le_of_ble_eq_true rfl) (Nat.le_of_ble_eq_true rfl) (by omega) (by omega) ?_
      refine p_isDigit (fun z => absurd z d1) (fun _ => ?_)
      refine wp_if_ne (tgt := 56) dX8_readNumber_44 rfl (fun q => absurd q (by decide)) (fun _ => ?_)
      refine wp_iload_n dX8_readNumber_47 rfl ?_
      refine wp_if_ne (tgt := 99) dX8_readNumber_48 rfl (fun _ => ?_) (fun q => absurd q (by decide))
      refine wp_aload_n dX8_readNumber_99 rfl ?_
      refine wp_getI dX8_readNumber_100 fX8_109 hA.1 ?_
      try simp only [CR1, CR2, CR7, CR8, CR9, CR10, RQ4, RQ5, RQ6, RQ7, RQ8, hT.1]
      refine wp_iload_n dX8_readNumber_103 rfl ?_
      refine wp_icmp_lt (tgt := 115) dX8_readNumber_104 rfl (fun h104 => ?_) (fun h104 => ?_)
      · refine wp_aload_n dX8_readNumber_115 rfl ?_
        refine wp_getI dX8_readNumber_116 fX8_27 hA.1 ?_
        try simp only [CR1, CR2, CR7, CR8, CR9, CR10, RQ4, RQ5, RQ6, RQ7, RQ8, hT.1]
        refine wp_iconst dX8_readNumber_119 ?_
        refine wp_isub dX8_readNumber_120 ⟨by omega, by omega⟩ ?_
        refine wp_goto (tgt := 125) dX8_readNumber_121 rfl ?_
        refine wp_ireturn dX8_readNumber_125 rfl ?_
        rw [hv] at *
        first
        | (rw [if_pos (by omega)] at kt; exact kt rfl)
        | (rw [if_neg (by omega)] at kf
           have hk := kf (by omega)
           first
           | exact hk _ _
           | (rw [show j + 2 - 1 = j + 1 by omega]; exact hk _ _)
           | (rw [show j + 1 - 1 = j by omega]; exact hk _ _))
      · refine wp_aload_n dX8_readNumber_107 rfl ?_
        refine wp_getI dX8_readNumber_108 fX8_109 hA.1 ?_
        try simp only [CR1, CR2, CR7, CR8, CR9, CR10, RQ4, RQ5, RQ6, RQ7, RQ8, hT.1]
        refine wp_iload_n dX8_readNumber_111 rfl ?_
        refine wp_icmp_le (tgt := 124) dX8_readNumber_112 rfl (fun h112 => ?_) (fun h112 => ?_)
        · refine wp_iconst dX8_readNumber_124 ?_
          refine wp_ireturn dX8_readNumber_125 rfl ?_
          rw [hv] at *
          first
          | (rw [if_pos (by omega)] at kt; exact kt rfl)
          | (rw [if_neg (by omega)] at kf
             have hk := kf (by omega)
             first
             | exact hk _ _
             | (rw [show j + 2 - 1 = j + 1 by omega]; exact hk _ _)
             | (rw [show j + 1 - 1 = j by omega]; exact hk _ _))
        · refine wp_aload_n dX8_readNumber_115 rfl ?_
          refine wp_getI dX8_readNumber_116 fX8_27 hA.1 ?_
          try simp only [CR1, CR2, CR7, CR8, CR9, CR10, RQ4, RQ5, RQ6, RQ7, RQ8, hT.1]
          refine wp_iconst dX8_readNumber_119 ?_
          refine wp_isub dX8_readNumber_120 ⟨by omega, by omega⟩ ?_
          refine wp_goto (tgt := 125) dX8_readNumber_121 rfl ?_
          refine wp_ireturn dX8_readNumber_125 rfl ?_
          rw [hv] at *
          first
          | (rw [if_pos (by omega)] at kt; exact kt rfl)
          | (rw [if_neg (by omega)] at kf
             have hk := kf (by omega)
             first
             | exact hk _ _
             | (rw [show j + 2 - 1 = j + 1 by omega]; exact hk _ _)
             | (rw [show j + 1 - 1 = j by omega]; exact hk _ _))
  · have ew : nmw t n j lo hi = j := by unfold nmw; rw [if_pos d0]
    have hk := kf (by rw [ew]; omega)
    rw [ew] at hk
    refine wp_iload_n dX8_readNumber_21 rfl ?_
    refine wp_iconst dX8_readNumber_22 ?_
    refine wp_icmp_ge (tgt := 99) dX8_readNumber_23 rfl (fun q => absurd q (by decide)) (fun _ => ?_)
    refine wp_aload_n dX8_readNumber_26 rfl ?_
    refine wp_getR hA.2.1 dX8_readNumber_27 fX8_23 hA.1 ?_
    refine wp_aload_n dX8_readNumber_30 rfl ?_
    refine wp_getI dX8_readNumber_31 fX8_27 hA.1 ?_
    try simp only [CR1, CR2, CR7, CR8, CR9, CR10, RQ4, RQ5, RQ6, RQ7, RQ8, hT.1]
    refine wp_callV (as := [_]) (ls0 := [_, _]) (kc := 0) (ks := 0) (bc' := 0) (bs' := 0) dX8_readNumber_34 vX8_63 hT0.1 rfl rfl (Nat.le_of_ble_eq_true rfl) (Nat.le_of_ble_eq_true rfl) (by omega) (by omega) ?_
    refine p_signAt hT0 hT ?_
    refine wp_istore (ls' := [_, _, _, _, _]) dX8_readNumber_37 (by decide) rfl rfl ?_
    refine wp_iload dX8_readNumber_39 rfl ?_
    refine wp_callS (as := [_]) (ls0 := [_]) (kc := 0) (ks := 0) (bc' := 0) (bs' := 0) dX8_readNumber_41 vX8_67 rfl rfl (Nat.le_of_ble_eq_true rfl) (Nat.le_of_ble_eq_true rfl) (by omega) (by omega) ?_
    refine p_isDigit (fun z => absurd z d0) (fun _ => ?_)
    refine wp_if_ne (tgt := 56) dX8_readNumber_44 rfl (fun q => absurd q (by decide)) (fun _ => ?_)
    refine wp_iload_n dX8_readNumber_47 rfl ?_
    refine wp_if_ne (tgt := 99) dX8_readNumber_48 rfl (fun q => absurd q (by decide)) (fun _ => ?_)
    refine wp_aload_n dX8_readNumber_51 rfl ?_
    refine wp_getI dX8_readNumber_52 fX8_27 hA.1 ?_
    try simp only [CR1, CR2, CR7, CR8, CR9, CR10, RQ4, RQ5, RQ6, RQ7, RQ8, hT.1]
    refine wp_ireturn dX8_readNumber_55 rfl ?_
    exact hk _ _
end C21
