/-- hops from i on: what is wrong, how many, the row -/
noncomputable def hpL (t : Int → Int) (n : Int) : Nat → Int → Int → (Int → Int) → Int × Int × (Int → Int)
  | 0, i, c, H => (if 0 < c then -1 else i, c, H)
  | m + 1, i, c, H => if sg t n i = 32 then hpL t n m (i + 1) c H else @ite _ (¬ dg (sg t n i) ∨ 16 ≤ c) (Classical.propDecidable _) (i, c, H) (hpL t n m (i + 1) (c + 1) (up H c (sg t n i - 48)))
noncomputable def hopV (t : Int → Int) (n : Int) (H : Int → Int) : Int × Int × (Int → Int) := hpL t n n.toNat 0 0 H
/-- the bytes of five numbers -/
def byF (a b c e f k : Int) : Int := (if k < 4 then a else if k < 8 then b else if k < 12 then c else if k < 16 then e else f) / 2 ^ (24 - 8 * (k % 4)).toNat % 256
def apN (f : Int → Int) : Nat → Int → Int → Int
  | 0, _, n => n
  | m + 1, k, n => apN f m (k + 1) (if f k = 0 then n else n + 1)
def apT (f : Int → Int) : Nat → Int → Int → (Int → Int) → (Int → Int)
  | 0, _, _, t => t
  | m + 1, k, n, t => if f k = 0 then apT f m (k + 1) n t else apT f m (k + 1) (n + 1) (up t n (f k))
def ldL (pa : Int → Int) : Nat → Int → (Int → Int) → (Int → Int)
  | 0, _, N => N
  | m + 1, p, N => ldL pa m (p + 1) (up N (61 * p + 58) (pa (4 * p + 3)))
def tmN (pa : Int → Int) (np au : Int) (N : Int → Int) : Int → Int := up (ldL pa np.toNat 0 (cpR N (fun _ => 0) 0 550)) 367 au
section R29
variable {d : Nat} {iv lw : aF} {F N G O T S X Y Z : Int → Int} {R : aPost} {a w p h : Int}
theorem hpL_sk {t : Int → Int} {n : Int} (m : Nat) : ∀ (i c : Int) (H : Int → Int), 0 ≤ i → i + m = n → hpL t n m i c H = hpL t n (n - skp t n i).toNat (skp t n i) c H := by
  induction m with
  | zero => intro i c H h0 hm; rw [skp_n (by rw [sg_n (by omega)]; omega), show (n - i).toNat = 0 by omega]
  | succ m ih =>
    intro i c H h0 hm
    by_cases e : sg t n i = 32
    · rw [skp_s h0 e, hpL, if_pos e]; exact ih _ _ _ (by omega) (by omega)
    · rw [skp_n e, show (n - i).toNat = m + 1 by omega]
theorem l_hops (hn : 0 ≤ F 2 ∧ F 2 ≤ 240) (htp : ∀ i : Int, 0 ≤ i → i < F 2 → ¬ iv 1 i = -1) (m : Nat) : ∀ (a h : Int) (Z : Int → Int), 0 ≤ a → a + m = F 2 → (0 ≤ h ∧ h ≤ 16) → ((hpL (iv 1) (F 2) m a h Z).1 = -1 → ∀ a' : Int, R (some (aI (-1))) SHR (ST (RE iv X Y (hpL (iv 1) (F 2) m a h Z).2.2) (RF F (a') (-1) (p) ((hpL (iv 1) (F 2) m a h Z).2.1)) N G O T S) lw RVR) → (¬ (hpL (iv 1) (F 2) m a h Z).1 = -1 → ∀ (a' h' : Int) (Z' : Int → Int), R (some (aI (hpL (iv 1) (F 2) m a h Z).1)) SHR (ST (RE iv X Y Z') (RF F (a') ((hpL (iv 1) (F 2) m a h Z).1) (p) (h')) N G O T S) lw RVR) → wp (d + 2) mX12_readHops 15 [some (aR 0)] [] SHR (ST (RE iv X Y Z) (RF F (a) (-1) (p) (h)) N G O T S) lw RVR 0 0 R := by
  induction m using Nat.strongRecOn with
  | ind m ih =>
    intro a h Z h0 hm hh kt kf
    have hs := skp_r (t := iv 1) (n := F 2) (i := a) h0 (by omega)
    rw [hpL_sk m a h Z h0 hm] at kt kf
    generalize hj : skp (iv 1) (F 2) a = j at *
    have ej : skp (iv 1) (F 2) j = j := skp_n hs.2.2
    by_cases e0 : j = F 2
    · have es : sg (iv 1) (F 2) j = -1 := sg_n (by omega)
      rw [show (F 2 - j).toNat = 0 by omega, hpL] at kt kf
      have nd : ¬ dg (sg (iv 1) (F 2) j) := by rw [es]; unfold dg; omega
      refine wp_aload_n dX12_readHops_15 rfl ?_
      refine wp_callV (as := []) (ls0 := [_]) (kc := 0) (ks := 0) (bc' := 0) (bs' := 0) dX12_readHops_16 vX12_89 rfl rfl rfl (Nat.le_of_ble_eq_true rfl) (Nat.le_of_ble_eq_true rfl) (by omega) (by omega) ?_
      refine s_ahead hn (by omega) ?_
      rw [hj]
      refine wp_callS (as := [_]) (ls0 := [_]) (kc := 0) (ks := 0) (bc' := 0) (bs' := 0) dX12_readHops_19 vX12_92 rfl rfl (Nat.le_of_ble_eq_true rfl) (Nat.le_of_ble_eq_true rfl) (by omega) (by omega) ?_
      refine s_isDigit (fun z => absurd z nd) (fun _ => ?_)
      refine wp_if_eq (tgt := 73) dX12_readHops_22 rfl (fun _ => ?_) (fun q => absurd q (by decide))
      refine wp_aload_n dX12_readHops_73 rfl ?_
      refine wp_callV (as := []) (ls0 := [_]) (kc := 0) (ks := 0) (bc' := 0) (bs' := 0) dX12_readHops_74 vX12_89 rfl rfl rfl (Nat.le_of_ble_eq_true rfl) (Nat.le_of_ble_eq_true rfl) (by omega) (by omega) ?_
      refine s_ahead hn (by omega) ?_
      rw [ej, es]
      refine wp_iconst dX12_readHops_77 ?_
      refine wp_icmp_ne (tgt := 88) dX12_readHops_78 rfl (fun h78 => by exfalso; omega) (fun h78 => ?_)
      refine wp_aload_n dX12_readHops_81 rfl ?_
      refine wp_getI dX12_readHops_82 fX12_130 rfl ?_
      try simp only [ST0, ST5, ST6, ST7, ST8, ST10, ST11, ST12, ST13, ST1, ST2, ST3, ST4, RE1, RE2, RE3, RE4, RF2, RF3, RF4, RF8, RF9, RF13, RF14]
      refine wp_if_ne (tgt := 92) dX12_readHops_85 rfl (fun h85 => ?_) (fun h85 => ?_)
      · refine wp_aload_n dX12_readHops_92 rfl ?_
        refine wp_getI dX12_readHops_93 fX12_86 rfl ?_
        try simp only [ST0, ST5, ST6, ST7, ST8, ST10, ST11, ST12, ST13, ST1, ST2, ST3, ST4, RE1, RE2, RE3, RE4, RF2, RF3, RF4, RF8, RF9, RF13, RF14]
        refine wp_ireturn dX12_readHops_96 rfl ?_
        first
        | (have hk := kt (if_pos (by omega)); exact hk _)
        | (rw [if_neg (by omega)] at kf; exact kf (by show ¬ j = -1; omega) _ _ _)
      · refine wp_aload_n dX12_readHops_88 rfl ?_
        refine wp_callV (as := []) (ls0 := [_]) (kc := 0) (ks := 0) (bc' := 0) (bs' := 0) dX12_readHops_89 vX12_96 rfl rfl rfl (Nat.le_of_ble_eq_true rfl) (Nat.le_of_ble_eq_true rfl) (by omega) (by omega) ?_
        refine s_badN rfl ?_
        refine wp_aload_n dX12_readHops_92 rfl ?_
        refine wp_getI dX12_readHops_93 fX12_86 rfl ?_
        try simp only [ST0, ST5, ST6, ST7, ST8, ST10, ST11, ST12, ST13, ST1, ST2, ST3, ST4, RE1, RE2, RE3, RE4, RF2, RF3, RF4, RF8, RF9, RF13, RF14]
        refine wp_ireturn dX12_readHops_96 rfl ?_
        first
        | (have hk := kt (if_pos (by omega)); exact hk _)
        | (rw [if_neg (by omega)] at kf; exact kf (by show ¬ j = -1; omega) _ _ _)
    · obtain ⟨q, hq⟩ : ∃ q : Nat, (F 2 - j).toNat = q + 1 := ⟨(F 2 - j).toNat - 1, by omega⟩
      rw [hq, hpL, if_neg hs.2.2] at kt kf
      have hnn : ∀ {P : Prop}, sg (iv 1) (F 2) j = -1 → P := fun e => by unfold sg at e; rw [if_pos (by omega)] at e; exact absurd e (htp j (by omega) (by omega))
      by_cases c1 : ¬ dg (sg (iv 1) (F 2) j) ∨ 16 ≤ h
      · rw [if_pos c1] at kf
        have hkk := kf (by show ¬ j = -1; omega)
        refine wp_aload_n dX12_readHops_15 rfl ?_
        refine wp_callV (as := []) (ls0 := [_]) (kc := 0) (ks := 0) (bc' := 0) (bs' := 0) dX12_readHops_16 vX12_89 rfl rfl rfl (Nat.le_of_ble_eq_true rfl) (Nat.le_of_ble_eq_true rfl) (by omega) (by omega) ?_
        refine s_ahead hn (by omega) ?_
        rw [hj]
        refine wp_callS (as := [_]) (ls0 := [_]) (kc := 0) (ks := 0) (bc' := 0) (bs' := 0) dX12_readHops_19 vX12_92 rfl rfl (Nat.le_of_ble_eq_true rfl) (Nat.le_of_ble_eq_true rfl) (by omega) (by omega) ?_
        refine s_isDigit (fun h19 => ?_) (fun h19 => ?_)
        · refine wp_if_eq (tgt := 73) dX12_readHops_22 rfl (fun q => absurd q (by decide)) (fun _ => ?_)
          refine wp_aload_n dX12_readHops_25 rfl ?_
          refine wp_getI dX12_readHops_26 fX12_130 rfl ?_
          try simp only [ST0, ST5, ST6, ST7, ST8, ST10, ST11, ST12, ST13, ST1, ST2, ST3, ST4, RE1, RE2, RE3, RE4, RF2, RF3, RF4, RF8, RF9, RF13, RF14]
          refine wp_bipush dX12_readHops_29 ?_
          refine wp_icmp_ge (tgt := 73) dX12_readHops_31 rfl (fun h31 => ?_) (fun h31 => by exfalso; rcases c1 with z | z; exact z h19; omega)
          refine wp_aload_n dX12_readHops_73 rfl ?_
          refine wp_callV (as := []) (ls0 := [_]) (kc := 0) (ks := 0) (bc' := 0) (bs' := 0) dX12_readHops_74 vX12_89 rfl rfl rfl (Nat.le_of_ble_eq_true rfl) (Nat.le_of_ble_eq_true rfl) (by omega) (by omega) ?_
          refine s_ahead hn (by omega) ?_
          rw [ej]
          refine wp_iconst dX12_readHops_77 ?_
          refine wp_icmp_ne (tgt := 88) dX12_readHops_78 rfl (fun h78 => ?_) (fun h78 => ?_)
          · refine wp_aload_n dX12_readHops_88 rfl ?_
            refine wp_callV (as := []) (ls0 := [_]) (kc := 0) (ks := 0) (bc' := 0) (bs' := 0) dX12_readHops_89 vX12_96 rfl rfl rfl (Nat.le_of_ble_eq_true rfl) (Nat.le_of_ble_eq_true rfl) (by omega) (by omega) ?_
            refine s_badN rfl ?_
            refine wp_aload_n dX12_readHops_92 rfl ?_
            refine wp_getI dX12_readHops_93 fX12_86 rfl ?_
            try simp only [ST0, ST5, ST6, ST7, ST8, ST10, ST11, ST12, ST13, ST1, ST2, ST3, ST4, RE1, RE2, RE3, RE4, RF2, RF3, RF4, RF8, RF9, RF13, RF14]
            refine wp_ireturn dX12_readHops_96 rfl ?_
            exact hkk _ _ _
          · exact hnn h78
        · refine wp_if_eq (tgt := 73) dX12_readHops_22 rfl (fun _ => ?_) (fun q => absurd q (by decide))
          refine wp_aload_n dX12_readHops_73 rfl ?_
          refine wp_callV (as := []) (ls0 := [_]) (kc := 0) (ks := 0) (bc' := 0) (bs' := 0) dX12_readHops_74 vX12_89 rfl rfl rfl (Nat.le_of_ble_eq_true rfl) (Nat.le_of_ble_eq_true rfl) (by omega) (by omega) ?_
          refine s_ahead hn (by omega) ?_
          rw [ej]
          refine wp_iconst dX12_readHops_77 ?_
          refine wp_icmp_ne (tgt := 88) dX12_readHops_78 rfl (fun h78 => ?_) (fun h78 => ?_)
          · refine wp_aload_n dX12_readHops_88 rfl ?_
            refine wp_callV (as := []) (ls0 := [_]) (kc := 0) (ks := 0) (bc' := 0) (bs' := 0) dX12_readHops_89 vX12_96 rfl rfl rfl (Nat.le_of_ble_eq_true rfl) (Nat.le_of_ble_eq_true rfl) (by omega) (by omega) ?_
            refine s_badN rfl ?_
            refine wp_aload_n dX12_readHops_92 rfl ?_
            refine wp_getI dX12_readHops_93 fX12_86 rfl ?_
            try simp only [ST0, ST5, ST6, ST7, ST8, ST10, ST11, ST12, ST13, ST1, ST2, ST3, ST4, RE1, RE2, RE3, RE4, RF2, RF3, RF4, RF8, RF9, RF13, RF14]
            refine wp_ireturn dX12_readHops_96 rfl ?_
            exact hkk _ _ _
          · exact hnn h78
      · rw [if_neg c1] at kt kf
        have d1 : dg (sg (iv 1) (F 2) j) := Classical.byContradiction (fun z => c1 (Or.inl z))
        have d2 : h < 16 := Classical.byContradiction (fun z => c1 (Or.inr (by omega)))
        have d1' := d1
        unfold dg at d1'
        refine wp_aload_n dX12_readHops_15 rfl ?_
        refine wp_callV (as := []) (ls0 := [_]) (kc := 0) (ks := 0) (bc' := 0) (bs' := 0) dX12_readHops_16 vX12_89 rfl rfl rfl (Nat.le_of_ble_eq_true rfl) (Nat.le_of_ble_eq_true rfl) (by omega) (by omega) ?_
        refine s_ahead hn (by omega) ?_
        rw [hj]
        refine wp_callS (as := [_]) (ls0 := [_]) (kc := 0) (ks := 0) (bc' := 0) (bs' := 0) dX12_readHops_19 vX12_92 rfl rfl (Nat.le_of_ble_eq_true rfl) (Nat.le_of_ble_eq_true rfl) (by omega) (by omega) ?_
        refine s_isDigit (fun _ => ?_) (fun z => absurd d1 z)
        refine wp_if_eq (tgt := 73) dX12_readHops_22 rfl (fun q => absurd q (by decide)) (fun _ => ?_)
        refine wp_aload_n dX12_readHops_25 rfl ?_
        refine wp_getI dX12_readHops_26 fX12_130 rfl ?_
        try simp only [ST0, ST5, ST6, ST7, ST8, ST10, ST11, ST12, ST13, ST1, ST2, ST3, ST4, RE1, RE2, RE3, RE4, RF2, RF3, RF4, RF8, RF9, RF13, RF14]
        refine wp_bipush dX12_readHops_29 ?_
        refine wp_icmp_ge (tgt := 73) dX12_readHops_31 rfl (fun h31 => by exfalso; omega) (fun h31 => ?_)
        refine wp_aload_n dX12_readHops_34 rfl ?_
        refine wp_getR rfl dX12_readHops_35 fX12_19 rfl ?_
        refine wp_aload_n dX12_readHops_38 rfl ?_
        refine wp_getI dX12_readHops_39 fX12_130 rfl ?_
        try simp only [ST0, ST5, ST6, ST7, ST8, ST10, ST11, ST12, ST13, ST1, ST2, ST3, ST4, RE1, RE2, RE3, RE4, RF2, RF3, RF4, RF8, RF9, RF13, RF14]
        refine wp_aload_n dX12_readHops_42 rfl ?_
        refine wp_callV (as := []) (ls0 := [_]) (kc := 0) (ks := 0) (bc' := 0) (bs' := 0) dX12_readHops_43 vX12_82 rfl rfl rfl (Nat.le_of_ble_eq_true rfl) (Nat.le_of_ble_eq_true rfl) (by omega) (by omega) ?_
        refine s_here hn (by omega) ?_
        refine wp_bipush dX12_readHops_46 ?_
        refine wp_isub dX12_readHops_48 ⟨by omega, by omega⟩ ?_
        refine wp_iast dX12_readHops_49 rfl (by omega) (by omega) ?_
        try simp only [STu0, STu8, STu10, STu11, STu12, STu13, STu2, STu3, STu4, RE2, RE3, RE4, REu2, REu3, REu4, RFu3, RFu4, RFu8, RFu9]
        refine wp_aload_n dX12_readHops_50 rfl ?_
        refine wp_dup dX12_readHops_51 rfl ?_
        refine wp_getI dX12_readHops_52 fX12_130 rfl ?_
        try simp only [ST0, ST5, ST6, ST7, ST8, ST10, ST11, ST12, ST13, ST1, ST2, ST3, ST4, RE1, RE2, RE3, RE4, RF2, RF3, RF4, RF8, RF9, RF13, RF14]
        refine wp_iconst dX12_readHops_55 ?_
        refine wp_iadd dX12_readHops_56 ⟨by omega, by omega⟩ ?_
        refine wp_putI dX12_readHops_57 fX12_130 rfl ?_
        try simp only [STu0, STu8, STu10, STu11, STu12, STu13, STu2, STu3, STu4, RE2, RE3, RE4, REu2, REu3, REu4, RFu3, RFu4, RFu8, RFu9]
        refine wp_aload_n dX12_readHops_60 rfl ?_
        refine wp_dup dX12_readHops_61 rfl ?_
        refine wp_getI dX12_readHops_62 fX12_79 rfl ?_
        try simp only [ST0, ST5, ST6, ST7, ST8, ST10, ST11, ST12, ST13, ST1, ST2, ST3, ST4, RE1, RE2, RE3, RE4, RF2, RF3, RF4, RF8, RF9, RF13, RF14]
        refine wp_iconst dX12_readHops_65 ?_
        refine wp_iadd dX12_readHops_66 ⟨by omega, by omega⟩ ?_
        refine wp_putI dX12_readHops_67 fX12_79 rfl ?_
        try simp only [STu0, STu8, STu10, STu11, STu12, STu13, STu2, STu3, STu4, RE2, RE3, RE4, REu2, REu3, REu4, RFu3, RFu4, RFu8, RFu9]
        refine wp_goto (tgt := 15) dX12_readHops_70 rfl ?_
        exact ih q (by omega) _ _ _ (by omega) (by omega) (by omega) kt kf
theorem s_readHops (hn : 0 ≤ F 2 ∧ F 2 ≤ 240) (htp : ∀ i : Int, 0 ≤ i → i < F 2 → ¬ iv 1 i = -1) (kt : (hopV (iv 1) (F 2) Z).1 = -1 → ∀ a' : Int, R (some (aI (-1))) SHR (ST (RE iv X Y (hopV (iv 1) (F 2) Z).2.2) (RF F (a') (-1) (p) ((hopV (iv 1) (F 2) Z).2.1)) N G O T S) lw RVR) (kf : ¬ (hopV (iv 1) (F 2) Z).1 = -1 → ∀ (a' h' : Int) (Z' : Int → Int), R (some (aI (hopV (iv 1) (F 2) Z).1)) SHR (ST (RE iv X Y Z') (RF F (a') ((hopV (iv 1) (F 2) Z).1) (p) (h')) N G O T S) lw RVR) : wp (d + 2) mX12_readHops 0 [some (aR 0)] [] SHR (ST (RE iv X Y Z) (RF F (a) (w) (p) (h)) N G O T S) lw RVR 0 0 R := by
  refine wp_aload_n dX12_readHops_0 rfl ?_
  refine wp_iconst dX12_readHops_1 ?_
  refine wp_putI dX12_readHops_2 fX12_79 rfl ?_
  try simp only [STu0, STu8, STu10, STu11, STu12, STu13, STu2, STu3, STu4, RE2, RE3, RE4, REu2, REu3, REu4, RFu3, RFu4, RFu8, RFu9]
  refine wp_aload_n dX12_readHops_5 rfl ?_
  refine wp_iconst dX12_readHops_6 ?_
  refine wp_putI dX12_readHops_7 fX12_86 rfl ?_
  try simp only [STu0, STu8, STu10, STu11, STu12, STu13, STu2, STu3, STu4, RE2, RE3, RE4, REu2, REu3, REu4, RFu3, RFu4, RFu8, RFu9]
  refine wp_aload_n dX12_readHops_10 rfl ?_
  refine wp_iconst dX12_readHops_11 ?_
  refine wp_putI dX12_readHops_12 fX12_130 rfl ?_
  try simp only [STu0, STu8, STu10, STu11, STu12, STu13, STu2, STu3, STu4, RE2, RE3, RE4, REu2, REu3, REu4, RFu3, RFu4, RFu8, RFu9]
  exact l_hops hn htp (F 2).toNat 0 0 _ (by omega) (by omega) (by omega) kt kf
theorem M562 : (uA (uA iv 5 X) 6 Y) 2 = iv 2 := by rw [uA_n (by decide), uA_n (by decide)]
theorem M563 : (uA (uA iv 5 X) 6 Y) 3 = iv 3 := by rw [uA_n (by decide), uA_n (by decide)]
theorem M565 : (uA (uA iv 5 X) 6 Y) 5 = X := by rw [uA_n (by decide), uA_s]
theorem M566 : (uA (uA iv 5 X) 6 Y) 6 = Y := uA_s
theorem M56u5 {f : Int → Int} : uA (uA (uA iv 5 X) 6 Y) 5 f = uA (uA iv 5 f) 6 Y := by rw [uA_c (show (5 : Nat) ≠ 6 by decide), uA_uA]
theorem M56u6 {f : Int → Int} : uA (uA (uA iv 5 X) 6 Y) 6 f = uA (uA iv 5 X) 6 f := uA_uA
theorem l_tm1 (k : ∀ v1 : Option aV, wp (d) mX12_takeMesh 33 [some (aR 0), v1] [] SHR (ST (uA (uA iv 5 (cpR X (iv 2) 0 5)) 6 Y) F N G O T S) lw RVR 0 0 R) (m : Nat) : ∀ c : Int, 0 ≤ c → c + m = 5 → wp (d) mX12_takeMesh 10 [some (aR 0), some (aI c)] [] SHR (ST (uA (uA iv 5 (cpR X (iv 2) 0 c)) 6 Y) F N G O T S) lw RVR 0 0 R := by
  induction m with
  | zero =>
    intro c h0 hm
    refine wp_iload_n dX12_takeMesh_10 rfl ?_
    refine wp_iconst dX12_takeMesh_11 ?_
    refine wp_icmp_ge (tgt := 33) dX12_takeMesh_12 rfl (fun h12 => ?_) (fun h12 => by exfalso; omega)
    rw [show c = 5 by omega]; exact k _
  | succ m ih =>
    intro c h0 hm
    have cs := cpR_s (M := X) (K := iv 2) (off := 0) h0
    rw [Int.zero_add] at cs
    refine wp_iload_n dX12_takeMesh_10 rfl ?_
    refine wp_iconst dX12_takeMesh_11 ?_
    refine wp_icmp_ge (tgt := 33) dX12_takeMesh_12 rfl (fun h12 => by exfalso; omega) (fun h12 => ?_)
    refine wp_aload_n dX12_takeMesh_15 rfl ?_
    refine wp_getR rfl dX12_takeMesh_16 fX12_22 rfl ?_
    refine wp_iload_n dX12_takeMesh_19 rfl ?_
    refine wp_aload_n dX12_takeMesh_20 rfl ?_
    refine wp_getR rfl dX12_takeMesh_21 fX12_13 rfl ?_
    refine wp_iload_n dX12_takeMesh_24 rfl ?_
    refine wp_iald dX12_takeMesh_25 rfl (by omega) (by omega) ?_
    try simp only [ST0, ST5, ST6, ST7, ST8, ST10, ST11, ST12, ST13, ST1, ST2, ST3, ST4, M562, M563, M565, M566]
    refine wp_iast dX12_takeMesh_26 rfl (by omega) (by omega) ?_
    try simp only [STu0, STu8, STu10, STu11, STu12, STu13, STu5, STu6, STu7, M565, M566, M56u5, M56u6, uA_s, uA_uA]
    rw [cs]
    refine wp_iinc (ls' := [_, _]) dX12_takeMesh_27 (by decide) rfl rfl ⟨by omega, by omega⟩ rfl ?_
    refine wp_goto (tgt := 10) dX12_takeMesh_30 rfl ?_
    exact ih _ (by omega) (by omega)
theorem l_tm2 (k : ∀ v1 : Option aV, wp (d) mX12_takeMesh 59 [some (aR 0), v1] [] SHR (ST (uA (uA iv 5 X) 6 (cpR Y (iv 3) 0 24)) F N G O T S) lw RVR 0 0 R) (m : Nat) : ∀ c : Int, 0 ≤ c → c + m = 24 → wp (d) mX12_takeMesh 35 [some (aR 0), some (aI c)] [] SHR (ST (uA (uA iv 5 X) 6 (cpR Y (iv 3) 0 c)) F N G O T S) lw RVR 0 0 R := by
  induction m with
  | zero =>
    intro c h0 hm
    refine wp_iload_n dX12_takeMesh_35 rfl ?_
    refine wp_bipush dX12_takeMesh_36 ?_
    refine wp_icmp_ge (tgt := 59) dX12_takeMesh_38 rfl (fun h38 => ?_) (fun h38 => by exfalso; omega)
    rw [show c = 24 by omega]; exact k _
  | succ m ih =>
    intro c h0 hm
    have cs := cpR_s (M := Y) (K := iv 3) (off := 0) h0
    rw [Int.zero_add] at cs
    refine wp_iload_n dX12_takeMesh_35 rfl ?_
    refine wp_bipush dX12_takeMesh_36 ?_
    refine wp_icmp_ge (tgt := 59) dX12_takeMesh_38 rfl (fun h38 => by exfalso; omega) (fun h38 => ?_)
    refine wp_aload_n dX12_takeMesh_41 rfl ?_
    refine wp_getR rfl dX12_takeMesh_42 fX12_25 rfl ?_
    refine wp_iload_n dX12_takeMesh_45 rfl ?_
    refine wp_aload_n dX12_takeMesh_46 rfl ?_
    refine wp_getR rfl dX12_takeMesh_47 fX12_16 rfl ?_
    refine wp_iload_n dX12_takeMesh_50 rfl ?_
    refine wp_iald dX12_takeMesh_51 rfl (by omega) (by omega) ?_
    try simp only [ST0, ST5, ST6, ST7, ST8, ST10, ST11, ST12, ST13, ST1, ST2, ST3, ST4, M562, M563, M565, M566]
    refine wp_iast dX12_takeMesh_52 rfl (by omega) (by omega) ?_
    try simp only [STu0, STu8, STu10, STu11, STu12, STu13, STu5, STu6, STu7, M565, M566, M56u5, M56u6, uA_s, uA_uA]
    rw [cs]
    refine wp_iinc (ls' := [_, _]) dX12_takeMesh_53 (by decide) rfl rfl ⟨by omega, by omega⟩ rfl ?_
    refine wp_goto (tgt := 35) dX12_takeMesh_56 rfl ?_
    exact ih _ (by omega) (by omega)
theorem l_tm3 (k : ∀ v1 : Option aV, wp (d) mX12_takeMesh 81 [some (aR 0), v1] [] SHR (ST (uA (uA iv 5 X) 6 Y) F (cpR N (fun _ => 0) 0 550) G O T S) lw RVR 0 0 R) (m : Nat) : ∀ c : Int, 0 ≤ c → c + m = 550 → wp (d) mX12_takeMesh 61 [some (aR 0), some (aI c)] [] SHR (ST (uA (uA iv 5 X) 6 Y) F (cpR N (fun _ => 0) 0 c) G O T S) lw RVR 0 0 R := by
  induction m with
  | zero =>
    intro c h0 hm
    refine wp_iload_n dX12_takeMesh_61 rfl ?_
    refine wp_sipush dX12_takeMesh_62 ?_
    refine wp_icmp_ge (tgt := 81) dX12_takeMesh_65 rfl (fun h65 => ?_) (fun h65 => by exfalso; omega)
    rw [show c = 550 by omega]; exact k _
  | succ m ih =>
    intro c h0 hm
    have cs := cpR_s (M := N) (K := fun _ => 0) (off := 0) h0
    refine wp_iload_n dX12_takeMesh_61 rfl ?_
    refine wp_sipush dX12_takeMesh_62 ?_
    refine wp_icmp_ge (tgt := 81) dX12_takeMesh_65 rfl (fun h65 => by exfalso; omega) (fun h65 => ?_)
    refine wp_aload_n dX12_takeMesh_68 rfl ?_
    refine wp_getR rfl dX12_takeMesh_69 fX12_31 rfl ?_
    refine wp_iload_n dX12_takeMesh_72 rfl ?_
    refine wp_iconst dX12_takeMesh_73 ?_
    refine wp_iast dX12_takeMesh_74 rfl (by omega) (by omega) ?_
    try simp only [STu0, STu8, STu10, STu11, STu12, STu13, STu5, STu6, STu7, M565, M566, M56u5, M56u6, uA_s, uA_uA]
    rw [cs]
    refine wp_iinc (ls' := [_, _]) dX12_takeMesh_75 (by decide) rfl rfl ⟨by omega, by omega⟩ rfl ?_
    refine wp_goto (tgt := 61) dX12_takeMesh_78 rfl ?_
    exact ih _ (by omega) (by omega)
theorem l_tm4 (hF : F 13 ≤ 6) (m : Nat) : ∀ (p : Int) (N : Int → Int), 0 ≤ p → p + m = F 13 → (∀ v1 : Option aV, wp (d + 1) mX12_takeMesh 114 [some (aR 0), v1] [] SHR (ST (uA (uA iv 5 X) 6 Y) F (ldL Y m p N) G O T S) lw RVR 0 0 R) → wp (d + 1) mX12_takeMesh 83 [some (aR 0), some (aI p)] [] SHR (ST (uA (uA iv 5 X) 6 Y) F N G O T S) lw RVR 0 0 R := by
  induction m with
  | zero =>
    intro p N h0 hm k
    refine wp_iload_n dX12_takeMesh_83 rfl ?_
    refine wp_aload_n dX12_takeMesh_84 rfl ?_
    refine wp_getI dX12_takeMesh_85 fX12_138 rfl ?_
    try simp only [ST0, ST5, ST6, ST7, ST8, ST10, ST11, ST12, ST13, ST1, ST2, ST3, ST4, M562, M563, M565, M566]
    refine wp_icmp_ge (tgt := 114) dX12_takeMesh_88 rfl (fun h88 => ?_) (fun h88 => by exfalso; omega)
    exact k _
  | succ m ih =>
    intro p N h0 hm k
    refine wp_iload_n dX12_takeMesh_83 rfl ?_
    refine wp_aload_n dX12_takeMesh_84 rfl ?_
    refine wp_getI dX12_takeMesh_85 fX12_138 rfl ?_
    try simp only [ST0, ST5, ST6, ST7, ST8, ST10, ST11, ST12, ST13, ST1, ST2, ST3, ST4, M562, M563, M565, M566]
    refine wp_icmp_ge (tgt := 114) dX12_takeMesh_88 rfl (fun h88 => by exfalso; omega) (fun h88 => ?_)
    refine wp_aload_n dX12_takeMesh_91 rfl ?_
    refine wp_iload_n dX12_takeMesh_92 rfl ?_
    refine wp_bipush dX12_takeMesh_93 ?_
    refine wp_aload_n dX12_takeMesh_95 rfl ?_
    refine wp_getR rfl dX12_takeMesh_96 fX12_25 rfl ?_
    refine wp_iconst dX12_takeMesh_99 ?_
    refine wp_iload_n dX12_takeMesh_100 rfl ?_
    refine wp_imul dX12_takeMesh_101 ⟨by omega, by omega⟩ ?_
    refine wp_iconst dX12_takeMesh_102 ?_
    refine wp_iadd dX12_takeMesh_103 ⟨by omega, by omega⟩ ?_
    refine wp_iald dX12_takeMesh_104 rfl (by omega) (by omega) ?_
    try simp only [ST0, ST5, ST6, ST7, ST8, ST10, ST11, ST12, ST13, ST1, ST2, ST3, ST4, M562, M563, M565, M566]
    refine wp_callV (as := [_, _, _]) (ls0 := [_, _, _, _]) (kc := 0) (ks := 0) (bc' := 0) (bs' := 0) dX12_takeMesh_105 vX12_141 rfl rfl rfl (Nat.le_of_ble_eq_true rfl) (Nat.le_of_ble_eq_true rfl) (by omega) (by omega) ?_
    refine s_set (by omega) (by omega) ?_
    refine wp_iinc (ls' := [_, _]) dX12_takeMesh_108 (by decide) rfl rfl ⟨by omega, by omega⟩ rfl ?_
    refine wp_goto (tgt := 83) dX12_takeMesh_111 rfl ?_
    exact ih _ _ (by omega) (by omega) k
theorem s_takeMesh (h8 : 0 ≤ F 8 ∧ F 8 ≤ 6) (k : R (some (aI (F 8))) SHR (ST (uA (uA iv 5 (cpR (iv 5) (iv 2) 0 5)) 6 (cpR (iv 6) (iv 3) 0 24)) (up (up (up F 13 (F 8)) 25 0) 30 0) (tmN (cpR (iv 6) (iv 3) 0 24) (F 8) (cpR (iv 5) (iv 2) 0 5 4) N) G O T S) lw RVR) : wp (d + 1) mX12_takeMesh 0 [some (aR 0), none] [] SHR (ST iv F N G O T S) lw RVR 0 0 R := by
  have e0 : ST iv F N G O T S = (ST (uA (uA iv 5 (cpR (iv 5) (iv 2) 0 0)) 6 (iv 6)) F N G O T S) := by rw [cpR_0, uA_id, uA_id]
  rw [e0]
  refine wp_aload_n dX12_takeMesh_0 rfl ?_
  refine wp_aload_n dX12_takeMesh_1 rfl ?_
  refine wp_getI dX12_takeMesh_2 fX12_119 rfl ?_
  try simp only [ST0, ST5, ST6, ST7, ST8, ST10, ST11, ST12, ST13, ST1, ST2, ST3, ST4, M562, M563, M565, M566]
  refine wp_putI dX12_takeMesh_5 fX12_138 rfl ?_
  try simp only [STu0, STu8, STu10, STu11, STu12, STu13, STu5, STu6, STu7, M565, M566, M56u5, M56u6, uA_s, uA_uA]
  refine wp_iconst dX12_takeMesh_8 ?_
  refine wp_istore_n (ls' := [_, _]) dX12_takeMesh_9 (by decide) rfl rfl ?_
  refine l_tm1 (d := d + 1) (fun v1 => ?_) 5 0 (by omega) (by omega)
  rw [show uA (uA iv 5 (cpR (iv 5) (iv 2) 0 5)) 6 (iv 6) = uA (uA iv 5 (cpR (iv 5) (iv 2) 0 5)) 6 (cpR (iv 6) (iv 3) 0 0) by rw [cpR_0]]
  refine wp_iconst dX12_takeMesh_33 ?_
  refine wp_istore_n (ls' := [_, _]) dX12_takeMesh_34 (by decide) rfl rfl ?_
  refine l_tm2 (d := d + 1) (fun v1 => ?_) 24 0 (by omega) (by omega)
  refine wp_iconst dX12_takeMesh_59 ?_
  refine wp_istore_n (ls' := [_, _]) dX12_takeMesh_60 (by decide) rfl rfl ?_
  refine (show ∀ N', N' = N → wp (d + 1) mX12_takeMesh 61 [some (aR 0), some (aI 0)] [] SHR (ST (uA (uA iv 5 (cpR (iv 5) (iv 2) 0 5)) 6 (cpR (iv 6) (iv 3) 0 24)) (up F 13 (F 8)) N' G O T S) lw RVR 0 0 R from fun N' hN' => ?_) N rfl
  rw [hN', show N = cpR N (fun _ => 0) 0 0 by rw [cpR_0]]
  refine l_tm3 (d := d + 1) (fun v1 => ?_) 550 0 (by omega) (by omega)
  refine wp_iconst dX12_takeMesh_81 ?_
  refine wp_istore_n (ls' := [_, _]) dX12_takeMesh_82 (by decide) rfl rfl ?_
  refine l_tm4 (by rw [up_s]; omega) (F 8).toNat 0 _ (by omega) (by rw [up_s]; omega) (fun v1 => ?_)
  refine wp_aload_n dX12_takeMesh_114 rfl ?_
  refine wp_getR rfl dX12_takeMesh_115 fX12_31 rfl ?_
  refine wp_sipush dX12_takeMesh_118 ?_
  refine wp_aload_n dX12_takeMesh_121 rfl ?_
  refine wp_getR rfl dX12_takeMesh_122 fX12_22 rfl ?_
  refine wp_iconst dX12_takeMesh_125 ?_
  refine wp_iald dX12_takeMesh_126 rfl (by omega) (by omega) ?_
  try simp only [ST0, ST5, ST6, ST7, ST8, ST10, ST11, ST12, ST13, ST1, ST2, ST3, ST4, M562, M563, M565, M566]
  refine wp_iast dX12_takeMesh_127 rfl (by omega) (by omega) ?_
  try simp only [STu0, STu8, STu10, STu11, STu12, STu13, STu5, STu6, STu7, M565, M566, M56u5, M56u6, uA_s, uA_uA]
  refine wp_aload_n dX12_takeMesh_128 rfl ?_
  refine wp_iconst dX12_takeMesh_129 ?_
  refine wp_putI dX12_takeMesh_130 fX12_145 rfl ?_
  try simp only [STu0, STu8, STu10, STu11, STu12, STu13, STu5, STu6, STu7, M565, M566, M56u5, M56u6, uA_s, uA_uA]
  refine wp_aload_n dX12_takeMesh_133 rfl ?_
  refine wp_iconst dX12_takeMesh_134 ?_
  refine wp_putZ (Or.inl rfl) dX12_takeMesh_135 fX12_148 rfl ?_
  try simp only [STu0, STu8, STu10, STu11, STu12, STu13, STu5, STu6, STu7, M565, M566, M56u5, M56u6, uA_s, uA_uA]
  refine wp_aload_n dX12_takeMesh_138 rfl ?_
  refine wp_getI dX12_takeMesh_139 fX12_138 rfl ?_
  try simp only [ST0, ST5, ST6, ST7, ST8, ST10, ST11, ST12, ST13, ST1, ST2, ST3, ST4, M562, M563, M565, M566]
  try rw [up_n (by decide), up_n (by decide), up_s]
  refine wp_ireturn dX12_takeMesh_142 rfl ?_
  exact k
theorem M74 : (uA iv 7 Z) 4 = iv 4 := uA_n (by decide)
theorem l_th (hF : F 14 ≤ 16) (m : Nat) : ∀ c : Int, 0 ≤ c → c + m = F 14 → R (some (aI (F 14))) SHR (ST (uA iv 7 (cpR Z (iv 4) 0 (F 14))) F N G O T S) lw RVR → wp (d) mX12_takeHops 10 [some (aR 0), some (aI c)] [] SHR (ST (uA iv 7 (cpR Z (iv 4) 0 c)) F N G O T S) lw RVR 0 0 R := by
  induction m with
  | zero =>
    intro c h0 hm k
    refine wp_iload_n dX12_takeHops_10 rfl ?_
    refine wp_aload_n dX12_takeHops_11 rfl ?_
    refine wp_getI dX12_takeHops_12 fX12_152 rfl ?_
    try simp only [ST0, ST5, ST6, ST7, ST8, ST10, ST11, ST12, ST13, ST4, ST7, M74, uA_s]
    refine wp_icmp_ge (tgt := 36) dX12_takeHops_15 rfl (fun h15 => ?_) (fun h15 => by exfalso; omega)
    refine wp_aload_n dX12_takeHops_36 rfl ?_
    refine wp_getI dX12_takeHops_37 fX12_152 rfl ?_
    try simp only [ST0, ST5, ST6, ST7, ST8, ST10, ST11, ST12, ST13, ST4, ST7, M74, uA_s]
    refine wp_ireturn dX12_takeHops_40 rfl ?_
    rw [show c = F 14 by omega]; exact k
  | succ m ih =>
    intro c h0 hm k
    have cs := cpR_s (M := Z) (K := iv 4) (off := 0) h0
    rw [Int.zero_add] at cs
    refine wp_iload_n dX12_takeHops_10 rfl ?_
    refine wp_aload_n dX12_takeHops_11 rfl ?_
    refine wp_getI dX12_takeHops_12 fX12_152 rfl ?_
    try simp only [ST0, ST5, ST6, ST7, ST8, ST10, ST11, ST12, ST13, ST4, ST7, M74, uA_s]
    refine wp_icmp_ge (tgt := 36) dX12_takeHops_15 rfl (fun h15 => by exfalso; omega) (fun h15 => ?_)
    refine wp_aload_n dX12_takeHops_18 rfl ?_
    refine wp_getR rfl dX12_takeHops_19 fX12_28 rfl ?_
    refine wp_iload_n dX12_takeHops_22 rfl ?_
    refine wp_aload_n dX12_takeHops_23 rfl ?_
    refine wp_getR rfl dX12_takeHops_24 fX12_19 rfl ?_
    refine wp_iload_n dX12_takeHops_27 rfl ?_
    refine wp_iald dX12_takeHops_28 rfl (by omega) (by omega) ?_
    try simp only [ST0, ST5, ST6, ST7, ST8, ST10, ST11, ST12, ST13, ST4, ST7, M74, uA_s]
    refine wp_iast dX12_takeHops_29 rfl (by omega) (by omega) ?_
    try simp only [STu0, STu8, STu10, STu11, STu12, STu13, STu7, uA_s, uA_uA]
    rw [cs]
    refine wp_iinc (ls' := [_, _]) dX12_takeHops_30 (by decide) rfl rfl ⟨by omega, by omega⟩ rfl ?_
    refine wp_goto (tgt := 10) dX12_takeHops_33 rfl ?_
    exact ih _ (by omega) (by omega) k
theorem s_takeHops (h9 : 0 ≤ F 9 ∧ F 9 ≤ 16) (k : R (some (aI (F 9))) SHR (ST (uA iv 7 (cpR (iv 7) (iv 4) 0 (F 9))) (up F 14 (F 9)) N G O T S) lw RVR) : wp (d) mX12_takeHops 0 [some (aR 0), none] [] SHR (ST iv F N G O T S) lw RVR 0 0 R := by
  refine wp_aload_n dX12_takeHops_0 rfl ?_
  refine wp_aload_n dX12_takeHops_1 rfl ?_
  refine wp_getI dX12_takeHops_2 fX12_130 rfl ?_
  try simp only [ST0, ST5, ST6, ST7, ST8, ST10, ST11, ST12, ST13]
  refine wp_putI dX12_takeHops_5 fX12_152 rfl ?_
  try simp only [STu0, STu8, STu10, STu11, STu12, STu13]
  refine wp_iconst dX12_takeHops_8 ?_
  refine wp_istore_n (ls' := [_, _]) dX12_takeHops_9 (by decide) rfl rfl ?_
  rw [show ST iv (up F 14 (F 9)) N G O T S = ST (uA iv 7 (cpR (iv 7) (iv 4) 0 0)) (up F 14 (F 9)) N G O T S by rw [cpR_0, uA_id]]
  refine l_th (by rw [up_s]; omega) (F 9).toNat 0 (by omega) (by rw [up_s]; omega) ?_
  rw [up_s]; exact k
theorem s_end {n : Int} (kt : 0 ≤ n ∧ n ≤ F 2 → R (some (aI 1)) SHR (ST iv (up F 2 n) N G O T S) lw RVR) (kf : ¬ (0 ≤ n ∧ n ≤ F 2) → R (some (aI 0)) SHR (ST iv F N G O T S) lw RVR) : wp (d + 1) mX12_end 0 [some (aR 0), some (aI n)] [] SHR (ST iv F N G O T S) lw RVR 0 0 R := by
  refine wp_iload_n dX12_end_0 rfl ?_
  refine wp_iconst dX12_end_1 ?_
  refine wp_aload_n dX12_end_2 rfl ?_
  refine wp_getI dX12_end_3 fX12_72 rfl ?_
  try simp only [ST0, ST5, ST6, ST7, ST8, ST10, ST11, ST12, ST13]
  refine wp_callS (as := [_, _, _]) (ls0 := [_, _, _]) (kc := 0) (ks := 0) (bc' := 0) (bs' := 0) dX12_end_6 vX12_75 rfl rfl (Nat.le_of_ble_eq_true rfl) (Nat.le_of_ble_eq_true rfl) (by omega) (by omega) ?_
  refine s_in (fun h6 => ?_) (fun h6 => ?_)
  · refine wp_if_ne (tgt := 14) dX12_end_9 rfl (fun _ => ?_) (fun q => absurd q (by decide))
    refine wp_aload_n dX12_end_14 rfl ?_
    refine wp_iload_n dX12_end_15 rfl ?_
    refine wp_putI dX12_end_16 fX12_72 rfl ?_
    try simp only [STu0, STu8, STu10, STu11, STu12, STu13]
    refine wp_iconst dX12_end_19 ?_
    refine wp_zreturn dX12_end_20 rfl (Or.inr rfl) ?_
    exact kt h6
  · refine wp_if_ne (tgt := 14) dX12_end_9 rfl (fun q => absurd q (by decide)) (fun _ => ?_)
    refine wp_iconst dX12_end_12 ?_
    refine wp_zreturn dX12_end_13 rfl (Or.inl rfl) ?_
    exact kf h6
theorem s_byteOf {a b c e f q : Int} {sh : aSh} {rv : aP} (hq : 0 ≤ q ∧ q < 20) (k : R (some (aI (byF a b c e f q))) sh iv lw rv) : wp d mX12_byteOf 0 [some (aI a), some (aI b), some (aI c), some (aI e), some (aI f), some (aI q), none] [] sh iv lw rv 0 0 R := by
  unfold byF at k
  refine wp_iload dX12_byteOf_0 rfl ?_
  refine wp_iconst dX12_byteOf_2 ?_
  refine wp_icmp_ge (tgt := 10) dX12_byteOf_3 rfl (fun h3 => ?_) (fun h3 => ?_)
  · refine wp_iload dX12_byteOf_10 rfl ?_
    refine wp_bipush dX12_byteOf_12 ?_
    refine wp_icmp_ge (tgt := 21) dX12_byteOf_14 rfl (fun h14 => ?_) (fun h14 => ?_)
    · refine wp_iload dX12_byteOf_21 rfl ?_
      refine wp_bipush dX12_byteOf_23 ?_
      refine wp_icmp_ge (tgt := 32) dX12_byteOf_25 rfl (fun h25 => ?_) (fun h25 => ?_)
      · refine wp_iload dX12_byteOf_32 rfl ?_
        refine wp_bipush dX12_byteOf_34 ?_
        refine wp_icmp_ge (tgt := 43) dX12_byteOf_36 rfl (fun h36 => ?_) (fun h36 => ?_)
        · refine wp_iload dX12_byteOf_43 rfl ?_
          refine wp_istore (ls' := [_, _, _, _, _, _, _]) dX12_byteOf_45 (by decide) rfl rfl ?_
          refine wp_iload dX12_byteOf_47 rfl ?_
          refine wp_bipush dX12_byteOf_49 ?_
          refine wp_bipush dX12_byteOf_51 ?_
          refine wp_iload dX12_byteOf_53 rfl ?_
          refine wp_iconst dX12_byteOf_55 ?_
          refine wp_irem dX12_byteOf_56 (by omega) (by omega) ?_
          refine wp_imul dX12_byteOf_57 ⟨by omega, by omega⟩ ?_
          refine wp_isub dX12_byteOf_58 ⟨by omega, by omega⟩ ?_
          refine wp_ishr dX12_byteOf_59 (by omega) (by omega) ?_
          refine wp_sipush dX12_byteOf_60 ?_
          refine wp_iand_255 dX12_byteOf_63 rfl ?_
          refine wp_ireturn dX12_byteOf_64 rfl ?_
          (repeat' split at k) <;> first | exact k | (exfalso; omega)
        · refine wp_iload_n dX12_byteOf_39 rfl ?_
          refine wp_goto (tgt := 45) dX12_byteOf_40 rfl ?_
          refine wp_istore (ls' := [_, _, _, _, _, _, _]) dX12_byteOf_45 (by decide) rfl rfl ?_
          refine wp_iload dX12_byteOf_47 rfl ?_
          refine wp_bipush dX12_byteOf_49 ?_
          refine wp_bipush dX12_byteOf_51 ?_
          refine wp_iload dX12_byteOf_53 rfl ?_
          refine wp_iconst dX12_byteOf_55 ?_
          refine wp_irem dX12_byteOf_56 (by omega) (by omega) ?_
          refine wp_imul dX12_byteOf_57 ⟨by omega, by omega⟩ ?_
          refine wp_isub dX12_byteOf_58 ⟨by omega, by omega⟩ ?_
          refine wp_ishr dX12_byteOf_59 (by omega) (by omega) ?_
          refine wp_sipush dX12_byteOf_60 ?_
          refine wp_iand_255 dX12_byteOf_63 rfl ?_
          refine wp_ireturn dX12_byteOf_64 rfl ?_
          (repeat' split at k) <;> first | exact k | (exfalso; omega)
      · refine wp_iload_n dX12_byteOf_28 rfl ?_
        refine wp_goto (tgt := 45) dX12_byteOf_29 rfl ?_
        refine wp_istore (ls' := [_, _, _, _, _, _, _]) dX12_byteOf_45 (by decide) rfl rfl ?_
        refine wp_iload dX12_byteOf_47 rfl ?_
        refine wp_bipush dX12_byteOf_49 ?_
        refine wp_bipush dX12_byteOf_51 ?_
        refine wp_iload dX12_byteOf_53 rfl ?_
        refine wp_iconst dX12_byteOf_55 ?_
        refine wp_irem dX12_byteOf_56 (by omega) (by omega) ?_
        refine wp_imul dX12_byteOf_57 ⟨by omega, by omega⟩ ?_
        refine wp_isub dX12_byteOf_58 ⟨by omega, by omega⟩ ?_
        refine wp_ishr dX12_byteOf_59 (by omega) (by omega) ?_
        refine wp_sipush dX12_byteOf_60 ?_
        refine wp_iand_255 dX12_byteOf_63 rfl ?_
        refine wp_ireturn dX12_byteOf_64 rfl ?_
        (repeat' split at k) <;> first | exact k | (exfalso; omega)
    · refine wp_iload_n dX12_byteOf_17 rfl ?_
      refine wp_goto (tgt := 45) dX12_byteOf_18 rfl ?_
      refine wp_istore (ls' := [_, _, _, _, _, _, _]) dX12_byteOf_45 (by decide) rfl rfl ?_
      refine wp_iload dX12_byteOf_47 rfl ?_
      refine wp_bipush dX12_byteOf_49 ?_
      refine wp_bipush dX12_byteOf_51 ?_
      refine wp_iload dX12_byteOf_53 rfl ?_
      refine wp_iconst dX12_byteOf_55 ?_
      refine wp_irem dX12_byteOf_56 (by omega) (by omega) ?_
      refine wp_imul dX12_byteOf_57 ⟨by omega, by omega⟩ ?_
      refine wp_isub dX12_byteOf_58 ⟨by omega, by omega⟩ ?_
      refine wp_ishr dX12_byteOf_59 (by omega) (by omega) ?_
      refine wp_sipush dX12_byteOf_60 ?_
      refine wp_iand_255 dX12_byteOf_63 rfl ?_
      refine wp_ireturn dX12_byteOf_64 rfl ?_
      (repeat' split at k) <;> first | exact k | (exfalso; omega)
  · refine wp_iload_n dX12_byteOf_6 rfl ?_
    refine wp_goto (tgt := 45) dX12_byteOf_7 rfl ?_
    refine wp_istore (ls' := [_, _, _, _, _, _, _]) dX12_byteOf_45 (by decide) rfl rfl ?_
    refine wp_iload dX12_byteOf_47 rfl ?_
    refine wp_bipush dX12_byteOf_49 ?_
    refine wp_bipush dX12_byteOf_51 ?_
    refine wp_iload dX12_byteOf_53 rfl ?_
    refine wp_iconst dX12_byteOf_55 ?_
    refine wp_irem dX12_byteOf_56 (by omega) (by omega) ?_
    refine wp_imul dX12_byteOf_57 ⟨by omega, by omega⟩ ?_
    refine wp_isub dX12_byteOf_58 ⟨by omega, by omega⟩ ?_
    refine wp_ishr dX12_byteOf_59 (by omega) (by omega) ?_
    refine wp_sipush dX12_byteOf_60 ?_
    refine wp_iand_255 dX12_byteOf_63 rfl ?_
    refine wp_ireturn dX12_byteOf_64 rfl ?_
    (repeat' split at k) <;> first | exact k | (exfalso; omega)
theorem byF_r {a b c e f k : Int} : 0 ≤ byF a b c e f k ∧ byF a b c e f k < 256 := by unfold byF; exact ⟨Int.emod_nonneg _ (by decide), Int.emod_lt_of_pos _ (by decide)⟩
theorem apN_cnt {f : Int → Int} (m : Nat) : ∀ (k : Nat) (n : Int), apN f m k n = n + (cntP (fun j => ¬ f j = 0) (k + m) - cntP (fun j => ¬ f j = 0) k) := by
  induction m with
  | zero => intro k n; rw [apN, Nat.add_zero]; omega
  | succ m ih =>
    intro k n
    have := ih (k + 1) (if f k = 0 then n else n + 1)
    rw [apN, show ((k : Int) + 1) = ((k + 1 : Nat) : Int) by omega, this, show k + 1 + m = k + (m + 1) by omega, cntP]
    unfold cn1
    by_cases e : f (k : Int) = 0
    · rw [if_pos e, if_neg (fun z => z e)]; omega
    · rw [if_neg e, if_pos e]; omega
theorem l_feed1 {a b c e f : Int} (k : ∀ v7 : Option aV, wp (d + 1) mX12_feed 44 [some (aR 0), some (aI a), some (aI b), some (aI c), some (aI e), some (aI f), some (aI (cntP (fun j => ¬ byF a b c e f j = 0) 20)), v7, none] [] SHR (ST iv F N G O T S) lw RVR 0 0 R) (m : Nat) : ∀ i x : Int, 0 ≤ i → i + m = 20 → x = cntP (fun j => ¬ byF a b c e f j = 0) i.toNat → wp (d + 1) mX12_feed 6 [some (aR 0), some (aI a), some (aI b), some (aI c), some (aI e), some (aI f), some (aI x), some (aI i), none] [] SHR (ST iv F N G O T S) lw RVR 0 0 R := by
  induction m with
  | zero =>
    intro i x h0 hm hx
    refine wp_iload dX12_feed_6 rfl ?_
    refine wp_bipush dX12_feed_8 ?_
    refine wp_icmp_ge (tgt := 44) dX12_feed_10 rfl (fun h10 => ?_) (fun h10 => by exfalso; omega)
    rw [hx, show i = 20 by omega]; exact k _
  | succ m ih =>
    intro i x h0 hm hx
    have hr := cntP_r (Q := fun j => ¬ byF a b c e f j = 0) i.toNat
    refine wp_iload dX12_feed_6 rfl ?_
    refine wp_bipush dX12_feed_8 ?_
    refine wp_icmp_ge (tgt := 44) dX12_feed_10 rfl (fun h10 => by exfalso; omega) (fun h10 => ?_)
    refine wp_iload dX12_feed_13 rfl ?_
    refine wp_iload_n dX12_feed_15 rfl ?_
    refine wp_iload_n dX12_feed_16 rfl ?_
    refine wp_iload_n dX12_feed_17 rfl ?_
    refine wp_iload dX12_feed_18 rfl ?_
    refine wp_iload dX12_feed_20 rfl ?_
    refine wp_iload dX12_feed_22 rfl ?_
    refine wp_callS (as := [_, _, _, _, _, _]) (ls0 := [_, _, _, _, _, _, _]) (kc := 0) (ks := 0) (bc' := 0) (bs' := 0) dX12_feed_24 vX12_68 rfl rfl (Nat.le_of_ble_eq_true rfl) (Nat.le_of_ble_eq_true rfl) (by omega) (by omega) ?_
    refine s_byteOf (by omega) ?_
    refine wp_if_eq (tgt := 34) dX12_feed_27 rfl (fun h27 => ?_) (fun h27 => ?_)
    · have hc := cn1_f (P := ¬ byF a b c e f i = 0) (fun z => z h27)
      refine wp_iconst dX12_feed_34 ?_
      refine wp_iadd dX12_feed_35 ⟨by omega, by omega⟩ ?_
      refine wp_istore (ls' := [_, _, _, _, _, _, _, _, _]) dX12_feed_36 (by decide) rfl rfl ?_
      refine wp_iinc (ls' := [_, _, _, _, _, _, _, _, _]) dX12_feed_38 (by decide) rfl rfl ⟨by omega, by omega⟩ rfl ?_
      refine wp_goto (tgt := 6) dX12_feed_41 rfl ?_
      exact ih _ _ (by omega) (by omega) (by rw [toN1 h0, cntP, toNI h0]; show _ = _ + cn1 (¬ byF a b c e f i = 0); rw [hc]; omega)
    · have hc := cn1_t (P := ¬ byF a b c e f i = 0) h27
      refine wp_iconst dX12_feed_30 ?_
      refine wp_goto (tgt := 35) dX12_feed_31 rfl ?_
      refine wp_iadd dX12_feed_35 ⟨by omega, by omega⟩ ?_
      refine wp_istore (ls' := [_, _, _, _, _, _, _, _, _]) dX12_feed_36 (by decide) rfl rfl ?_
      refine wp_iinc (ls' := [_, _, _, _, _, _, _, _, _]) dX12_feed_38 (by decide) rfl rfl ⟨by omega, by omega⟩ rfl ?_
      refine wp_goto (tgt := 6) dX12_feed_41 rfl ?_
      exact ih _ _ (by omega) (by omega) (by rw [toN1 h0, cntP, toNI h0]; show _ = _ + cn1 (¬ byF a b c e f i = 0); rw [hc]; omega)
theorem l_feed2 {a b c e f : Int} (m : Nat) : ∀ (i n x : Int) (X : Int → Int) (v8 : Option aV), 0 ≤ i → i + m = 20 → 0 ≤ n → n + (cntP (fun j => ¬ byF a b c e f j = 0) 20 - cntP (fun j => ¬ byF a b c e f j = 0) i.toNat) ≤ 240 → R (some (aI (apN (byF a b c e f) m i n))) SHR (ST (uA iv 1 (apT (byF a b c e f) m i n X)) (up F 2 (apN (byF a b c e f) m i n)) N G O T S) lw RVR → wp (d + 1) mX12_feed 62 [some (aR 0), some (aI a), some (aI b), some (aI c), some (aI e), some (aI f), some (aI x), some (aI i), v8] [] SHR (ST (uA iv 1 X) (up F 2 n) N G O T S) lw RVR 0 0 R := by
  induction m with
  | zero =>
    intro i n x X v8 h0 hm hn hle k
    refine wp_iload dX12_feed_62 rfl ?_
    refine wp_bipush dX12_feed_64 ?_
    refine wp_icmp_ge (tgt := 115) dX12_feed_66 rfl (fun h66 => ?_) (fun h66 => by exfalso; omega)
    refine wp_aload_n dX12_feed_115 rfl ?_
    refine wp_getI dX12_feed_116 fX12_72 rfl ?_
    try simp only [ST0, ST5, ST6, ST7, ST8, ST10, ST11, ST12, ST13, ST1, uA_s]
    rw [up_s]
    refine wp_ireturn dX12_feed_119 rfl ?_
    exact k
  | succ m ih =>
    intro i n x X v8 h0 hm hn hle k
    have hb := byF_r (a := a) (b := b) (c := c) (e := e) (f := f) (k := i)
    have hmono : cntP (fun j => ¬ byF a b c e f j = 0) (i.toNat + 1) ≤ cntP (fun j => ¬ byF a b c e f j = 0) 20 := by
      have := apN_cnt (f := byF a b c e f) m (i.toNat + 1) 0
      have h2 : ∀ (q : Nat) (z y : Int), y ≤ apN (byF a b c e f) q z y := by
        intro q
        induction q with
        | zero => intro z y; exact Int.le_refl _
        | succ q ihq => intro z y; rw [apN]; by_cases e : byF a b c e f z = 0; (rw [if_pos e]; exact ihq _ _); (rw [if_neg e]; have := ihq (z + 1) (y + 1); omega)
      have h3 := h2 m ((i.toNat + 1 : Nat) : Int) 0
      rw [this, show i.toNat + 1 + m = 20 by omega] at h3
      omega
    have ec : cntP (fun j => ¬ byF a b c e f j = 0) (i + 1).toNat = cntP (fun j => ¬ byF a b c e f j = 0) i.toNat + cn1 (¬ byF a b c e f i = 0) := by rw [toN1 h0, cntP, toNI h0]
    rw [toN1 h0] at ec
    rw [apN, apT] at k
    refine wp_iload dX12_feed_62 rfl ?_
    refine wp_bipush dX12_feed_64 ?_
    refine wp_icmp_ge (tgt := 115) dX12_feed_66 rfl (fun h66 => by exfalso; omega) (fun h66 => ?_)
    refine wp_iload_n dX12_feed_69 rfl ?_
    refine wp_iload_n dX12_feed_70 rfl ?_
    refine wp_iload_n dX12_feed_71 rfl ?_
    refine wp_iload dX12_feed_72 rfl ?_
    refine wp_iload dX12_feed_74 rfl ?_
    refine wp_iload dX12_feed_76 rfl ?_
    refine wp_callS (as := [_, _, _, _, _, _]) (ls0 := [_, _, _, _, _, _, _]) (kc := 0) (ks := 0) (bc' := 0) (bs' := 0) dX12_feed_78 vX12_68 rfl rfl (Nat.le_of_ble_eq_true rfl) (Nat.le_of_ble_eq_true rfl) (by omega) (by omega) ?_
    refine s_byteOf (by omega) ?_
    refine wp_istore (ls' := [_, _, _, _, _, _, _, _, _]) dX12_feed_81 (by decide) rfl rfl ?_
    refine wp_iload dX12_feed_83 rfl ?_
    refine wp_if_eq (tgt := 109) dX12_feed_85 rfl (fun h85 => ?_) (fun h85 => ?_)
    · rw [if_pos h85, if_pos h85] at k
      rw [cn1_f (fun z => z h85)] at ec
      refine wp_iinc (ls' := [_, _, _, _, _, _, _, _, _]) dX12_feed_109 (by decide) rfl rfl ⟨by omega, by omega⟩ rfl ?_
      refine wp_goto (tgt := 62) dX12_feed_112 rfl ?_
      exact ih _ _ _ _ _ (by omega) (by omega) (by omega) (by rw [toN1 h0]; omega) k
    · rw [if_neg h85, if_neg h85] at k
      rw [cn1_t h85] at ec
      refine wp_aload_n dX12_feed_88 rfl ?_
      refine wp_getR rfl dX12_feed_89 fX12_9 rfl ?_
      refine wp_aload_n dX12_feed_92 rfl ?_
      refine wp_getI dX12_feed_93 fX12_72 rfl ?_
      try simp only [ST0, ST5, ST6, ST7, ST8, ST10, ST11, ST12, ST13, ST1, uA_s, up_s]
      refine wp_iload dX12_feed_96 rfl ?_
      refine wp_iast dX12_feed_98 rfl (by omega) (by omega) ?_
      try simp only [STu0, STu8, STu10, STu11, STu12, STu13, STu1, uA_s, uA_uA, up_uu]
      refine wp_aload_n dX12_feed_99 rfl ?_
      refine wp_dup dX12_feed_100 rfl ?_
      refine wp_getI dX12_feed_101 fX12_72 rfl ?_
      try simp only [ST0, ST5, ST6, ST7, ST8, ST10, ST11, ST12, ST13, ST1, uA_s, up_s]
      refine wp_iconst dX12_feed_104 ?_
      refine wp_iadd dX12_feed_105 ⟨by omega, by omega⟩ ?_
      refine wp_putI dX12_feed_106 fX12_72 rfl ?_
      try simp only [STu0, STu8, STu10, STu11, STu12, STu13, STu1, uA_s, uA_uA, up_uu]
      refine wp_iinc (ls' := [_, _, _, _, _, _, _, _, _]) dX12_feed_109 (by decide) rfl rfl ⟨by omega, by omega⟩ rfl ?_
      refine wp_goto (tgt := 62) dX12_feed_112 rfl ?_
      exact ih _ _ _ _ _ (by omega) (by omega) (by omega) (by rw [toN1 h0]; omega) k
theorem s_feed {a b c e f : Int} (hn : 0 ≤ F 2 ∧ F 2 ≤ 240) (k0 : 240 < F 2 + cntP (fun j => ¬ byF a b c e f j = 0) 20 → R (some (aI (-1))) SHR (ST iv F N G O T S) lw RVR) (k1 : ¬ 240 < F 2 + cntP (fun j => ¬ byF a b c e f j = 0) 20 → R (some (aI (apN (byF a b c e f) 20 0 (F 2)))) SHR (ST (uA iv 1 (apT (byF a b c e f) 20 0 (F 2) (iv 1))) (up F 2 (apN (byF a b c e f) 20 0 (F 2))) N G O T S) lw RVR) : wp (d + 1) mX12_feed 0 [some (aR 0), some (aI a), some (aI b), some (aI c), some (aI e), some (aI f), none, none, none] [] SHR (ST iv F N G O T S) lw RVR 0 0 R := by
  have hr := cntP_r (Q := fun j => ¬ byF a b c e f j = 0) 20
  refine wp_iconst dX12_feed_0 ?_
  refine wp_istore (ls' := [_, _, _, _, _, _, _, _, _]) dX12_feed_1 (by decide) rfl rfl ?_
  refine wp_iconst dX12_feed_3 ?_
  refine wp_istore (ls' := [_, _, _, _, _, _, _, _, _]) dX12_feed_4 (by decide) rfl rfl ?_
  refine l_feed1 (fun v7 => ?_) 20 0 0 (by omega) (by omega) rfl
  refine wp_aload_n dX12_feed_44 rfl ?_
  refine wp_getI dX12_feed_45 fX12_72 rfl ?_
  try simp only [ST0, ST5, ST6, ST7, ST8, ST10, ST11, ST12, ST13]
  refine wp_iload dX12_feed_48 rfl ?_
  refine wp_iadd dX12_feed_50 ⟨by omega, by omega⟩ ?_
  refine wp_sipush dX12_feed_51 ?_
  refine wp_icmp_le (tgt := 59) dX12_feed_54 rfl (fun h54 => ?_) (fun h54 => ?_)
  · refine wp_iconst dX12_feed_59 ?_
    refine wp_istore (ls' := [_, _, _, _, _, _, _, _, _]) dX12_feed_60 (by decide) rfl rfl ?_
    rw [show ST iv F N G O T S = ST (uA iv 1 (iv 1)) (up F 2 (F 2)) N G O T S by rw [uA_id, show up F 2 (F 2) = F by funext j; unfold up; split; (rename_i h; rw [h]); rfl]]
    exact l_feed2 20 0 (F 2) _ _ _ (by omega) (by omega) hn.1 (by rw [show (0 : Int).toNat = 0 from rfl, cntP]; omega) (k1 (by omega))
  · refine wp_iconst dX12_feed_57 ?_
    refine wp_ireturn dX12_feed_58 rfl ?_
    exact k0 (by omega)
end R29
