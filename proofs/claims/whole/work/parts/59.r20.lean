/-! ===== what is answered ===== -/
def aRule (iv : aF) (F N : Int → Int) (w : Int) : Int := if F 13 = 0 then -1 else if ¬ (0 ≤ w ∧ w ≤ 4) then -1 else if w = 4 then N 367 else iv 5 w
def aPair (iv : aF) (N : Int → Int) (p w : Int) : Int := if w = 3 then N (61 * p + 58) else if w = 4 then N (61 * p + 57) else if w = 5 then N (61 * p + 59) else if w = 6 then N (61 * p + 60) else if w = 7 then N (61 * p + 26) else if w = 8 then N (61 * p + 27) else if w = 9 then N (61 * p + 18) else if w = 10 then N (61 * p + 25) else iv 6 (4 * p + w)
def aCell (F N : Int → Int) (p s i w : Int) : Int := if ¬ (0 ≤ p ∧ p < F 13) then -1 else if s = 0 then (if 0 ≤ i ∧ i < N (61 * p + 18) ∧ 0 ≤ w ∧ w ≤ 2 then (if w = 0 then N (61 * p + (0 + i)) else if w = 1 then N (61 * p + (6 + i)) else N (61 * p + (12 + i))) else -1) else if s = 1 then (if 0 ≤ i ∧ i < N (61 * p + 25) ∧ w = 0 then N (61 * p + (19 + i)) else -1) else -1
def aWaits (F N : Int → Int) (p s w : Int) : Int := if ¬ (0 ≤ p ∧ p < F 13) then -1 else if ¬ (0 ≤ s ∧ s ≤ 1) then -1 else if w = 0 then N (61 * p + (28 + s)) else if w = 1 then (if N (61 * p + (28 + s)) = 1 then N (61 * p + (30 + s)) else -1) else if w = 2 then N (61 * p + (33 + s)) else -1
def aLetter (F N : Int → Int) (p w : Int) : Int := if ¬ (0 ≤ p ∧ p < F 13) then -1 else if N (61 * p + 43) = 0 then -1 else if ¬ (0 ≤ w ∧ w ≤ 12) then -1 else if w = 0 then N (61 * p + 44) else if w = 1 then N (61 * p + 45) else if w = 2 then N (61 * p + 46) else if w = 3 then N (61 * p + 47) else if w = 4 then N (61 * p + 49) else if w = 5 then N (61 * p + 48) else if w - 6 < N (61 * p + 48) then N (61 * p + (50 + (w - 6))) else -1
def okC (iv : aF) (F : Int → Int) (c : Int) : Prop := 0 < F 13 ∧ 0 ≤ c ∧ c / 10 < iv 5 0 ∧ c % 10 < iv 5 1
noncomputable def aChan (iv : aF) (F : Int → Int) (fr c : Int) : Int := @ite _ (okC iv F c ∧ 0 ≤ fr ∧ fr ≤ 9999) (Classical.propDecidable _) (chn iv F fr c) (-1)
def aStat (iv : aF) (w : Int) : Int := if 0 ≤ w ∧ w ≤ 4 then iv 9 w else -1
def aLog (N : Int → Int) (i w : Int) : Int := if 0 ≤ i ∧ i < N 369 ∧ 0 ≤ w ∧ w ≤ 2 then N (370 + 3 * (N 369 - 1 - i) + w) else -1
noncomputable def aOffer (iv : aF) (F N : Int → Int) (p nd sl i : Int) : Int := if ¬ (0 ≤ p ∧ p < F 13) then -1 else if ¬ nd = iv 6 (4 * p + 0) ∧ ¬ nd = iv 6 (4 * p + 1) then -1 else if ¬ (0 ≤ sl ∧ sl < iv 5 0) then -1 else if i < -1 then -1 else if i = -1 then ((ofr iv F N p nd sl).length : Int) else if i < ((ofr iv F N p nd sl).length : Int) then Lf (ofr iv F N p nd sl) i else -1
def aCount (F N : Int → Int) (w : Int) : Int := if w = 0 then F 13 else if w = 1 then F 14 else if w = 2 then F 2 else if w = 3 then N 368 else if w = 4 then F 17 else if w = 5 then N 369 else if w = 6 then F 25 else -1000000
/-! ===== why an act is refused ===== -/
def asd (kd n : Int) : Prop := (kd = 3 ∧ n = 0) ∨ (kd = 2 ∧ 0 ≤ n ∧ n ≤ 5) ∨ ((kd = 0 ∨ kd = 1) ∧ 1 ≤ n ∧ n ≤ 3)
noncomputable def dlR (iv : aF) (F N : Int → Int) (p kd n : Int) : Int := if ¬ (0 ≤ p ∧ p < F 13) then 0 else @ite _ (¬ asd kd n) (Classical.propDecidable _) 1 (if kd = 2 ∧ N (61 * p + 18) ≤ n then 2 else if mny iv F N p kd n = -1 then 3 else -1)
def lsR (F N : Int → Int) (p : Int) : Int := if ¬ (0 ≤ p ∧ p < F 13) then 0 else if N (61 * p + 43) = 0 then 2 else -1
def jmR (F : Int → Int) (c : Int) : Int := if F 13 = 0 then 0 else if ¬ (0 ≤ c ∧ c ≤ 15) then 1 else -1
def ldR (F N : Int → Int) (p v : Int) : Int := if ¬ (0 ≤ p ∧ p < F 13) then 0 else if ¬ (0 ≤ v ∧ v ≤ 9) then 1 else if v = N (61 * p + 58) then 2 else -1
def auR (F : Int → Int) : Int := if F 13 = 0 then 0 else -1
def jmN (N : Int → Int) (c : Int) : Int → Int := up N 366 ((((N 366).toNat ^^^ ((1 * 2 ^ c.toNat : Int)).toNat : Nat) : Int))
/-- draws -/
def drw (x : Int) : Int := wL (wL (x * 6364136223846793005) + 1442695040888963407)
def drv (x m : Int) : Int := drw x % 18446744073709551616 / 8589934592 % m
def df1 (F : Int → Int) (x : Int) : Int := if drv x 10 < F 17 then drw (drw x) else drw x
def df2 (F N : Int → Int) (x : Int) : Int → Int := if drv x 10 < F 17 then up N (61 * drv (drw x) (F 13) + 43) 0 else N
def dfx (F : Int → Int) (x : Int) : Int := if drv (df1 F x) 20 < 1 then drw (drw (df1 F x)) else drw (df1 F x)
def dfN (F N : Int → Int) (x : Int) : Int → Int := if drv (df1 F x) 20 < 1 then jmN (df2 F N x) (drv (drw (df1 F x)) 16) else df2 F N x
section R20
variable {d : Nat} {iv lw : aF} {F N G O T S K : Int → Int} {R : aPost}
theorem s_rule {w : Int} (hT : Tld iv F N) (k : R (some (aI (aRule iv F N w))) SHR (ST iv F N G O T S) lw RVR) : wp (d + 1) mX12_rule 0 [some (aR 0), some (aI w)] [] SHR (ST iv F N G O T S) lw RVR 0 0 R := by
  obtain ⟨hr, hP2, h9, h8, hc, h25, hT2⟩ := id hT
  refine wp_aload_n dX12_rule_0 rfl ?_
  refine wp_getI dX12_rule_1 fX12_138 rfl ?_
  try simp only [ST0, ST5, ST6, ST7, ST8, ST10, ST11, ST12, ST13]
  refine wp_if_eq (tgt := 16) dX12_rule_4 rfl (fun h4 => ?_) (fun h4 => ?_)
  · refine wp_iconst dX12_rule_16 ?_
    refine wp_goto (tgt := 42) dX12_rule_17 rfl ?_
    refine wp_ireturn dX12_rule_42 rfl ?_
    unfold aRule at k; (repeat' split at k) <;> first | exact k | (exfalso; omega)
  · refine wp_iload_n dX12_rule_7 rfl ?_
    refine wp_iconst dX12_rule_8 ?_
    refine wp_iconst dX12_rule_9 ?_
    refine wp_callS (as := [_, _, _]) (ls0 := [_, _, _]) (kc := 0) (ks := 0) (bc' := 0) (bs' := 0) dX12_rule_10 vX12_75 rfl rfl (Nat.le_of_ble_eq_true rfl) (Nat.le_of_ble_eq_true rfl) (by omega) (by omega) ?_
    refine s_in (fun h10 => ?_) (fun h10 => ?_)
    · refine wp_if_ne (tgt := 20) dX12_rule_13 rfl (fun _ => ?_) (fun q => absurd q (by decide))
      refine wp_iload_n dX12_rule_20 rfl ?_
      refine wp_iconst dX12_rule_21 ?_
      refine wp_icmp_ne (tgt := 36) dX12_rule_22 rfl (fun h22 => ?_) (fun h22 => ?_)
      · refine wp_aload_n dX12_rule_36 rfl ?_
        refine wp_getR rfl dX12_rule_37 fX12_22 rfl ?_
        refine wp_iload_n dX12_rule_40 rfl ?_
        refine wp_iald dX12_rule_41 rfl (by omega) (by omega) ?_
        try simp only [ST0, ST5, ST6, ST7, ST8, ST10, ST11, ST12, ST13]
        refine wp_ireturn dX12_rule_42 rfl ?_
        unfold aRule at k; (repeat' split at k) <;> first | exact k | (exfalso; omega)
      · refine wp_aload_n dX12_rule_25 rfl ?_
        refine wp_getR rfl dX12_rule_26 fX12_31 rfl ?_
        refine wp_sipush dX12_rule_29 ?_
        refine wp_iald dX12_rule_32 rfl (by omega) (by omega) ?_
        try simp only [ST0, ST5, ST6, ST7, ST8, ST10, ST11, ST12, ST13]
        refine wp_goto (tgt := 42) dX12_rule_33 rfl ?_
        refine wp_ireturn dX12_rule_42 rfl ?_
        unfold aRule at k; (repeat' split at k) <;> first | exact k | (exfalso; omega)
    · refine wp_if_ne (tgt := 20) dX12_rule_13 rfl (fun q => absurd q (by decide)) (fun _ => ?_)
      refine wp_iconst dX12_rule_16 ?_
      refine wp_goto (tgt := 42) dX12_rule_17 rfl ?_
      refine wp_ireturn dX12_rule_42 rfl ?_
      unfold aRule at k; (repeat' split at k) <;> first | exact k | (exfalso; omega)
theorem s_thrown (k : R (some (aI (F 0))) SHR (ST iv F N G O T S) lw RVR) : wp (d) mX12_thrown 0 [some (aR 0)] [] SHR (ST iv F N G O T S) lw RVR 0 0 R := by
  refine wp_aload_n dX12_thrown_0 rfl ?_
  refine wp_getI dX12_thrown_1 fX12_65 rfl ?_
  try simp only [ST0, ST5, ST6, ST7, ST8, ST10, ST11, ST12, ST13]
  refine wp_ireturn dX12_thrown_4 rfl ?_
  exact k
theorem s_pair {p w : Int} (hT : Tld iv F N) (kt : ¬ ((0 ≤ p ∧ p < F 13) ∧ 0 ≤ w ∧ w ≤ 10) → R (some (aI 0)) SHR (ST iv (up F 0 1) N G O T S) lw RVR) (kf : ((0 ≤ p ∧ p < F 13) ∧ 0 ≤ w ∧ w ≤ 10) → R (some (aI (aPair iv N p w))) SHR (ST iv (up F 0 0) N G O T S) lw RVR) : wp (d + 2) mX12_pair 0 [some (aR 0), some (aI p), some (aI w)] [] SHR (ST iv F N G O T S) lw RVR 0 0 R := by
  obtain ⟨hr, hP2, h9, h8, hc, h25, hT2⟩ := id hT
  refine wp_aload_n dX12_pair_0 rfl ?_
  refine wp_aload_n dX12_pair_1 rfl ?_
  refine wp_iload_n dX12_pair_2 rfl ?_
  refine wp_callV (as := [_]) (ls0 := [_, _]) (kc := 0) (ks := 0) (bc' := 0) (bs' := 0) dX12_pair_3 vX12_313 rfl rfl rfl (Nat.le_of_ble_eq_true rfl) (Nat.le_of_ble_eq_true rfl) (by omega) (by omega) ?_
  refine s_isPair (by omega) (fun h3 => ?_) (fun h3 => ?_)
  · refine wp_if_eq (tgt := 23) dX12_pair_6 rfl (fun q => absurd q (by decide)) (fun _ => ?_)
    refine wp_iload_n dX12_pair_9 rfl ?_
    refine wp_iconst dX12_pair_10 ?_
    refine wp_bipush dX12_pair_11 ?_
    refine wp_callS (as := [_, _, _]) (ls0 := [_, _, _]) (kc := 0) (ks := 0) (bc' := 0) (bs' := 0) dX12_pair_13 vX12_75 rfl rfl (Nat.le_of_ble_eq_true rfl) (Nat.le_of_ble_eq_true rfl) (by omega) (by omega) ?_
    refine s_in (fun h13 => ?_) (fun h13 => ?_)
    · refine wp_if_eq (tgt := 23) dX12_pair_16 rfl (fun q => absurd q (by decide)) (fun _ => ?_)
      refine wp_iconst dX12_pair_19 ?_
      refine wp_goto (tgt := 24) dX12_pair_20 rfl ?_
      refine wp_putI dX12_pair_24 fX12_65 rfl ?_
      try simp only [STu0, STu8, STu10, STu11, STu12, STu13]
      refine wp_aload_n dX12_pair_27 rfl ?_
      refine wp_getI dX12_pair_28 fX12_65 rfl ?_
      try simp only [ST0, ST5, ST6, ST7, ST8, ST10, ST11, ST12, ST13]
      rw [up_s]
      refine wp_iconst dX12_pair_31 ?_
      refine wp_icmp_ne (tgt := 37) dX12_pair_32 rfl (fun h32 => ?_) (fun h32 => ?_)
      · refine wp_iload_n dX12_pair_37 rfl ?_
        rcases (by omega : w = 3 ∨ w = 4 ∨ w = 5 ∨ w = 6 ∨ w = 7 ∨ w = 8 ∨ w = 9 ∨ w = 10 ∨ (w < 3 ∨ 10 < w)) with h38 | h38 | h38 | h38 | h38 | h38 | h38 | h38 | h38
        · refine wp_tswIn (tgt := 84) dX12_pair_38 (by omega) (by omega) (by rw [h38]; rfl) rfl ?_
          refine wp_aload_n dX12_pair_84 rfl ?_
          refine wp_iload_n dX12_pair_85 rfl ?_
          refine wp_bipush dX12_pair_86 ?_
          refine wp_callV (as := [_, _]) (ls0 := [_, _, _]) (kc := 0) (ks := 0) (bc' := 0) (bs' := 0) dX12_pair_88 vX12_161 rfl rfl rfl (Nat.le_of_ble_eq_true rfl) (Nat.le_of_ble_eq_true rfl) (by omega) (by omega) ?_
          refine s_of (by omega) (by omega) ?_
          refine wp_ireturn dX12_pair_91 rfl ?_
          have k := kf (by omega)
          unfold aPair at k; (repeat' split at k) <;> first | exact k | (exfalso; omega) | (rw [show (26 : Int) + w - 7 = 26 by omega]; exact k) | (rw [show (26 : Int) + w - 7 = 27 by omega]; exact k) | (rw [show w - 9 = 0 by omega]; exact k) | (rw [show w - 9 = 1 by omega]; exact k)
        · refine wp_tswIn (tgt := 92) dX12_pair_38 (by omega) (by omega) (by rw [h38]; rfl) rfl ?_
          refine wp_aload_n dX12_pair_92 rfl ?_
          refine wp_iload_n dX12_pair_93 rfl ?_
          refine wp_bipush dX12_pair_94 ?_
          refine wp_callV (as := [_, _]) (ls0 := [_, _, _]) (kc := 0) (ks := 0) (bc' := 0) (bs' := 0) dX12_pair_96 vX12_161 rfl rfl rfl (Nat.le_of_ble_eq_true rfl) (Nat.le_of_ble_eq_true rfl) (by omega) (by omega) ?_
          refine s_of (by omega) (by omega) ?_
          refine wp_ireturn dX12_pair_99 rfl ?_
          have k := kf (by omega)
          unfold aPair at k; (repeat' split at k) <;> first | exact k | (exfalso; omega) | (rw [show (26 : Int) + w - 7 = 26 by omega]; exact k) | (rw [show (26 : Int) + w - 7 = 27 by omega]; exact k) | (rw [show w - 9 = 0 by omega]; exact k) | (rw [show w - 9 = 1 by omega]; exact k)
        · refine wp_tswIn (tgt := 100) dX12_pair_38 (by omega) (by omega) (by rw [h38]; rfl) rfl ?_
          refine wp_aload_n dX12_pair_100 rfl ?_
          refine wp_iload_n dX12_pair_101 rfl ?_
          refine wp_bipush dX12_pair_102 ?_
          refine wp_callV (as := [_, _]) (ls0 := [_, _, _]) (kc := 0) (ks := 0) (bc' := 0) (bs' := 0) dX12_pair_104 vX12_161 rfl rfl rfl (Nat.le_of_ble_eq_true rfl) (Nat.le_of_ble_eq_true rfl) (by omega) (by omega) ?_
          refine s_of (by omega) (by omega) ?_
          refine wp_ireturn dX12_pair_107 rfl ?_
          have k := kf (by omega)
          unfold aPair at k; (repeat' split at k) <;> first | exact k | (exfalso; omega) | (rw [show (26 : Int) + w - 7 = 26 by omega]; exact k) | (rw [show (26 : Int) + w - 7 = 27 by omega]; exact k) | (rw [show w - 9 = 0 by omega]; exact k) | (rw [show w - 9 = 1 by omega]; exact k)
        · refine wp_tswIn (tgt := 108) dX12_pair_38 (by omega) (by omega) (by rw [h38]; rfl) rfl ?_
          refine wp_aload_n dX12_pair_108 rfl ?_
          refine wp_iload_n dX12_pair_109 rfl ?_
          refine wp_bipush dX12_pair_110 ?_
          refine wp_callV (as := [_, _]) (ls0 := [_, _, _]) (kc := 0) (ks := 0) (bc' := 0) (bs' := 0) dX12_pair_112 vX12_161 rfl rfl rfl (Nat.le_of_ble_eq_true rfl) (Nat.le_of_ble_eq_true rfl) (by omega) (by omega) ?_
          refine s_of (by omega) (by omega) ?_
          refine wp_ireturn dX12_pair_115 rfl ?_
          have k := kf (by omega)
          unfold aPair at k; (repeat' split at k) <;> first | exact k | (exfalso; omega) | (rw [show (26 : Int) + w - 7 = 26 by omega]; exact k) | (rw [show (26 : Int) + w - 7 = 27 by omega]; exact k) | (rw [show w - 9 = 0 by omega]; exact k) | (rw [show w - 9 = 1 by omega]; exact k)
        · refine wp_tswIn (tgt := 116) dX12_pair_38 (by omega) (by omega) (by rw [h38]; rfl) rfl ?_
          refine wp_aload_n dX12_pair_116 rfl ?_
          refine wp_iload_n dX12_pair_117 rfl ?_
          refine wp_bipush dX12_pair_118 ?_
          refine wp_iload_n dX12_pair_120 rfl ?_
          refine wp_iadd dX12_pair_121 ⟨by omega, by omega⟩ ?_
          refine wp_bipush dX12_pair_122 ?_
          refine wp_isub dX12_pair_124 ⟨by omega, by omega⟩ ?_
          refine wp_callV (as := [_, _]) (ls0 := [_, _, _]) (kc := 0) (ks := 0) (bc' := 0) (bs' := 0) dX12_pair_125 vX12_161 rfl rfl rfl (Nat.le_of_ble_eq_true rfl) (Nat.le_of_ble_eq_true rfl) (by omega) (by omega) ?_
          refine s_of (by omega) (by omega) ?_
          refine wp_ireturn dX12_pair_128 rfl ?_
          have k := kf (by omega)
          unfold aPair at k; (repeat' split at k) <;> first | exact k | (exfalso; omega) | (rw [show (26 : Int) + w - 7 = 26 by omega]; exact k) | (rw [show (26 : Int) + w - 7 = 27 by omega]; exact k) | (rw [show w - 9 = 0 by omega]; exact k) | (rw [show w - 9 = 1 by omega]; exact k)
        · refine wp_tswIn (tgt := 116) dX12_pair_38 (by omega) (by omega) (by rw [h38]; rfl) rfl ?_
          refine wp_aload_n dX12_pair_116 rfl ?_
          refine wp_iload_n dX12_pair_117 rfl ?_
          refine wp_bipush dX12_pair_118 ?_
          refine wp_iload_n dX12_pair_120 rfl ?_
          refine wp_iadd dX12_pair_121 ⟨by omega, by omega⟩ ?_
          refine wp_bipush dX12_pair_122 ?_
          refine wp_isub dX12_pair_124 ⟨by omega, by omega⟩ ?_
          refine wp_callV (as := [_, _]) (ls0 := [_, _, _]) (kc := 0) (ks := 0) (bc' := 0) (bs' := 0) dX12_pair_125 vX12_161 rfl rfl rfl (Nat.le_of_ble_eq_true rfl) (Nat.le_of_ble_eq_true rfl) (by omega) (by omega) ?_
          refine s_of (by omega) (by omega) ?_
          refine wp_ireturn dX12_pair_128 rfl ?_
          have k := kf (by omega)
          unfold aPair at k; (repeat' split at k) <;> first | exact k | (exfalso; omega) | (rw [show (26 : Int) + w - 7 = 26 by omega]; exact k) | (rw [show (26 : Int) + w - 7 = 27 by omega]; exact k) | (rw [show w - 9 = 0 by omega]; exact k) | (rw [show w - 9 = 1 by omega]; exact k)
        · refine wp_tswIn (tgt := 129) dX12_pair_38 (by omega) (by omega) (by rw [h38]; rfl) rfl ?_
          refine wp_aload_n dX12_pair_129 rfl ?_
          refine wp_iload_n dX12_pair_130 rfl ?_
          refine wp_iload_n dX12_pair_131 rfl ?_
          refine wp_bipush dX12_pair_132 ?_
          refine wp_isub dX12_pair_134 ⟨by omega, by omega⟩ ?_
          refine wp_callV (as := [_, _]) (ls0 := [_, _, _]) (kc := 0) (ks := 0) (bc' := 0) (bs' := 0) dX12_pair_135 vX12_164 rfl rfl rfl (Nat.le_of_ble_eq_true rfl) (Nat.le_of_ble_eq_true rfl) (by omega) (by omega) ?_
          refine s_manyOf (by omega) (by omega) ?_
          refine wp_ireturn dX12_pair_138 rfl ?_
          have k := kf (by omega)
          unfold aPair at k; (repeat' split at k) <;> first | exact k | (exfalso; omega) | (rw [show (26 : Int) + w - 7 = 26 by omega]; exact k) | (rw [show (26 : Int) + w - 7 = 27 by omega]; exact k) | (rw [show w - 9 = 0 by omega]; exact k) | (rw [show w - 9 = 1 by omega]; exact k)
        · refine wp_tswIn (tgt := 129) dX12_pair_38 (by omega) (by omega) (by rw [h38]; rfl) rfl ?_
          refine wp_aload_n dX12_pair_129 rfl ?_
          refine wp_iload_n dX12_pair_130 rfl ?_
          refine wp_iload_n dX12_pair_131 rfl ?_
          refine wp_bipush dX12_pair_132 ?_
          refine wp_isub dX12_pair_134 ⟨by omega, by omega⟩ ?_
          refine wp_callV (as := [_, _]) (ls0 := [_, _, _]) (kc := 0) (ks := 0) (bc' := 0) (bs' := 0) dX12_pair_135 vX12_164 rfl rfl rfl (Nat.le_of_ble_eq_true rfl) (Nat.le_of_ble_eq_true rfl) (by omega) (by omega) ?_
          refine s_manyOf (by omega) (by omega) ?_
          refine wp_ireturn dX12_pair_138 rfl ?_
          have k := kf (by omega)
          unfold aPair at k; (repeat' split at k) <;> first | exact k | (exfalso; omega) | (rw [show (26 : Int) + w - 7 = 26 by omega]; exact k) | (rw [show (26 : Int) + w - 7 = 27 by omega]; exact k) | (rw [show w - 9 = 0 by omega]; exact k) | (rw [show w - 9 = 1 by omega]; exact k)
        · refine wp_tswOut (tgt := 139) dX12_pair_38 (by omega) rfl ?_
          refine wp_aload_n dX12_pair_139 rfl ?_
          refine wp_getR rfl dX12_pair_140 fX12_25 rfl ?_
          refine wp_iconst dX12_pair_143 ?_
          refine wp_iload_n dX12_pair_144 rfl ?_
          refine wp_imul dX12_pair_145 ⟨by omega, by omega⟩ ?_
          refine wp_iload_n dX12_pair_146 rfl ?_
          refine wp_iadd dX12_pair_147 ⟨by omega, by omega⟩ ?_
          refine wp_iald dX12_pair_148 rfl (by omega) (by omega) ?_
          try simp only [ST0, ST5, ST6, ST7, ST8, ST10, ST11, ST12, ST13]
          refine wp_ireturn dX12_pair_149 rfl ?_
          have k := kf (by omega)
          unfold aPair at k; (repeat' split at k) <;> first | exact k | (exfalso; omega) | (rw [show (26 : Int) + w - 7 = 26 by omega]; exact k) | (rw [show (26 : Int) + w - 7 = 27 by omega]; exact k) | (rw [show w - 9 = 0 by omega]; exact k) | (rw [show w - 9 = 1 by omega]; exact k)
      · refine wp_iconst dX12_pair_35 ?_
        refine wp_ireturn dX12_pair_36 rfl ?_
        first | exact kt (by omega) | (exfalso; omega)
    · refine wp_if_eq (tgt := 23) dX12_pair_16 rfl (fun _ => ?_) (fun q => absurd q (by decide))
      refine wp_iconst dX12_pair_23 ?_
      refine wp_putI dX12_pair_24 fX12_65 rfl ?_
      try simp only [STu0, STu8, STu10, STu11, STu12, STu13]
      refine wp_aload_n dX12_pair_27 rfl ?_
      refine wp_getI dX12_pair_28 fX12_65 rfl ?_
      try simp only [ST0, ST5, ST6, ST7, ST8, ST10, ST11, ST12, ST13]
      rw [up_s]
      refine wp_iconst dX12_pair_31 ?_
      refine wp_icmp_ne (tgt := 37) dX12_pair_32 rfl (fun h32 => ?_) (fun h32 => ?_)
      · refine wp_iload_n dX12_pair_37 rfl ?_
        rcases (by omega : w = 3 ∨ w = 4 ∨ w = 5 ∨ w = 6 ∨ w = 7 ∨ w = 8 ∨ w = 9 ∨ w = 10 ∨ (w < 3 ∨ 10 < w)) with h38 | h38 | h38 | h38 | h38 | h38 | h38 | h38 | h38
        · refine wp_tswIn (tgt := 84) dX12_pair_38 (by omega) (by omega) (by rw [h38]; rfl) rfl ?_
          refine wp_aload_n dX12_pair_84 rfl ?_
          refine wp_iload_n dX12_pair_85 rfl ?_
          refine wp_bipush dX12_pair_86 ?_
          refine wp_callV (as := [_, _]) (ls0 := [_, _, _]) (kc := 0) (ks := 0) (bc' := 0) (bs' := 0) dX12_pair_88 vX12_161 rfl rfl rfl (Nat.le_of_ble_eq_true rfl) (Nat.le_of_ble_eq_true rfl) (by omega) (by omega) ?_
          refine s_of (by omega) (by omega) ?_
          refine wp_ireturn dX12_pair_91 rfl ?_
          have k := kf (by omega)
          unfold aPair at k; (repeat' split at k) <;> first | exact k | (exfalso; omega) | (rw [show (26 : Int) + w - 7 = 26 by omega]; exact k) | (rw [show (26 : Int) + w - 7 = 27 by omega]; exact k) | (rw [show w - 9 = 0 by omega]; exact k) | (rw [show w - 9 = 1 by omega]; exact k)
        · refine wp_tswIn (tgt := 92) dX12_pair_38 (by omega) (by omega) (by rw [h38]; rfl) rfl ?_
          refine wp_aload_n dX12_pair_92 rfl ?_
          refine wp_iload_n dX12_pair_93 rfl ?_
          refine wp_bipush dX12_pair_94 ?_
          refine wp_callV (as := [_, _]) (ls0 := [_, _, _]) (kc := 0) (ks := 0) (bc' := 0) (bs' := 0) dX12_pair_96 vX12_161 rfl rfl rfl (Nat.le_of_ble_eq_true rfl) (Nat.le_of_ble_eq_true rfl) (by omega) (by omega) ?_
          refine s_of (by omega) (by omega) ?_
          refine wp_ireturn dX12_pair_99 rfl ?_
          have k := kf (by omega)
          unfold aPair at k; (repeat' split at k) <;> first | exact k | (exfalso; omega) | (rw [show (26 : Int) + w - 7 = 26 by omega]; exact k) | (rw [show (26 : Int) + w - 7 = 27 by omega]; exact k) | (rw [show w - 9 = 0 by omega]; exact k) | (rw [show w - 9 = 1 by omega]; exact k)
        · refine wp_tswIn (tgt := 100) dX12_pair_38 (by omega) (by omega) (by rw [h38]; rfl) rfl ?_
          refine wp_aload_n dX12_pair_100 rfl ?_
          refine wp_iload_n dX12_pair_101 rfl ?_
          refine wp_bipush dX12_pair_102 ?_
          refine wp_callV (as := [_, _]) (ls0 := [_, _, _]) (kc := 0) (ks := 0) (bc' := 0) (bs' := 0) dX12_pair_104 vX12_161 rfl rfl rfl (Nat.le_of_ble_eq_true rfl) (Nat.le_of_ble_eq_true rfl) (by omega) (by omega) ?_
          refine s_of (by omega) (by omega) ?_
          refine wp_ireturn dX12_pair_107 rfl ?_
          have k := kf (by omega)
          unfold aPair at k; (repeat' split at k) <;> first | exact k | (exfalso; omega) | (rw [show (26 : Int) + w - 7 = 26 by omega]; exact k) | (rw [show (26 : Int) + w - 7 = 27 by omega]; exact k) | (rw [show w - 9 = 0 by omega]; exact k) | (rw [show w - 9 = 1 by omega]; exact k)
        · refine wp_tswIn (tgt := 108) dX12_pair_38 (by omega) (by omega) (by rw [h38]; rfl) rfl ?_
          refine wp_aload_n dX12_pair_108 rfl ?_
          refine wp_iload_n dX12_pair_109 rfl ?_
          refine wp_bipush dX12_pair_110 ?_
          refine wp_callV (as := [_, _]) (ls0 := [_, _, _]) (kc := 0) (ks := 0) (bc' := 0) (bs' := 0) dX12_pair_112 vX12_161 rfl rfl rfl (Nat.le_of_ble_eq_true rfl) (Nat.le_of_ble_eq_true rfl) (by omega) (by omega) ?_
          refine s_of (by omega) (by omega) ?_
          refine wp_ireturn dX12_pair_115 rfl ?_
          have k := kf (by omega)
          unfold aPair at k; (repeat' split at k) <;> first | exact k | (exfalso; omega) | (rw [show (26 : Int) + w - 7 = 26 by omega]; exact k) | (rw [show (26 : Int) + w - 7 = 27 by omega]; exact k) | (rw [show w - 9 = 0 by omega]; exact k) | (rw [show w - 9 = 1 by omega]; exact k)
        · refine wp_tswIn (tgt := 116) dX12_pair_38 (by omega) (by omega) (by rw [h38]; rfl) rfl ?_
          refine wp_aload_n dX12_pair_116 rfl ?_
          refine wp_iload_n dX12_pair_117 rfl ?_
          refine wp_bipush dX12_pair_118 ?_
          refine wp_iload_n dX12_pair_120 rfl ?_
          refine wp_iadd dX12_pair_121 ⟨by omega, by omega⟩ ?_
          refine wp_bipush dX12_pair_122 ?_
          refine wp_isub dX12_pair_124 ⟨by omega, by omega⟩ ?_
          refine wp_callV (as := [_, _]) (ls0 := [_, _, _]) (kc := 0) (ks := 0) (bc' := 0) (bs' := 0) dX12_pair_125 vX12_161 rfl rfl rfl (Nat.le_of_ble_eq_true rfl) (Nat.le_of_ble_eq_true rfl) (by omega) (by omega) ?_
          refine s_of (by omega) (by omega) ?_
          refine wp_ireturn dX12_pair_128 rfl ?_
          have k := kf (by omega)
          unfold aPair at k; (repeat' split at k) <;> first | exact k | (exfalso; omega) | (rw [show (26 : Int) + w - 7 = 26 by omega]; exact k) | (rw [show (26 : Int) + w - 7 = 27 by omega]; exact k) | (rw [show w - 9 = 0 by omega]; exact k) | (rw [show w - 9 = 1 by omega]; exact k)
        · refine wp_tswIn (tgt := 116) dX12_pair_38 (by omega) (by omega) (by rw [h38]; rfl) rfl ?_
          refine wp_aload_n dX12_pair_116 rfl ?_
          refine wp_iload_n dX12_pair_117 rfl ?_
          refine wp_bipush dX12_pair_118 ?_
          refine wp_iload_n dX12_pair_120 rfl ?_
          refine wp_iadd dX12_pair_121 ⟨by omega, by omega⟩ ?_
          refine wp_bipush dX12_pair_122 ?_
          refine wp_isub dX12_pair_124 ⟨by omega, by omega⟩ ?_
          refine wp_callV (as := [_, _]) (ls0 := [_, _, _]) (kc := 0) (ks := 0) (bc' := 0) (bs' := 0) dX12_pair_125 vX12_161 rfl rfl rfl (Nat.le_of_ble_eq_true rfl) (Nat.le_of_ble_eq_true rfl) (by omega) (by omega) ?_
          refine s_of (by omega) (by omega) ?_
          refine wp_ireturn dX12_pair_128 rfl ?_
          have k := kf (by omega)
          unfold aPair at k; (repeat' split at k) <;> first | exact k | (exfalso; omega) | (rw [show (26 : Int) + w - 7 = 26 by omega]; exact k) | (rw [show (26 : Int) + w - 7 = 27 by omega]; exact k) | (rw [show w - 9 = 0 by omega]; exact k) | (rw [show w - 9 = 1 by omega]; exact k)
        · refine wp_tswIn (tgt := 129) dX12_pair_38 (by omega) (by omega) (by rw [h38]; rfl) rfl ?_
          refine wp_aload_n dX12_pair_129 rfl ?_
          refine wp_iload_n dX12_pair_130 rfl ?_
          refine wp_iload_n dX12_pair_131 rfl ?_
          refine wp_bipush dX12_pair_132 ?_
          refine wp_isub dX12_pair_134 ⟨by omega, by omega⟩ ?_
          refine wp_callV (as := [_, _]) (ls0 := [_, _, _]) (kc := 0) (ks := 0) (bc' := 0) (bs' := 0) dX12_pair_135 vX12_164 rfl rfl rfl (Nat.le_of_ble_eq_true rfl) (Nat.le_of_ble_eq_true rfl) (by omega) (by omega) ?_
          refine s_manyOf (by omega) (by omega) ?_
          refine wp_ireturn dX12_pair_138 rfl ?_
          have k := kf (by omega)
          unfold aPair at k; (repeat' split at k) <;> first | exact k | (exfalso; omega) | (rw [show (26 : Int) + w - 7 = 26 by omega]; exact k) | (rw [show (26 : Int) + w - 7 = 27 by omega]; exact k) | (rw [show w - 9 = 0 by omega]; exact k) | (rw [show w - 9 = 1 by omega]; exact k)
        · refine wp_tswIn (tgt := 129) dX12_pair_38 (by omega) (by omega) (by rw [h38]; rfl) rfl ?_
          refine wp_aload_n dX12_pair_129 rfl ?_
          refine wp_iload_n dX12_pair_130 rfl ?_
          refine wp_iload_n dX12_pair_131 rfl ?_
          refine wp_bipush dX12_pair_132 ?_
          refine wp_isub dX12_pair_134 ⟨by omega, by omega⟩ ?_
          refine wp_callV (as := [_, _]) (ls0 := [_, _, _]) (kc := 0) (ks := 0) (bc' := 0) (bs' := 0) dX12_pair_135 vX12_164 rfl rfl rfl (Nat.le_of_ble_eq_true rfl) (Nat.le_of_ble_eq_true rfl) (by omega) (by omega) ?_
          refine s_manyOf (by omega) (by omega) ?_
          refine wp_ireturn dX12_pair_138 rfl ?_
          have k := kf (by omega)
          unfold aPair at k; (repeat' split at k) <;> first | exact k | (exfalso; omega) | (rw [show (26 : Int) + w - 7 = 26 by omega]; exact k) | (rw [show (26 : Int) + w - 7 = 27 by omega]; exact k) | (rw [show w - 9 = 0 by omega]; exact k) | (rw [show w - 9 = 1 by omega]; exact k)
        · refine wp_tswOut (tgt := 139) dX12_pair_38 (by omega) rfl ?_
          refine wp_aload_n dX12_pair_139 rfl ?_
          refine wp_getR rfl dX12_pair_140 fX12_25 rfl ?_
          refine wp_iconst dX12_pair_143 ?_
          refine wp_iload_n dX12_pair_144 rfl ?_
          refine wp_imul dX12_pair_145 ⟨by omega, by omega⟩ ?_
          refine wp_iload_n dX12_pair_146 rfl ?_
          refine wp_iadd dX12_pair_147 ⟨by omega, by omega⟩ ?_
          refine wp_iald dX12_pair_148 rfl (by omega) (by omega) ?_
          try simp only [ST0, ST5, ST6, ST7, ST8, ST10, ST11, ST12, ST13]
          refine wp_ireturn dX12_pair_149 rfl ?_
          have k := kf (by omega)
          unfold aPair at k; (repeat' split at k) <;> first | exact k | (exfalso; omega) | (rw [show (26 : Int) + w - 7 = 26 by omega]; exact k) | (rw [show (26 : Int) + w - 7 = 27 by omega]; exact k) | (rw [show w - 9 = 0 by omega]; exact k) | (rw [show w - 9 = 1 by omega]; exact k)
      · refine wp_iconst dX12_pair_35 ?_
        refine wp_ireturn dX12_pair_36 rfl ?_
        first | exact kt (by omega) | (exfalso; omega)
  · refine wp_if_eq (tgt := 23) dX12_pair_6 rfl (fun _ => ?_) (fun q => absurd q (by decide))
    refine wp_iconst dX12_pair_23 ?_
    refine wp_putI dX12_pair_24 fX12_65 rfl ?_
    try simp only [STu0, STu8, STu10, STu11, STu12, STu13]
    refine wp_aload_n dX12_pair_27 rfl ?_
    refine wp_getI dX12_pair_28 fX12_65 rfl ?_
    try simp only [ST0, ST5, ST6, ST7, ST8, ST10, ST11, ST12, ST13]
    rw [up_s]
    refine wp_iconst dX12_pair_31 ?_
    refine wp_icmp_ne (tgt := 37) dX12_pair_32 rfl (fun h32 => ?_) (fun h32 => ?_)
    · refine wp_iload_n dX12_pair_37 rfl ?_
      rcases (by omega : w = 3 ∨ w = 4 ∨ w = 5 ∨ w = 6 ∨ w = 7 ∨ w = 8 ∨ w = 9 ∨ w = 10 ∨ (w < 3 ∨ 10 < w)) with h38 | h38 | h38 | h38 | h38 | h38 | h38 | h38 | h38
      · refine wp_tswIn (tgt := 84) dX12_pair_38 (by omega) (by omega) (by rw [h38]; rfl) rfl ?_
        refine wp_aload_n dX12_pair_84 rfl ?_
        refine wp_iload_n dX12_pair_85 rfl ?_
        refine wp_bipush dX12_pair_86 ?_
        refine wp_callV (as := [_, _]) (ls0 := [_, _, _]) (kc := 0) (ks := 0) (bc' := 0) (bs' := 0) dX12_pair_88 vX12_161 rfl rfl rfl (Nat.le_of_ble_eq_true rfl) (Nat.le_of_ble_eq_true rfl) (by omega) (by omega) ?_
        refine s_of (by omega) (by omega) ?_
        refine wp_ireturn dX12_pair_91 rfl ?_
        have k := kf (by omega)
        unfold aPair at k; (repeat' split at k) <;> first | exact k | (exfalso; omega) | (rw [show (26 : Int) + w - 7 = 26 by omega]; exact k) | (rw [show (26 : Int) + w - 7 = 27 by omega]; exact k) | (rw [show w - 9 = 0 by omega]; exact k) | (rw [show w - 9 = 1 by omega]; exact k)
      · refine wp_tswIn (tgt := 92) dX12_pair_38 (by omega) (by omega) (by rw [h38]; rfl) rfl ?_
        refine wp_aload_n dX12_pair_92 rfl ?_
        refine wp_iload_n dX12_pair_93 rfl ?_
        refine wp_bipush dX12_pair_94 ?_
        refine wp_callV (as := [_, _]) (ls0 := [_, _, _]) (kc := 0) (ks := 0) (bc' := 0) (bs' := 0) dX12_pair_96 vX12_161 rfl rfl rfl (Nat.le_of_ble_eq_true rfl) (Nat.le_of_ble_eq_true rfl) (by omega) (by omega) ?_
        refine s_of (by omega) (by omega) ?_
        refine wp_ireturn dX12_pair_99 rfl ?_
        have k := kf (by omega)
        unfold aPair at k; (repeat' split at k) <;> first | exact k | (exfalso; omega) | (rw [show (26 : Int) + w - 7 = 26 by omega]; exact k) | (rw [show (26 : Int) + w - 7 = 27 by omega]; exact k) | (rw [show w - 9 = 0 by omega]; exact k) | (rw [show w - 9 = 1 by omega]; exact k)
      · refine wp_tswIn (tgt := 100) dX12_pair_38 (by omega) (by omega) (by rw [h38]; rfl) rfl ?_
        refine wp_aload_n dX12_pair_100 rfl ?_
        refine wp_iload_n dX12_pair_101 rfl ?_
        refine wp_bipush dX12_pair_102 ?_
        refine wp_callV (as := [_, _]) (ls0 := [_, _, _]) (kc := 0) (ks := 0) (bc' := 0) (bs' := 0) dX12_pair_104 vX12_161 rfl rfl rfl (Nat.le_of_ble_eq_true rfl) (Nat.le_of_ble_eq_true rfl) (by omega) (by omega) ?_
        refine s_of (by omega) (by omega) ?_
        refine wp_ireturn dX12_pair_107 rfl ?_
        have k := kf (by omega)
        unfold aPair at k; (repeat' split at k) <;> first | exact k | (exfalso; omega) | (rw [show (26 : Int) + w - 7 = 26 by omega]; exact k) | (rw [show (26 : Int) + w - 7 = 27 by omega]; exact k) | (rw [show w - 9 = 0 by omega]; exact k) | (rw [show w - 9 = 1 by omega]; exact k)
      · refine wp_tswIn (tgt := 108) dX12_pair_38 (by omega) (by omega) (by rw [h38]; rfl) rfl ?_
        refine wp_aload_n dX12_pair_108 rfl ?_
        refine wp_iload_n dX12_pair_109 rfl ?_
        refine wp_bipush dX12_pair_110 ?_
        refine wp_callV (as := [_, _]) (ls0 := [_, _, _]) (kc := 0) (ks := 0) (bc' := 0) (bs' := 0) dX12_pair_112 vX12_161 rfl rfl rfl (Nat.le_of_ble_eq_true rfl) (Nat.le_of_ble_eq_true rfl) (by omega) (by omega) ?_
        refine s_of (by omega) (by omega) ?_
        refine wp_ireturn dX12_pair_115 rfl ?_
        have k := kf (by omega)
        unfold aPair at k; (repeat' split at k) <;> first | exact k | (exfalso; omega) | (rw [show (26 : Int) + w - 7 = 26 by omega]; exact k) | (rw [show (26 : Int) + w - 7 = 27 by omega]; exact k) | (rw [show w - 9 = 0 by omega]; exact k) | (rw [show w - 9 = 1 by omega]; exact k)
      · refine wp_tswIn (tgt := 116) dX12_pair_38 (by omega) (by omega) (by rw [h38]; rfl) rfl ?_
        refine wp_aload_n dX12_pair_116 rfl ?_
        refine wp_iload_n dX12_pair_117 rfl ?_
        refine wp_bipush dX12_pair_118 ?_
        refine wp_iload_n dX12_pair_120 rfl ?_
        refine wp_iadd dX12_pair_121 ⟨by omega, by omega⟩ ?_
        refine wp_bipush dX12_pair_122 ?_
        refine wp_isub dX12_pair_124 ⟨by omega, by omega⟩ ?_
        refine wp_callV (as := [_, _]) (ls0 := [_, _, _]) (kc := 0) (ks := 0) (bc' := 0) (bs' := 0) dX12_pair_125 vX12_161 rfl rfl rfl (Nat.le_of_ble_eq_true rfl) (Nat.le_of_ble_eq_true rfl) (by omega) (by omega) ?_
        refine s_of (by omega) (by omega) ?_
        refine wp_ireturn dX12_pair_128 rfl ?_
        have k := kf (by omega)
        unfold aPair at k; (repeat' split at k) <;> first | exact k | (exfalso; omega) | (rw [show (26 : Int) + w - 7 = 26 by omega]; exact k) | (rw [show (26 : Int) + w - 7 = 27 by omega]; exact k) | (rw [show w - 9 = 0 by omega]; exact k) | (rw [show w - 9 = 1 by omega]; exact k)
      · refine wp_tswIn (tgt := 116) dX12_pair_38 (by omega) (by omega) (by rw [h38]; rfl) rfl ?_
        refine wp_aload_n dX12_pair_116 rfl ?_
        refine wp_iload_n dX12_pair_117 rfl ?_
        refine wp_bipush dX12_pair_118 ?_
        refine wp_iload_n dX12_pair_120 rfl ?_
        refine wp_iadd dX12_pair_121 ⟨by omega, by omega⟩ ?_
        refine wp_bipush dX12_pair_122 ?_
        refine wp_isub dX12_pair_124 ⟨by omega, by omega⟩ ?_
        refine wp_callV (as := [_, _]) (ls0 := [_, _, _]) (kc := 0) (ks := 0) (bc' := 0) (bs' := 0) dX12_pair_125 vX12_161 rfl rfl rfl (Nat.le_of_ble_eq_true rfl) (Nat.le_of_ble_eq_true rfl) (by omega) (by omega) ?_
        refine s_of (by omega) (by omega) ?_
        refine wp_ireturn dX12_pair_128 rfl ?_
        have k := kf (by omega)
        unfold aPair at k; (repeat' split at k) <;> first | exact k | (exfalso; omega) | (rw [show (26 : Int) + w - 7 = 26 by omega]; exact k) | (rw [show (26 : Int) + w - 7 = 27 by omega]; exact k) | (rw [show w - 9 = 0 by omega]; exact k) | (rw [show w - 9 = 1 by omega]; exact k)
      · refine wp_tswIn (tgt := 129) dX12_pair_38 (by omega) (by omega) (by rw [h38]; rfl) rfl ?_
        refine wp_aload_n dX12_pair_129 rfl ?_
        refine wp_iload_n dX12_pair_130 rfl ?_
        refine wp_iload_n dX12_pair_131 rfl ?_
        refine wp_bipush dX12_pair_132 ?_
        refine wp_isub dX12_pair_134 ⟨by omega, by omega⟩ ?_
        refine wp_callV (as := [_, _]) (ls0 := [_, _, _]) (kc := 0) (ks := 0) (bc' := 0) (bs' := 0) dX12_pair_135 vX12_164 rfl rfl rfl (Nat.le_of_ble_eq_true rfl) (Nat.le_of_ble_eq_true rfl) (by omega) (by omega) ?_
        refine s_manyOf (by omega) (by omega) ?_
        refine wp_ireturn dX12_pair_138 rfl ?_
        have k := kf (by omega)
        unfold aPair at k; (repeat' split at k) <;> first | exact k | (exfalso; omega) | (rw [show (26 : Int) + w - 7 = 26 by omega]; exact k) | (rw [show (26 : Int) + w - 7 = 27 by omega]; exact k) | (rw [show w - 9 = 0 by omega]; exact k) | (rw [show w - 9 = 1 by omega]; exact k)
      · refine wp_tswIn (tgt := 129) dX12_pair_38 (by omega) (by omega) (by rw [h38]; rfl) rfl ?_
        refine wp_aload_n dX12_pair_129 rfl ?_
        refine wp_iload_n dX12_pair_130 rfl ?_
        refine wp_iload_n dX12_pair_131 rfl ?_
        refine wp_bipush dX12_pair_132 ?_
        refine wp_isub dX12_pair_134 ⟨by omega, by omega⟩ ?_
        refine wp_callV (as := [_, _]) (ls0 := [_, _, _]) (kc := 0) (ks := 0) (bc' := 0) (bs' := 0) dX12_pair_135 vX12_164 rfl rfl rfl (Nat.le_of_ble_eq_true rfl) (Nat.le_of_ble_eq_true rfl) (by omega) (by omega) ?_
        refine s_manyOf (by omega) (by omega) ?_
        refine wp_ireturn dX12_pair_138 rfl ?_
        have k := kf (by omega)
        unfold aPair at k; (repeat' split at k) <;> first | exact k | (exfalso; omega) | (rw [show (26 : Int) + w - 7 = 26 by omega]; exact k) | (rw [show (26 : Int) + w - 7 = 27 by omega]; exact k) | (rw [show w - 9 = 0 by omega]; exact k) | (rw [show w - 9 = 1 by omega]; exact k)
      · refine wp_tswOut (tgt := 139) dX12_pair_38 (by omega) rfl ?_
        refine wp_aload_n dX12_pair_139 rfl ?_
        refine wp_getR rfl dX12_pair_140 fX12_25 rfl ?_
        refine wp_iconst dX12_pair_143 ?_
        refine wp_iload_n dX12_pair_144 rfl ?_
        refine wp_imul dX12_pair_145 ⟨by omega, by omega⟩ ?_
        refine wp_iload_n dX12_pair_146 rfl ?_
        refine wp_iadd dX12_pair_147 ⟨by omega, by omega⟩ ?_
        refine wp_iald dX12_pair_148 rfl (by omega) (by omega) ?_
        try simp only [ST0, ST5, ST6, ST7, ST8, ST10, ST11, ST12, ST13]
        refine wp_ireturn dX12_pair_149 rfl ?_
        have k := kf (by omega)
        unfold aPair at k; (repeat' split at k) <;> first | exact k | (exfalso; omega) | (rw [show (26 : Int) + w - 7 = 26 by omega]; exact k) | (rw [show (26 : Int) + w - 7 = 27 by omega]; exact k) | (rw [show w - 9 = 0 by omega]; exact k) | (rw [show w - 9 = 1 by omega]; exact k)
    · refine wp_iconst dX12_pair_35 ?_
      refine wp_ireturn dX12_pair_36 rfl ?_
      first | exact kt (by omega) | (exfalso; omega)
theorem s_cell {p s i w : Int} (hT : Tld iv F N) (k : R (some (aI (aCell F N p s i w))) SHR (ST iv F N G O T S) lw RVR) : wp (d + 2) mX12_cell 0 [some (aR 0), some (aI p), some (aI s), some (aI i), some (aI w)] [] SHR (ST iv F N G O T S) lw RVR 0 0 R := by
  obtain ⟨hr, hP2, h9, h8, hc, h25, hT2⟩ := id hT
  by_cases hs : s = 0 ∨ s = 1
  · rcases hs with rfl | rfl
    · skip
      refine wp_aload_n dX12_cell_0 rfl ?_
      refine wp_iload_n dX12_cell_1 rfl ?_
      refine wp_callV (as := [_]) (ls0 := [_, _]) (kc := 0) (ks := 0) (bc' := 0) (bs' := 0) dX12_cell_2 vX12_313 rfl rfl rfl (Nat.le_of_ble_eq_true rfl) (Nat.le_of_ble_eq_true rfl) (by omega) (by omega) ?_
      refine s_isPair (by omega) (fun h2 => ?_) (fun h2 => ?_)
      · obtain ⟨hP, hI⟩ := hT2 (by omega)
        have hB := hI.1
        have h18 := hB.v18 (p := p) (by omega)
        have h25b := hB.v25 (p := p) (by omega)
        have hp6 : 0 ≤ p ∧ p < 6 := by omega
        refine wp_if_eq (tgt := 51) dX12_cell_5 rfl (fun q => absurd q (by decide)) (fun _ => ?_)
        refine wp_iload_n dX12_cell_8 rfl ?_
        refine wp_iconst dX12_cell_9 ?_
        refine wp_iconst dX12_cell_10 ?_
        refine wp_callS (as := [_, _, _]) (ls0 := [_, _, _]) (kc := 0) (ks := 0) (bc' := 0) (bs' := 0) dX12_cell_11 vX12_75 rfl rfl (Nat.le_of_ble_eq_true rfl) (Nat.le_of_ble_eq_true rfl) (by omega) (by omega) ?_
        refine s_in (fun _ => ?_) (fun h11 => by omega)
        refine wp_if_eq (tgt := 51) dX12_cell_14 rfl (fun q => absurd q (by decide)) (fun _ => ?_)
        refine wp_iload_n dX12_cell_17 rfl ?_
        refine wp_iconst dX12_cell_18 ?_
        refine wp_aload_n dX12_cell_19 rfl ?_
        refine wp_iload_n dX12_cell_20 rfl ?_
        refine wp_iload_n dX12_cell_21 rfl ?_
        refine wp_callV (as := [_, _]) (ls0 := [_, _, _]) (kc := 0) (ks := 0) (bc' := 0) (bs' := 0) dX12_cell_22 vX12_164 rfl rfl rfl (Nat.le_of_ble_eq_true rfl) (Nat.le_of_ble_eq_true rfl) (by omega) (by omega) ?_
        refine s_manyOf hp6 (by omega) ?_
        rw [mq0]
        refine wp_iconst dX12_cell_25 ?_
        refine wp_isub dX12_cell_26 ⟨by omega, by omega⟩ ?_
        refine wp_callS (as := [_, _, _]) (ls0 := [_, _, _]) (kc := 0) (ks := 0) (bc' := 0) (bs' := 0) dX12_cell_27 vX12_75 rfl rfl (Nat.le_of_ble_eq_true rfl) (Nat.le_of_ble_eq_true rfl) (by omega) (by omega) ?_
        refine s_in (fun h27 => ?_) (fun h27 => ?_)
        · refine wp_if_eq (tgt := 51) dX12_cell_30 rfl (fun q => absurd q (by decide)) (fun _ => ?_)
          refine wp_iload dX12_cell_33 rfl ?_
          refine wp_iconst dX12_cell_35 ?_
          refine wp_iload_n dX12_cell_36 rfl ?_
          refine wp_if_ne (tgt := 44) dX12_cell_37 rfl (fun q => absurd q (by decide)) (fun _ => ?_)
          refine wp_iconst dX12_cell_40 ?_
          refine wp_goto (tgt := 45) dX12_cell_41 rfl ?_
          refine wp_callS (as := [_, _, _]) (ls0 := [_, _, _]) (kc := 0) (ks := 0) (bc' := 0) (bs' := 0) dX12_cell_45 vX12_75 rfl rfl (Nat.le_of_ble_eq_true rfl) (Nat.le_of_ble_eq_true rfl) (by omega) (by omega) ?_
          refine s_in (fun h45 => ?_) (fun h45 => ?_)
          · refine wp_if_ne (tgt := 53) dX12_cell_48 rfl (fun _ => ?_) (fun q => absurd q (by decide))
            refine wp_iload dX12_cell_53 rfl ?_
            refine wp_if_ne (tgt := 68) dX12_cell_55 rfl (fun h55 => ?_) (fun h55 => ?_)
            · refine wp_aload_n dX12_cell_68 rfl ?_
              refine wp_iload_n dX12_cell_69 rfl ?_
              refine wp_iload dX12_cell_70 rfl ?_
              refine wp_iconst dX12_cell_72 ?_
              refine wp_icmp_ne (tgt := 81) dX12_cell_73 rfl (fun h73 => ?_) (fun h73 => ?_)
              · refine wp_bipush dX12_cell_81 ?_
                refine wp_iload_n dX12_cell_83 rfl ?_
                refine wp_iadd dX12_cell_84 ⟨by omega, by omega⟩ ?_
                refine wp_callV (as := [_, _]) (ls0 := [_, _, _]) (kc := 0) (ks := 0) (bc' := 0) (bs' := 0) dX12_cell_85 vX12_161 rfl rfl rfl (Nat.le_of_ble_eq_true rfl) (Nat.le_of_ble_eq_true rfl) (by omega) (by omega) ?_
                refine s_of (by omega) (by omega) ?_
                refine wp_ireturn dX12_cell_88 rfl ?_
                unfold aCell at k; (repeat' split at k) <;> first | exact k | (exfalso; omega)
              · refine wp_bipush dX12_cell_76 ?_
                refine wp_goto (tgt := 83) dX12_cell_78 rfl ?_
                refine wp_iload_n dX12_cell_83 rfl ?_
                refine wp_iadd dX12_cell_84 ⟨by omega, by omega⟩ ?_
                refine wp_callV (as := [_, _]) (ls0 := [_, _, _]) (kc := 0) (ks := 0) (bc' := 0) (bs' := 0) dX12_cell_85 vX12_161 rfl rfl rfl (Nat.le_of_ble_eq_true rfl) (Nat.le_of_ble_eq_true rfl) (by omega) (by omega) ?_
                refine s_of (by omega) (by omega) ?_
                refine wp_ireturn dX12_cell_88 rfl ?_
                unfold aCell at k; (repeat' split at k) <;> first | exact k | (exfalso; omega)
            · refine wp_aload_n dX12_cell_58 rfl ?_
              refine wp_iload_n dX12_cell_59 rfl ?_
              refine wp_iload_n dX12_cell_60 rfl ?_
              refine wp_iload_n dX12_cell_61 rfl ?_
              refine wp_callV (as := [_, _, _]) (ls0 := [_, _, _, _]) (kc := 0) (ks := 0) (bc' := 0) (bs' := 0) dX12_cell_62 vX12_167 rfl rfl rfl (Nat.le_of_ble_eq_true rfl) (Nat.le_of_ble_eq_true rfl) (by omega) (by omega) ?_
              refine s_cellOf hp6 (by omega) (by omega) ?_
              rw [bq0]
              refine wp_goto (tgt := 88) dX12_cell_65 rfl ?_
              refine wp_ireturn dX12_cell_88 rfl ?_
              unfold aCell at k; (repeat' split at k) <;> first | exact k | (exfalso; omega)
          · refine wp_if_ne (tgt := 53) dX12_cell_48 rfl (fun q => absurd q (by decide)) (fun _ => ?_)
            refine wp_iconst dX12_cell_51 ?_
            refine wp_ireturn dX12_cell_52 rfl ?_
            unfold aCell at k; (repeat' split at k) <;> first | exact k | (exfalso; omega)
        · refine wp_if_eq (tgt := 51) dX12_cell_30 rfl (fun _ => ?_) (fun q => absurd q (by decide))
          refine wp_iconst dX12_cell_51 ?_
          refine wp_ireturn dX12_cell_52 rfl ?_
          unfold aCell at k; (repeat' split at k) <;> first | exact k | (exfalso; omega)
      · refine wp_if_eq (tgt := 51) dX12_cell_5 rfl (fun _ => ?_) (fun q => absurd q (by decide))
        refine wp_iconst dX12_cell_51 ?_
        refine wp_ireturn dX12_cell_52 rfl ?_
        unfold aCell at k; (repeat' split at k) <;> first | exact k | (exfalso; omega)
    · skip
      refine wp_aload_n dX12_cell_0 rfl ?_
      refine wp_iload_n dX12_cell_1 rfl ?_
      refine wp_callV (as := [_]) (ls0 := [_, _]) (kc := 0) (ks := 0) (bc' := 0) (bs' := 0) dX12_cell_2 vX12_313 rfl rfl rfl (Nat.le_of_ble_eq_true rfl) (Nat.le_of_ble_eq_true rfl) (by omega) (by omega) ?_
      refine s_isPair (by omega) (fun h2 => ?_) (fun h2 => ?_)
      · obtain ⟨hP, hI⟩ := hT2 (by omega)
        have hB := hI.1
        have h18 := hB.v18 (p := p) (by omega)
        have h25b := hB.v25 (p := p) (by omega)
        have hp6 : 0 ≤ p ∧ p < 6 := by omega
        refine wp_if_eq (tgt := 51) dX12_cell_5 rfl (fun q => absurd q (by decide)) (fun _ => ?_)
        refine wp_iload_n dX12_cell_8 rfl ?_
        refine wp_iconst dX12_cell_9 ?_
        refine wp_iconst dX12_cell_10 ?_
        refine wp_callS (as := [_, _, _]) (ls0 := [_, _, _]) (kc := 0) (ks := 0) (bc' := 0) (bs' := 0) dX12_cell_11 vX12_75 rfl rfl (Nat.le_of_ble_eq_true rfl) (Nat.le_of_ble_eq_true rfl) (by omega) (by omega) ?_
        refine s_in (fun _ => ?_) (fun h11 => by omega)
        refine wp_if_eq (tgt := 51) dX12_cell_14 rfl (fun q => absurd q (by decide)) (fun _ => ?_)
        refine wp_iload_n dX12_cell_17 rfl ?_
        refine wp_iconst dX12_cell_18 ?_
        refine wp_aload_n dX12_cell_19 rfl ?_
        refine wp_iload_n dX12_cell_20 rfl ?_
        refine wp_iload_n dX12_cell_21 rfl ?_
        refine wp_callV (as := [_, _]) (ls0 := [_, _, _]) (kc := 0) (ks := 0) (bc' := 0) (bs' := 0) dX12_cell_22 vX12_164 rfl rfl rfl (Nat.le_of_ble_eq_true rfl) (Nat.le_of_ble_eq_true rfl) (by omega) (by omega) ?_
        refine s_manyOf hp6 (by omega) ?_
        rw [mq1]
        refine wp_iconst dX12_cell_25 ?_
        refine wp_isub dX12_cell_26 ⟨by omega, by omega⟩ ?_
        refine wp_callS (as := [_, _, _]) (ls0 := [_, _, _]) (kc := 0) (ks := 0) (bc' := 0) (bs' := 0) dX12_cell_27 vX12_75 rfl rfl (Nat.le_of_ble_eq_true rfl) (Nat.le_of_ble_eq_true rfl) (by omega) (by omega) ?_
        refine s_in (fun h27 => ?_) (fun h27 => ?_)
        · refine wp_if_eq (tgt := 51) dX12_cell_30 rfl (fun q => absurd q (by decide)) (fun _ => ?_)
          refine wp_iload dX12_cell_33 rfl ?_
          refine wp_iconst dX12_cell_35 ?_
          refine wp_iload_n dX12_cell_36 rfl ?_
          refine wp_if_ne (tgt := 44) dX12_cell_37 rfl (fun _ => ?_) (fun q => absurd q (by decide))
          refine wp_iconst dX12_cell_44 ?_
          refine wp_callS (as := [_, _, _]) (ls0 := [_, _, _]) (kc := 0) (ks := 0) (bc' := 0) (bs' := 0) dX12_cell_45 vX12_75 rfl rfl (Nat.le_of_ble_eq_true rfl) (Nat.le_of_ble_eq_true rfl) (by omega) (by omega) ?_
          refine s_in (fun h45 => ?_) (fun h45 => ?_)
          · refine wp_if_ne (tgt := 53) dX12_cell_48 rfl (fun _ => ?_) (fun q => absurd q (by decide))
            refine wp_iload dX12_cell_53 rfl ?_
            refine wp_if_ne (tgt := 68) dX12_cell_55 rfl (fun h55 => ?_) (fun h55 => ?_)
            · refine wp_aload_n dX12_cell_68 rfl ?_
              refine wp_iload_n dX12_cell_69 rfl ?_
              refine wp_iload dX12_cell_70 rfl ?_
              refine wp_iconst dX12_cell_72 ?_
              refine wp_icmp_ne (tgt := 81) dX12_cell_73 rfl (fun h73 => ?_) (fun h73 => ?_)
              · refine wp_bipush dX12_cell_81 ?_
                refine wp_iload_n dX12_cell_83 rfl ?_
                refine wp_iadd dX12_cell_84 ⟨by omega, by omega⟩ ?_
                refine wp_callV (as := [_, _]) (ls0 := [_, _, _]) (kc := 0) (ks := 0) (bc' := 0) (bs' := 0) dX12_cell_85 vX12_161 rfl rfl rfl (Nat.le_of_ble_eq_true rfl) (Nat.le_of_ble_eq_true rfl) (by omega) (by omega) ?_
                refine s_of (by omega) (by omega) ?_
                refine wp_ireturn dX12_cell_88 rfl ?_
                unfold aCell at k; (repeat' split at k) <;> first | exact k | (exfalso; omega)
              · refine wp_bipush dX12_cell_76 ?_
                refine wp_goto (tgt := 83) dX12_cell_78 rfl ?_
                refine wp_iload_n dX12_cell_83 rfl ?_
                refine wp_iadd dX12_cell_84 ⟨by omega, by omega⟩ ?_
                refine wp_callV (as := [_, _]) (ls0 := [_, _, _]) (kc := 0) (ks := 0) (bc' := 0) (bs' := 0) dX12_cell_85 vX12_161 rfl rfl rfl (Nat.le_of_ble_eq_true rfl) (Nat.le_of_ble_eq_true rfl) (by omega) (by omega) ?_
                refine s_of (by omega) (by omega) ?_
                refine wp_ireturn dX12_cell_88 rfl ?_
                unfold aCell at k; (repeat' split at k) <;> first | exact k | (exfalso; omega)
            · refine wp_aload_n dX12_cell_58 rfl ?_
              refine wp_iload_n dX12_cell_59 rfl ?_
              refine wp_iload_n dX12_cell_60 rfl ?_
              refine wp_iload_n dX12_cell_61 rfl ?_
              refine wp_callV (as := [_, _, _]) (ls0 := [_, _, _, _]) (kc := 0) (ks := 0) (bc' := 0) (bs' := 0) dX12_cell_62 vX12_167 rfl rfl rfl (Nat.le_of_ble_eq_true rfl) (Nat.le_of_ble_eq_true rfl) (by omega) (by omega) ?_
              refine s_cellOf hp6 (by omega) (by omega) ?_
              rw [bq1]
              refine wp_goto (tgt := 88) dX12_cell_65 rfl ?_
              refine wp_ireturn dX12_cell_88 rfl ?_
              unfold aCell at k; (repeat' split at k) <;> first | exact k | (exfalso; omega)
          · refine wp_if_ne (tgt := 53) dX12_cell_48 rfl (fun q => absurd q (by decide)) (fun _ => ?_)
            refine wp_iconst dX12_cell_51 ?_
            refine wp_ireturn dX12_cell_52 rfl ?_
            unfold aCell at k; (repeat' split at k) <;> first | exact k | (exfalso; omega)
        · refine wp_if_eq (tgt := 51) dX12_cell_30 rfl (fun _ => ?_) (fun q => absurd q (by decide))
          refine wp_iconst dX12_cell_51 ?_
          refine wp_ireturn dX12_cell_52 rfl ?_
          unfold aCell at k; (repeat' split at k) <;> first | exact k | (exfalso; omega)
      · refine wp_if_eq (tgt := 51) dX12_cell_5 rfl (fun _ => ?_) (fun q => absurd q (by decide))
        refine wp_iconst dX12_cell_51 ?_
        refine wp_ireturn dX12_cell_52 rfl ?_
        unfold aCell at k; (repeat' split at k) <;> first | exact k | (exfalso; omega)
  · refine wp_aload_n dX12_cell_0 rfl ?_
    refine wp_iload_n dX12_cell_1 rfl ?_
    refine wp_callV (as := [_]) (ls0 := [_, _]) (kc := 0) (ks := 0) (bc' := 0) (bs' := 0) dX12_cell_2 vX12_313 rfl rfl rfl (Nat.le_of_ble_eq_true rfl) (Nat.le_of_ble_eq_true rfl) (by omega) (by omega) ?_
    refine s_isPair (by omega) (fun h2 => ?_) (fun h2 => ?_)
    · refine wp_if_eq (tgt := 51) dX12_cell_5 rfl (fun q => absurd q (by decide)) (fun _ => ?_)
      refine wp_iload_n dX12_cell_8 rfl ?_
      refine wp_iconst dX12_cell_9 ?_
      refine wp_iconst dX12_cell_10 ?_
      refine wp_callS (as := [_, _, _]) (ls0 := [_, _, _]) (kc := 0) (ks := 0) (bc' := 0) (bs' := 0) dX12_cell_11 vX12_75 rfl rfl (Nat.le_of_ble_eq_true rfl) (Nat.le_of_ble_eq_true rfl) (by omega) (by omega) ?_
      refine s_in (fun h11 => by omega) (fun h11 => ?_)
      refine wp_if_eq (tgt := 51) dX12_cell_14 rfl (fun _ => ?_) (fun q => absurd q (by decide))
      refine wp_iconst dX12_cell_51 ?_
      refine wp_ireturn dX12_cell_52 rfl ?_
      unfold aCell at k; (repeat' split at k) <;> first | exact k | (exfalso; omega)
    · refine wp_if_eq (tgt := 51) dX12_cell_5 rfl (fun _ => ?_) (fun q => absurd q (by decide))
      refine wp_iconst dX12_cell_51 ?_
      refine wp_ireturn dX12_cell_52 rfl ?_
      unfold aCell at k; (repeat' split at k) <;> first | exact k | (exfalso; omega)
theorem s_waits {p s w : Int} (hT : Tld iv F N) (k : R (some (aI (aWaits F N p s w))) SHR (ST iv F N G O T S) lw RVR) : wp (d + 2) mX12_waits 0 [some (aR 0), some (aI p), some (aI s), some (aI w), none] [] SHR (ST iv F N G O T S) lw RVR 0 0 R := by
  obtain ⟨hr, hP2, h9, h8, hc, h25, hT2⟩ := id hT
  by_cases hs : s = 0 ∨ s = 1
  · rcases hs with rfl | rfl
    · skip
      refine wp_aload_n dX12_waits_0 rfl ?_
      refine wp_iload_n dX12_waits_1 rfl ?_
      refine wp_callV (as := [_]) (ls0 := [_, _]) (kc := 0) (ks := 0) (bc' := 0) (bs' := 0) dX12_waits_2 vX12_313 rfl rfl rfl (Nat.le_of_ble_eq_true rfl) (Nat.le_of_ble_eq_true rfl) (by omega) (by omega) ?_
      refine s_isPair (by omega) (fun h2 => ?_) (fun h2 => ?_)
      · obtain ⟨hP, hI⟩ := hT2 (by omega)
        have hB := hI.1
        have hp6 : 0 ≤ p ∧ p < 6 := by omega
        have h28 := hB p (28 + 0) hp6.1 hp6.2 (by omega) (by omega)
        rw [kwai (by omega)] at h28
        refine wp_if_eq (tgt := 26) dX12_waits_5 rfl (fun q => absurd q (by decide)) (fun _ => ?_)
        refine wp_iload_n dX12_waits_8 rfl ?_
        refine wp_iconst dX12_waits_9 ?_
        refine wp_iconst dX12_waits_10 ?_
        refine wp_callS (as := [_, _, _]) (ls0 := [_, _, _]) (kc := 0) (ks := 0) (bc' := 0) (bs' := 0) dX12_waits_11 vX12_75 rfl rfl (Nat.le_of_ble_eq_true rfl) (Nat.le_of_ble_eq_true rfl) (by omega) (by omega) ?_
        refine s_in (fun _ => ?_) (fun h11 => by omega)
        refine wp_if_eq (tgt := 26) dX12_waits_14 rfl (fun q => absurd q (by decide)) (fun _ => ?_)
        refine wp_iload_n dX12_waits_17 rfl ?_
        refine wp_iconst dX12_waits_18 ?_
        refine wp_iconst dX12_waits_19 ?_
        refine wp_callS (as := [_, _, _]) (ls0 := [_, _, _]) (kc := 0) (ks := 0) (bc' := 0) (bs' := 0) dX12_waits_20 vX12_75 rfl rfl (Nat.le_of_ble_eq_true rfl) (Nat.le_of_ble_eq_true rfl) (by omega) (by omega) ?_
        refine s_in (fun h20 => ?_) (fun h20 => ?_)
        · refine wp_if_ne (tgt := 28) dX12_waits_23 rfl (fun _ => ?_) (fun q => absurd q (by decide))
          refine wp_aload_n dX12_waits_28 rfl ?_
          refine wp_iload_n dX12_waits_29 rfl ?_
          refine wp_bipush dX12_waits_30 ?_
          refine wp_iload_n dX12_waits_32 rfl ?_
          refine wp_iadd dX12_waits_33 ⟨by omega, by omega⟩ ?_
          refine wp_callV (as := [_, _]) (ls0 := [_, _, _]) (kc := 0) (ks := 0) (bc' := 0) (bs' := 0) dX12_waits_34 vX12_161 rfl rfl rfl (Nat.le_of_ble_eq_true rfl) (Nat.le_of_ble_eq_true rfl) (by omega) (by omega) ?_
          refine s_of (by omega) (by omega) ?_
          refine wp_iconst dX12_waits_37 ?_
          refine wp_icmp_ne (tgt := 45) dX12_waits_38 rfl (fun h38 => ?_) (fun h38 => ?_)
          · refine wp_iconst dX12_waits_45 ?_
            refine wp_istore (ls' := [_, _, _, _, _]) dX12_waits_46 (by decide) rfl rfl ?_
            refine wp_iload_n dX12_waits_48 rfl ?_
            refine wp_if_ne (tgt := 65) dX12_waits_49 rfl (fun h49 => ?_) (fun h49 => ?_)
            · refine wp_iload_n dX12_waits_65 rfl ?_
              refine wp_iconst dX12_waits_66 ?_
              refine wp_icmp_ne (tgt := 91) dX12_waits_67 rfl (fun h67 => ?_) (fun h67 => ?_)
              · refine wp_aload_n dX12_waits_91 rfl ?_
                refine wp_iload_n dX12_waits_92 rfl ?_
                refine wp_bipush dX12_waits_93 ?_
                refine wp_iload_n dX12_waits_95 rfl ?_
                refine wp_iadd dX12_waits_96 ⟨by omega, by omega⟩ ?_
                refine wp_callV (as := [_, _]) (ls0 := [_, _, _]) (kc := 0) (ks := 0) (bc' := 0) (bs' := 0) dX12_waits_97 vX12_161 rfl rfl rfl (Nat.le_of_ble_eq_true rfl) (Nat.le_of_ble_eq_true rfl) (by omega) (by omega) ?_
                refine s_of (by omega) (by omega) ?_
                refine wp_ireturn dX12_waits_100 rfl ?_
                unfold aWaits at k; (repeat' split at k) <;> first | exact k | (exfalso; omega) | (rw [show N (61 * p + (28 + 0)) = 1 by omega] at k; exact k) | (rw [show N (61 * p + (28 + 0)) = 0 by omega] at k; exact k)
              · refine wp_iload dX12_waits_70 rfl ?_
                refine wp_if_eq (tgt := 87) dX12_waits_72 rfl (fun _ => ?_) (fun q => absurd q (by decide))
                refine wp_iconst dX12_waits_87 ?_
                refine wp_goto (tgt := 100) dX12_waits_88 rfl ?_
                refine wp_ireturn dX12_waits_100 rfl ?_
                unfold aWaits at k; (repeat' split at k) <;> first | exact k | (exfalso; omega) | (rw [show N (61 * p + (28 + 0)) = 1 by omega] at k; exact k) | (rw [show N (61 * p + (28 + 0)) = 0 by omega] at k; exact k)
            · refine wp_iload dX12_waits_52 rfl ?_
              refine wp_if_eq (tgt := 61) dX12_waits_54 rfl (fun _ => ?_) (fun q => absurd q (by decide))
              refine wp_iconst dX12_waits_61 ?_
              refine wp_goto (tgt := 100) dX12_waits_62 rfl ?_
              refine wp_ireturn dX12_waits_100 rfl ?_
              unfold aWaits at k; (repeat' split at k) <;> first | exact k | (exfalso; omega) | (rw [show N (61 * p + (28 + 0)) = 1 by omega] at k; exact k) | (rw [show N (61 * p + (28 + 0)) = 0 by omega] at k; exact k)
          · refine wp_iconst dX12_waits_41 ?_
            refine wp_goto (tgt := 46) dX12_waits_42 rfl ?_
            refine wp_istore (ls' := [_, _, _, _, _]) dX12_waits_46 (by decide) rfl rfl ?_
            refine wp_iload_n dX12_waits_48 rfl ?_
            refine wp_if_ne (tgt := 65) dX12_waits_49 rfl (fun h49 => ?_) (fun h49 => ?_)
            · refine wp_iload_n dX12_waits_65 rfl ?_
              refine wp_iconst dX12_waits_66 ?_
              refine wp_icmp_ne (tgt := 91) dX12_waits_67 rfl (fun h67 => ?_) (fun h67 => ?_)
              · refine wp_aload_n dX12_waits_91 rfl ?_
                refine wp_iload_n dX12_waits_92 rfl ?_
                refine wp_bipush dX12_waits_93 ?_
                refine wp_iload_n dX12_waits_95 rfl ?_
                refine wp_iadd dX12_waits_96 ⟨by omega, by omega⟩ ?_
                refine wp_callV (as := [_, _]) (ls0 := [_, _, _]) (kc := 0) (ks := 0) (bc' := 0) (bs' := 0) dX12_waits_97 vX12_161 rfl rfl rfl (Nat.le_of_ble_eq_true rfl) (Nat.le_of_ble_eq_true rfl) (by omega) (by omega) ?_
                refine s_of (by omega) (by omega) ?_
                refine wp_ireturn dX12_waits_100 rfl ?_
                unfold aWaits at k; (repeat' split at k) <;> first | exact k | (exfalso; omega) | (rw [show N (61 * p + (28 + 0)) = 1 by omega] at k; exact k) | (rw [show N (61 * p + (28 + 0)) = 0 by omega] at k; exact k)
              · refine wp_iload dX12_waits_70 rfl ?_
                refine wp_if_eq (tgt := 87) dX12_waits_72 rfl (fun q => absurd q (by decide)) (fun _ => ?_)
                refine wp_aload_n dX12_waits_75 rfl ?_
                refine wp_iload_n dX12_waits_76 rfl ?_
                refine wp_bipush dX12_waits_77 ?_
                refine wp_iload_n dX12_waits_79 rfl ?_
                refine wp_iadd dX12_waits_80 ⟨by omega, by omega⟩ ?_
                refine wp_callV (as := [_, _]) (ls0 := [_, _, _]) (kc := 0) (ks := 0) (bc' := 0) (bs' := 0) dX12_waits_81 vX12_161 rfl rfl rfl (Nat.le_of_ble_eq_true rfl) (Nat.le_of_ble_eq_true rfl) (by omega) (by omega) ?_
                refine s_of (by omega) (by omega) ?_
                refine wp_goto (tgt := 100) dX12_waits_84 rfl ?_
                refine wp_ireturn dX12_waits_100 rfl ?_
                unfold aWaits at k; (repeat' split at k) <;> first | exact k | (exfalso; omega) | (rw [show N (61 * p + (28 + 0)) = 1 by omega] at k; exact k) | (rw [show N (61 * p + (28 + 0)) = 0 by omega] at k; exact k)
            · refine wp_iload dX12_waits_52 rfl ?_
              refine wp_if_eq (tgt := 61) dX12_waits_54 rfl (fun q => absurd q (by decide)) (fun _ => ?_)
              refine wp_iconst dX12_waits_57 ?_
              refine wp_goto (tgt := 100) dX12_waits_58 rfl ?_
              refine wp_ireturn dX12_waits_100 rfl ?_
              unfold aWaits at k; (repeat' split at k) <;> first | exact k | (exfalso; omega) | (rw [show N (61 * p + (28 + 0)) = 1 by omega] at k; exact k) | (rw [show N (61 * p + (28 + 0)) = 0 by omega] at k; exact k)
        · refine wp_if_ne (tgt := 28) dX12_waits_23 rfl (fun q => absurd q (by decide)) (fun _ => ?_)
          refine wp_iconst dX12_waits_26 ?_
          refine wp_ireturn dX12_waits_27 rfl ?_
          unfold aWaits at k; (repeat' split at k) <;> first | exact k | (exfalso; omega) | (rw [show N (61 * p + (28 + 0)) = 1 by omega] at k; exact k) | (rw [show N (61 * p + (28 + 0)) = 0 by omega] at k; exact k)
      · refine wp_if_eq (tgt := 26) dX12_waits_5 rfl (fun _ => ?_) (fun q => absurd q (by decide))
        refine wp_iconst dX12_waits_26 ?_
        refine wp_ireturn dX12_waits_27 rfl ?_
        unfold aWaits at k; (repeat' split at k) <;> first | exact k | (exfalso; omega) | (rw [show N (61 * p + (28 + 0)) = 1 by omega] at k; exact k) | (rw [show N (61 * p + (28 + 0)) = 0 by omega] at k; exact k)
    · skip
      refine wp_aload_n dX12_waits_0 rfl ?_
      refine wp_iload_n dX12_waits_1 rfl ?_
      refine wp_callV (as := [_]) (ls0 := [_, _]) (kc := 0) (ks := 0) (bc' := 0) (bs' := 0) dX12_waits_2 vX12_313 rfl rfl rfl (Nat.le_of_ble_eq_true rfl) (Nat.le_of_ble_eq_true rfl) (by omega) (by omega) ?_
      refine s_isPair (by omega) (fun h2 => ?_) (fun h2 => ?_)
      · obtain ⟨hP, hI⟩ := hT2 (by omega)
        have hB := hI.1
        have hp6 : 0 ≤ p ∧ p < 6 := by omega
        have h28 := hB p (28 + 1) hp6.1 hp6.2 (by omega) (by omega)
        rw [kwai (by omega)] at h28
        refine wp_if_eq (tgt := 26) dX12_waits_5 rfl (fun q => absurd q (by decide)) (fun _ => ?_)
        refine wp_iload_n dX12_waits_8 rfl ?_
        refine wp_iconst dX12_waits_9 ?_
        refine wp_iconst dX12_waits_10 ?_
        refine wp_callS (as := [_, _, _]) (ls0 := [_, _, _]) (kc := 0) (ks := 0) (bc' := 0) (bs' := 0) dX12_waits_11 vX12_75 rfl rfl (Nat.le_of_ble_eq_true rfl) (Nat.le_of_ble_eq_true rfl) (by omega) (by omega) ?_
        refine s_in (fun _ => ?_) (fun h11 => by omega)
        refine wp_if_eq (tgt := 26) dX12_waits_14 rfl (fun q => absurd q (by decide)) (fun _ => ?_)
        refine wp_iload_n dX12_waits_17 rfl ?_
        refine wp_iconst dX12_waits_18 ?_
        refine wp_iconst dX12_waits_19 ?_
        refine wp_callS (as := [_, _, _]) (ls0 := [_, _, _]) (kc := 0) (ks := 0) (bc' := 0) (bs' := 0) dX12_waits_20 vX12_75 rfl rfl (Nat.le_of_ble_eq_true rfl) (Nat.le_of_ble_eq_true rfl) (by omega) (by omega) ?_
        refine s_in (fun h20 => ?_) (fun h20 => ?_)
        · refine wp_if_ne (tgt := 28) dX12_waits_23 rfl (fun _ => ?_) (fun q => absurd q (by decide))
          refine wp_aload_n dX12_waits_28 rfl ?_
          refine wp_iload_n dX12_waits_29 rfl ?_
          refine wp_bipush dX12_waits_30 ?_
          refine wp_iload_n dX12_waits_32 rfl ?_
          refine wp_iadd dX12_waits_33 ⟨by omega, by omega⟩ ?_
          refine wp_callV (as := [_, _]) (ls0 := [_, _, _]) (kc := 0) (ks := 0) (bc' := 0) (bs' := 0) dX12_waits_34 vX12_161 rfl rfl rfl (Nat.le_of_ble_eq_true rfl) (Nat.le_of_ble_eq_true rfl) (by omega) (by omega) ?_
          refine s_of (by omega) (by omega) ?_
          refine wp_iconst dX12_waits_37 ?_
          refine wp_icmp_ne (tgt := 45) dX12_waits_38 rfl (fun h38 => ?_) (fun h38 => ?_)
          · refine wp_iconst dX12_waits_45 ?_
            refine wp_istore (ls' := [_, _, _, _, _]) dX12_waits_46 (by decide) rfl rfl ?_
            refine wp_iload_n dX12_waits_48 rfl ?_
            refine wp_if_ne (tgt := 65) dX12_waits_49 rfl (fun h49 => ?_) (fun h49 => ?_)
            · refine wp_iload_n dX12_waits_65 rfl ?_
              refine wp_iconst dX12_waits_66 ?_
              refine wp_icmp_ne (tgt := 91) dX12_waits_67 rfl (fun h67 => ?_) (fun h67 => ?_)
              · refine wp_aload_n dX12_waits_91 rfl ?_
                refine wp_iload_n dX12_waits_92 rfl ?_
                refine wp_bipush dX12_waits_93 ?_
                refine wp_iload_n dX12_waits_95 rfl ?_
                refine wp_iadd dX12_waits_96 ⟨by omega, by omega⟩ ?_
                refine wp_callV (as := [_, _]) (ls0 := [_, _, _]) (kc := 0) (ks := 0) (bc' := 0) (bs' := 0) dX12_waits_97 vX12_161 rfl rfl rfl (Nat.le_of_ble_eq_true rfl) (Nat.le_of_ble_eq_true rfl) (by omega) (by omega) ?_
                refine s_of (by omega) (by omega) ?_
                refine wp_ireturn dX12_waits_100 rfl ?_
                unfold aWaits at k; (repeat' split at k) <;> first | exact k | (exfalso; omega) | (rw [show N (61 * p + (28 + 1)) = 1 by omega] at k; exact k) | (rw [show N (61 * p + (28 + 1)) = 0 by omega] at k; exact k)
              · refine wp_iload dX12_waits_70 rfl ?_
                refine wp_if_eq (tgt := 87) dX12_waits_72 rfl (fun _ => ?_) (fun q => absurd q (by decide))
                refine wp_iconst dX12_waits_87 ?_
                refine wp_goto (tgt := 100) dX12_waits_88 rfl ?_
                refine wp_ireturn dX12_waits_100 rfl ?_
                unfold aWaits at k; (repeat' split at k) <;> first | exact k | (exfalso; omega) | (rw [show N (61 * p + (28 + 1)) = 1 by omega] at k; exact k) | (rw [show N (61 * p + (28 + 1)) = 0 by omega] at k; exact k)
            · refine wp_iload dX12_waits_52 rfl ?_
              refine wp_if_eq (tgt := 61) dX12_waits_54 rfl (fun _ => ?_) (fun q => absurd q (by decide))
              refine wp_iconst dX12_waits_61 ?_
              refine wp_goto (tgt := 100) dX12_waits_62 rfl ?_
              refine wp_ireturn dX12_waits_100 rfl ?_
              unfold aWaits at k; (repeat' split at k) <;> first | exact k | (exfalso; omega) | (rw [show N (61 * p + (28 + 1)) = 1 by omega] at k; exact k) | (rw [show N (61 * p + (28 + 1)) = 0 by omega] at k; exact k)
          · refine wp_iconst dX12_waits_41 ?_
            refine wp_goto (tgt := 46) dX12_waits_42 rfl ?_
            refine wp_istore (ls' := [_, _, _, _, _]) dX12_waits_46 (by decide) rfl rfl ?_
            refine wp_iload_n dX12_waits_48 rfl ?_
            refine wp_if_ne (tgt := 65) dX12_waits_49 rfl (fun h49 => ?_) (fun h49 => ?_)
            · refine wp_iload_n dX12_waits_65 rfl ?_
              refine wp_iconst dX12_waits_66 ?_
              refine wp_icmp_ne (tgt := 91) dX12_waits_67 rfl (fun h67 => ?_) (fun h67 => ?_)
              · refine wp_aload_n dX12_waits_91 rfl ?_
                refine wp_iload_n dX12_waits_92 rfl ?_
                refine wp_bipush dX12_waits_93 ?_
                refine wp_iload_n dX12_waits_95 rfl ?_
                refine wp_iadd dX12_waits_96 ⟨by omega, by omega⟩ ?_
                refine wp_callV (as := [_, _]) (ls0 := [_, _, _]) (kc := 0) (ks := 0) (bc' := 0) (bs' := 0) dX12_waits_97 vX12_161 rfl rfl rfl (Nat.le_of_ble_eq_true rfl) (Nat.le_of_ble_eq_true rfl) (by omega) (by omega) ?_
                refine s_of (by omega) (by omega) ?_
                refine wp_ireturn dX12_waits_100 rfl ?_
                unfold aWaits at k; (repeat' split at k) <;> first | exact k | (exfalso; omega) | (rw [show N (61 * p + (28 + 1)) = 1 by omega] at k; exact k) | (rw [show N (61 * p + (28 + 1)) = 0 by omega] at k; exact k)
              · refine wp_iload dX12_waits_70 rfl ?_
                refine wp_if_eq (tgt := 87) dX12_waits_72 rfl (fun q => absurd q (by decide)) (fun _ => ?_)
                refine wp_aload_n dX12_waits_75 rfl ?_
                refine wp_iload_n dX12_waits_76 rfl ?_
                refine wp_bipush dX12_waits_77 ?_
                refine wp_iload_n dX12_waits_79 rfl ?_
                refine wp_iadd dX12_waits_80 ⟨by omega, by omega⟩ ?_
                refine wp_callV (as := [_, _]) (ls0 := [_, _, _]) (kc := 0) (ks := 0) (bc' := 0) (bs' := 0) dX12_waits_81 vX12_161 rfl rfl rfl (Nat.le_of_ble_eq_true rfl) (Nat.le_of_ble_eq_true rfl) (by omega) (by omega) ?_
                refine s_of (by omega) (by omega) ?_
                refine wp_goto (tgt := 100) dX12_waits_84 rfl ?_
                refine wp_ireturn dX12_waits_100 rfl ?_
                unfold aWaits at k; (repeat' split at k) <;> first | exact k | (exfalso; omega) | (rw [show N (61 * p + (28 + 1)) = 1 by omega] at k; exact k) | (rw [show N (61 * p + (28 + 1)) = 0 by omega] at k; exact k)
            · refine wp_iload dX12_waits_52 rfl ?_
              refine wp_if_eq (tgt := 61) dX12_waits_54 rfl (fun q => absurd q (by decide)) (fun _ => ?_)
              refine wp_iconst dX12_waits_57 ?_
              refine wp_goto (tgt := 100) dX12_waits_58 rfl ?_
              refine wp_ireturn dX12_waits_100 rfl ?_
              unfold aWaits at k; (repeat' split at k) <;> first | exact k | (exfalso; omega) | (rw [show N (61 * p + (28 + 1)) = 1 by omega] at k; exact k) | (rw [show N (61 * p + (28 + 1)) = 0 by omega] at k; exact k)
        · refine wp_if_ne (tgt := 28) dX12_waits_23 rfl (fun q => absurd q (by decide)) (fun _ => ?_)
          refine wp_iconst dX12_waits_26 ?_
          refine wp_ireturn dX12_waits_27 rfl ?_
          unfold aWaits at k; (repeat' split at k) <;> first | exact k | (exfalso; omega) | (rw [show N (61 * p + (28 + 1)) = 1 by omega] at k; exact k) | (rw [show N (61 * p + (28 + 1)) = 0 by omega] at k; exact k)
      · refine wp_if_eq (tgt := 26) dX12_waits_5 rfl (fun _ => ?_) (fun q => absurd q (by decide))
        refine wp_iconst dX12_waits_26 ?_
        refine wp_ireturn dX12_waits_27 rfl ?_
        unfold aWaits at k; (repeat' split at k) <;> first | exact k | (exfalso; omega) | (rw [show N (61 * p + (28 + 1)) = 1 by omega] at k; exact k) | (rw [show N (61 * p + (28 + 1)) = 0 by omega] at k; exact k)
  · refine wp_aload_n dX12_waits_0 rfl ?_
    refine wp_iload_n dX12_waits_1 rfl ?_
    refine wp_callV (as := [_]) (ls0 := [_, _]) (kc := 0) (ks := 0) (bc' := 0) (bs' := 0) dX12_waits_2 vX12_313 rfl rfl rfl (Nat.le_of_ble_eq_true rfl) (Nat.le_of_ble_eq_true rfl) (by omega) (by omega) ?_
    refine s_isPair (by omega) (fun h2 => ?_) (fun h2 => ?_)
    · refine wp_if_eq (tgt := 26) dX12_waits_5 rfl (fun q => absurd q (by decide)) (fun _ => ?_)
      refine wp_iload_n dX12_waits_8 rfl ?_
      refine wp_iconst dX12_waits_9 ?_
      refine wp_iconst dX12_waits_10 ?_
      refine wp_callS (as := [_, _, _]) (ls0 := [_, _, _]) (kc := 0) (ks := 0) (bc' := 0) (bs' := 0) dX12_waits_11 vX12_75 rfl rfl (Nat.le_of_ble_eq_true rfl) (Nat.le_of_ble_eq_true rfl) (by omega) (by omega) ?_
      refine s_in (fun h11 => by omega) (fun h11 => ?_)
      refine wp_if_eq (tgt := 26) dX12_waits_14 rfl (fun _ => ?_) (fun q => absurd q (by decide))
      refine wp_iconst dX12_waits_26 ?_
      refine wp_ireturn dX12_waits_27 rfl ?_
      unfold aWaits at k; (repeat' split at k) <;> first | exact k | (exfalso; omega)
    · refine wp_if_eq (tgt := 26) dX12_waits_5 rfl (fun _ => ?_) (fun q => absurd q (by decide))
      refine wp_iconst dX12_waits_26 ?_
      refine wp_ireturn dX12_waits_27 rfl ?_
      unfold aWaits at k; (repeat' split at k) <;> first | exact k | (exfalso; omega)
theorem s_letter {p w : Int} (hT : Tld iv F N) (k : R (some (aI (aLetter F N p w))) SHR (ST iv F N G O T S) lw RVR) : wp (d + 2) mX12_letter 0 [some (aR 0), some (aI p), some (aI w)] [] SHR (ST iv F N G O T S) lw RVR 0 0 R := by
  obtain ⟨hr, hP2, h9, h8, hc, h25, hT2⟩ := id hT
  refine wp_aload_n dX12_letter_0 rfl ?_
  refine wp_iload_n dX12_letter_1 rfl ?_
  refine wp_callV (as := [_]) (ls0 := [_, _]) (kc := 0) (ks := 0) (bc' := 0) (bs' := 0) dX12_letter_2 vX12_313 rfl rfl rfl (Nat.le_of_ble_eq_true rfl) (Nat.le_of_ble_eq_true rfl) (by omega) (by omega) ?_
  refine s_isPair (by omega) (fun h2 => ?_) (fun h2 => ?_)
  · obtain ⟨hP, hI⟩ := hT2 (by omega)
    have hB := hI.1
    have h48 := hB.v48 (p := p) (by omega)
    refine wp_if_eq (tgt := 28) dX12_letter_5 rfl (fun q => absurd q (by decide)) (fun _ => ?_)
    refine wp_aload_n dX12_letter_8 rfl ?_
    refine wp_iload_n dX12_letter_9 rfl ?_
    refine wp_bipush dX12_letter_10 ?_
    refine wp_callV (as := [_, _]) (ls0 := [_, _, _]) (kc := 0) (ks := 0) (bc' := 0) (bs' := 0) dX12_letter_12 vX12_161 rfl rfl rfl (Nat.le_of_ble_eq_true rfl) (Nat.le_of_ble_eq_true rfl) (by omega) (by omega) ?_
    refine s_of (by omega) (by omega) ?_
    refine wp_if_eq (tgt := 28) dX12_letter_15 rfl (fun h15 => ?_) (fun h15 => ?_)
    · refine wp_iconst dX12_letter_28 ?_
      refine wp_ireturn dX12_letter_29 rfl ?_
      unfold aLetter at k; (repeat' split at k) <;> first | exact k | (exfalso; omega) | (rw [show (50 : Int) + w - 6 = 50 + (w - 6) by omega]; exact k)
    · refine wp_iload_n dX12_letter_18 rfl ?_
      refine wp_iconst dX12_letter_19 ?_
      refine wp_bipush dX12_letter_20 ?_
      refine wp_callS (as := [_, _, _]) (ls0 := [_, _, _]) (kc := 0) (ks := 0) (bc' := 0) (bs' := 0) dX12_letter_22 vX12_75 rfl rfl (Nat.le_of_ble_eq_true rfl) (Nat.le_of_ble_eq_true rfl) (by omega) (by omega) ?_
      refine s_in (fun h22 => ?_) (fun h22 => ?_)
      · refine wp_if_ne (tgt := 30) dX12_letter_25 rfl (fun _ => ?_) (fun q => absurd q (by decide))
        refine wp_iload_n dX12_letter_30 rfl ?_
        rcases (by omega : w = 0 ∨ w = 1 ∨ w = 2 ∨ w = 3 ∨ w = 4 ∨ w = 5 ∨ (w < 0 ∨ 5 < w)) with h31 | h31 | h31 | h31 | h31 | h31 | h31
        · refine wp_tswIn (tgt := 68) dX12_letter_31 (by omega) (by omega) (by rw [h31]; rfl) rfl ?_
          refine wp_aload_n dX12_letter_68 rfl ?_
          refine wp_iload_n dX12_letter_69 rfl ?_
          refine wp_bipush dX12_letter_70 ?_
          refine wp_callV (as := [_, _]) (ls0 := [_, _, _]) (kc := 0) (ks := 0) (bc' := 0) (bs' := 0) dX12_letter_72 vX12_161 rfl rfl rfl (Nat.le_of_ble_eq_true rfl) (Nat.le_of_ble_eq_true rfl) (by omega) (by omega) ?_
          refine s_of (by omega) (by omega) ?_
          refine wp_ireturn dX12_letter_75 rfl ?_
          unfold aLetter at k; (repeat' split at k) <;> first | exact k | (exfalso; omega) | (rw [show (50 : Int) + w - 6 = 50 + (w - 6) by omega]; exact k)
        · refine wp_tswIn (tgt := 76) dX12_letter_31 (by omega) (by omega) (by rw [h31]; rfl) rfl ?_
          refine wp_aload_n dX12_letter_76 rfl ?_
          refine wp_iload_n dX12_letter_77 rfl ?_
          refine wp_bipush dX12_letter_78 ?_
          refine wp_callV (as := [_, _]) (ls0 := [_, _, _]) (kc := 0) (ks := 0) (bc' := 0) (bs' := 0) dX12_letter_80 vX12_161 rfl rfl rfl (Nat.le_of_ble_eq_true rfl) (Nat.le_of_ble_eq_true rfl) (by omega) (by omega) ?_
          refine s_of (by omega) (by omega) ?_
          refine wp_ireturn dX12_letter_83 rfl ?_
          unfold aLetter at k; (repeat' split at k) <;> first | exact k | (exfalso; omega) | (rw [show (50 : Int) + w - 6 = 50 + (w - 6) by omega]; exact k)
        · refine wp_tswIn (tgt := 84) dX12_letter_31 (by omega) (by omega) (by rw [h31]; rfl) rfl ?_
          refine wp_aload_n dX12_letter_84 rfl ?_
          refine wp_iload_n dX12_letter_85 rfl ?_
          refine wp_bipush dX12_letter_86 ?_
          refine wp_callV (as := [_, _]) (ls0 := [_, _, _]) (kc := 0) (ks := 0) (bc' := 0) (bs' := 0) dX12_letter_88 vX12_161 rfl rfl rfl (Nat.le_of_ble_eq_true rfl) (Nat.le_of_ble_eq_true rfl) (by omega) (by omega) ?_
          refine s_of (by omega) (by omega) ?_
          refine wp_ireturn dX12_letter_91 rfl ?_
          unfold aLetter at k; (repeat' split at k) <;> first | exact k | (exfalso; omega) | (rw [show (50 : Int) + w - 6 = 50 + (w - 6) by omega]; exact k)
        · refine wp_tswIn (tgt := 92) dX12_letter_31 (by omega) (by omega) (by rw [h31]; rfl) rfl ?_
          refine wp_aload_n dX12_letter_92 rfl ?_
          refine wp_iload_n dX12_letter_93 rfl ?_
          refine wp_bipush dX12_letter_94 ?_
          refine wp_callV (as := [_, _]) (ls0 := [_, _, _]) (kc := 0) (ks := 0) (bc' := 0) (bs' := 0) dX12_letter_96 vX12_161 rfl rfl rfl (Nat.le_of_ble_eq_true rfl) (Nat.le_of_ble_eq_true rfl) (by omega) (by omega) ?_
          refine s_of (by omega) (by omega) ?_
          refine wp_ireturn dX12_letter_99 rfl ?_
          unfold aLetter at k; (repeat' split at k) <;> first | exact k | (exfalso; omega) | (rw [show (50 : Int) + w - 6 = 50 + (w - 6) by omega]; exact k)
        · refine wp_tswIn (tgt := 100) dX12_letter_31 (by omega) (by omega) (by rw [h31]; rfl) rfl ?_
          refine wp_aload_n dX12_letter_100 rfl ?_
          refine wp_iload_n dX12_letter_101 rfl ?_
          refine wp_bipush dX12_letter_102 ?_
          refine wp_callV (as := [_, _]) (ls0 := [_, _, _]) (kc := 0) (ks := 0) (bc' := 0) (bs' := 0) dX12_letter_104 vX12_161 rfl rfl rfl (Nat.le_of_ble_eq_true rfl) (Nat.le_of_ble_eq_true rfl) (by omega) (by omega) ?_
          refine s_of (by omega) (by omega) ?_
          refine wp_ireturn dX12_letter_107 rfl ?_
          unfold aLetter at k; (repeat' split at k) <;> first | exact k | (exfalso; omega) | (rw [show (50 : Int) + w - 6 = 50 + (w - 6) by omega]; exact k)
        · refine wp_tswIn (tgt := 108) dX12_letter_31 (by omega) (by omega) (by rw [h31]; rfl) rfl ?_
          refine wp_aload_n dX12_letter_108 rfl ?_
          refine wp_iload_n dX12_letter_109 rfl ?_
          refine wp_bipush dX12_letter_110 ?_
          refine wp_callV (as := [_, _]) (ls0 := [_, _, _]) (kc := 0) (ks := 0) (bc' := 0) (bs' := 0) dX12_letter_112 vX12_161 rfl rfl rfl (Nat.le_of_ble_eq_true rfl) (Nat.le_of_ble_eq_true rfl) (by omega) (by omega) ?_
          refine s_of (by omega) (by omega) ?_
          refine wp_ireturn dX12_letter_115 rfl ?_
          unfold aLetter at k; (repeat' split at k) <;> first | exact k | (exfalso; omega) | (rw [show (50 : Int) + w - 6 = 50 + (w - 6) by omega]; exact k)
        · refine wp_tswOut (tgt := 116) dX12_letter_31 (by omega) rfl ?_
          refine wp_iload_n dX12_letter_116 rfl ?_
          refine wp_bipush dX12_letter_117 ?_
          refine wp_isub dX12_letter_119 ⟨by omega, by omega⟩ ?_
          refine wp_aload_n dX12_letter_120 rfl ?_
          refine wp_iload_n dX12_letter_121 rfl ?_
          refine wp_bipush dX12_letter_122 ?_
          refine wp_callV (as := [_, _]) (ls0 := [_, _, _]) (kc := 0) (ks := 0) (bc' := 0) (bs' := 0) dX12_letter_124 vX12_161 rfl rfl rfl (Nat.le_of_ble_eq_true rfl) (Nat.le_of_ble_eq_true rfl) (by omega) (by omega) ?_
          refine s_of (by omega) (by omega) ?_
          refine wp_icmp_ge (tgt := 145) dX12_letter_127 rfl (fun h127 => ?_) (fun h127 => ?_)
          · refine wp_iconst dX12_letter_145 ?_
            refine wp_ireturn dX12_letter_146 rfl ?_
            unfold aLetter at k; (repeat' split at k) <;> first | exact k | (exfalso; omega) | (rw [show (50 : Int) + w - 6 = 50 + (w - 6) by omega]; exact k)
          · refine wp_aload_n dX12_letter_130 rfl ?_
            refine wp_iload_n dX12_letter_131 rfl ?_
            refine wp_bipush dX12_letter_132 ?_
            refine wp_iload_n dX12_letter_134 rfl ?_
            refine wp_iadd dX12_letter_135 ⟨by omega, by omega⟩ ?_
            refine wp_bipush dX12_letter_136 ?_
            refine wp_isub dX12_letter_138 ⟨by omega, by omega⟩ ?_
            refine wp_callV (as := [_, _]) (ls0 := [_, _, _]) (kc := 0) (ks := 0) (bc' := 0) (bs' := 0) dX12_letter_139 vX12_161 rfl rfl rfl (Nat.le_of_ble_eq_true rfl) (Nat.le_of_ble_eq_true rfl) (by omega) (by omega) ?_
            refine s_of (by omega) (by omega) ?_
            refine wp_goto (tgt := 146) dX12_letter_142 rfl ?_
            refine wp_ireturn dX12_letter_146 rfl ?_
            unfold aLetter at k; (repeat' split at k) <;> first | exact k | (exfalso; omega) | (rw [show (50 : Int) + w - 6 = 50 + (w - 6) by omega]; exact k)
      · refine wp_if_ne (tgt := 30) dX12_letter_25 rfl (fun q => absurd q (by decide)) (fun _ => ?_)
        refine wp_iconst dX12_letter_28 ?_
        refine wp_ireturn dX12_letter_29 rfl ?_
        unfold aLetter at k; (repeat' split at k) <;> first | exact k | (exfalso; omega) | (rw [show (50 : Int) + w - 6 = 50 + (w - 6) by omega]; exact k)
  · refine wp_if_eq (tgt := 28) dX12_letter_5 rfl (fun _ => ?_) (fun q => absurd q (by decide))
    refine wp_iconst dX12_letter_28 ?_
    refine wp_ireturn dX12_letter_29 rfl ?_
    unfold aLetter at k; (repeat' split at k) <;> first | exact k | (exfalso; omega) | (rw [show (50 : Int) + w - 6 = 50 + (w - 6) by omega]; exact k)
theorem s_isCell {c : Int} (hT : Tld iv F N) (kt : okC iv F c → R (some (aI 1)) SHR (ST iv F N G O T S) lw RVR) (kf : ¬ okC iv F c → R (some (aI 0)) SHR (ST iv F N G O T S) lw RVR) : wp (d + 1) mX12_isCell 0 [some (aR 0), some (aI c)] [] SHR (ST iv F N G O T S) lw RVR 0 0 R := by
  obtain ⟨hr, hP2, h9, h8, hc, h25, hT2⟩ := id hT
  refine wp_aload_n dX12_isCell_0 rfl ?_
  refine wp_getI dX12_isCell_1 fX12_138 rfl ?_
  try simp only [ST0, ST5, ST6, ST7, ST8, ST10, ST11, ST12, ST13]
  refine wp_if_le (tgt := 43) dX12_isCell_4 rfl (fun h4 => ?_) (fun h4 => ?_)
  · refine wp_iconst dX12_isCell_43 ?_
    refine wp_zreturn dX12_isCell_44 rfl (Or.inl rfl) ?_
    exact kf (by unfold okC; omega)
  · obtain ⟨hP, hI⟩ := hT2 (by omega)
    obtain ⟨hW1, hW2, hO1, hO2, hT1, hT2, hI1, hI2, hF1, hF2⟩ := id hP
    refine wp_iload_n dX12_isCell_7 rfl ?_
    refine wp_iconst dX12_isCell_8 ?_
    refine wp_bipush dX12_isCell_9 ?_
    refine wp_aload_n dX12_isCell_11 rfl ?_
    refine wp_getR rfl dX12_isCell_12 fX12_22 rfl ?_
    refine wp_iconst dX12_isCell_15 ?_
    refine wp_iald dX12_isCell_16 rfl (by omega) (by omega) ?_
    try simp only [ST0, ST5, ST6, ST7, ST8, ST10, ST11, ST12, ST13]
    refine wp_imul dX12_isCell_17 ⟨by omega, by omega⟩ ?_
    refine wp_iconst dX12_isCell_18 ?_
    refine wp_isub dX12_isCell_19 ⟨by omega, by omega⟩ ?_
    refine wp_callS (as := [_, _, _]) (ls0 := [_, _, _]) (kc := 0) (ks := 0) (bc' := 0) (bs' := 0) dX12_isCell_20 vX12_75 rfl rfl (Nat.le_of_ble_eq_true rfl) (Nat.le_of_ble_eq_true rfl) (by omega) (by omega) ?_
    refine s_in (fun h20 => ?_) (fun h20 => ?_)
    · refine wp_if_eq (tgt := 43) dX12_isCell_23 rfl (fun q => absurd q (by decide)) (fun _ => ?_)
      refine wp_iload_n dX12_isCell_26 rfl ?_
      refine wp_bipush dX12_isCell_27 ?_
      refine wp_irem dX12_isCell_29 (by omega) (by omega) ?_
      refine wp_aload_n dX12_isCell_30 rfl ?_
      refine wp_getR rfl dX12_isCell_31 fX12_22 rfl ?_
      refine wp_iconst dX12_isCell_34 ?_
      refine wp_iald dX12_isCell_35 rfl (by omega) (by omega) ?_
      try simp only [ST0, ST5, ST6, ST7, ST8, ST10, ST11, ST12, ST13]
      refine wp_icmp_ge (tgt := 43) dX12_isCell_36 rfl (fun h36 => ?_) (fun h36 => ?_)
      · refine wp_iconst dX12_isCell_43 ?_
        refine wp_zreturn dX12_isCell_44 rfl (Or.inl rfl) ?_
        exact kf (by unfold okC; omega)
      · refine wp_iconst dX12_isCell_39 ?_
        refine wp_goto (tgt := 44) dX12_isCell_40 rfl ?_
        refine wp_zreturn dX12_isCell_44 rfl (Or.inr rfl) ?_
        exact kt (by unfold okC; omega)
    · refine wp_if_eq (tgt := 43) dX12_isCell_23 rfl (fun _ => ?_) (fun q => absurd q (by decide))
      refine wp_iconst dX12_isCell_43 ?_
      refine wp_zreturn dX12_isCell_44 rfl (Or.inl rfl) ?_
      exact kf (by unfold okC; omega)
theorem s_channel {fr c : Int} (hT : Tld iv F N) (k : R (some (aI (aChan iv F fr c))) SHR (ST iv F N G O T S) lw RVR) : wp (d + 2) mX12_channel 0 [some (aR 0), some (aI fr), some (aI c)] [] SHR (ST iv F N G O T S) lw RVR 0 0 R := by
  obtain ⟨hr, hP2, h9, h8, hc, h25, hT2⟩ := id hT
  refine wp_aload_n dX12_channel_0 rfl ?_
  refine wp_iload_n dX12_channel_1 rfl ?_
  refine wp_callV (as := [_]) (ls0 := [_, _]) (kc := 0) (ks := 0) (bc' := 0) (bs' := 0) dX12_channel_2 vX12_316 rfl rfl rfl (Nat.le_of_ble_eq_true rfl) (Nat.le_of_ble_eq_true rfl) (by omega) (by omega) ?_
  refine s_isCell hT (fun h2 => ?_) (fun h2 => ?_)
  · refine wp_if_eq (tgt := 28) dX12_channel_5 rfl (fun q => absurd q (by decide)) (fun _ => ?_)
    refine wp_iload_n dX12_channel_8 rfl ?_
    refine wp_iconst dX12_channel_9 ?_
    refine wp_sipush dX12_channel_10 ?_
    refine wp_callS (as := [_, _, _]) (ls0 := [_, _, _]) (kc := 0) (ks := 0) (bc' := 0) (bs' := 0) dX12_channel_13 vX12_75 rfl rfl (Nat.le_of_ble_eq_true rfl) (Nat.le_of_ble_eq_true rfl) (by omega) (by omega) ?_
    refine s_in (fun h13 => ?_) (fun h13 => ?_)
    · refine wp_if_eq (tgt := 28) dX12_channel_16 rfl (fun q => absurd q (by decide)) (fun _ => ?_)
      refine wp_aload_n dX12_channel_19 rfl ?_
      refine wp_iload_n dX12_channel_20 rfl ?_
      refine wp_iload_n dX12_channel_21 rfl ?_
      refine wp_callV (as := [_, _]) (ls0 := [_, _, _, _]) (kc := 0) (ks := 0) (bc' := 0) (bs' := 0) dX12_channel_22 vX12_268 rfl rfl rfl (Nat.le_of_ble_eq_true rfl) (Nat.le_of_ble_eq_true rfl) (by omega) (by omega) ?_
      have hk2 := h2
      obtain ⟨hP, hI⟩ := hT2 h2.1
      obtain ⟨hW1, hW2, hO1, hO2, hT1, hT2, hI1, hI2, hF1, hF2⟩ := id hP
      unfold okC at h2
      refine s_channelOf hP hP2 (by omega) (by omega) ?_
      refine wp_goto (tgt := 29) dX12_channel_25 rfl ?_
      refine wp_ireturn dX12_channel_29 rfl ?_
      unfold aChan at k; first | (rw [if_pos ⟨hk2, by omega⟩] at k; exact k) | (rw [if_neg (fun z => h13 z.2)] at k; exact k) | (rw [if_neg (fun z => h2 z.1)] at k; exact k)
    · refine wp_if_eq (tgt := 28) dX12_channel_16 rfl (fun _ => ?_) (fun q => absurd q (by decide))
      refine wp_iconst dX12_channel_28 ?_
      refine wp_ireturn dX12_channel_29 rfl ?_
      unfold aChan at k; first | (rw [if_pos ⟨hk2, by omega⟩] at k; exact k) | (rw [if_neg (fun z => h13 z.2)] at k; exact k) | (rw [if_neg (fun z => h2 z.1)] at k; exact k)
  · refine wp_if_eq (tgt := 28) dX12_channel_5 rfl (fun _ => ?_) (fun q => absurd q (by decide))
    refine wp_iconst dX12_channel_28 ?_
    refine wp_ireturn dX12_channel_29 rfl ?_
    unfold aChan at k; first | (rw [if_pos ⟨hk2, by omega⟩] at k; exact k) | (rw [if_neg (fun z => h13 z.2)] at k; exact k) | (rw [if_neg (fun z => h2 z.1)] at k; exact k)
theorem s_loss {v : Int} (kt : (0 ≤ v ∧ v ≤ 9) ∧ ¬ v = F 17 → R (some (aI 1)) SHR (ST iv (up F 17 v) N G O T S) lw RVR) (kf : ¬ ((0 ≤ v ∧ v ≤ 9) ∧ ¬ v = F 17) → R (some (aI 0)) SHR (ST iv F N G O T S) lw RVR) : wp (d + 1) mX12_loss 0 [some (aR 0), some (aI v)] [] SHR (ST iv F N G O T S) lw RVR 0 0 R := by
  refine wp_iload_n dX12_loss_0 rfl ?_
  refine wp_iconst dX12_loss_1 ?_
  refine wp_bipush dX12_loss_2 ?_
  refine wp_callS (as := [_, _, _]) (ls0 := [_, _, _]) (kc := 0) (ks := 0) (bc' := 0) (bs' := 0) dX12_loss_4 vX12_75 rfl rfl (Nat.le_of_ble_eq_true rfl) (Nat.le_of_ble_eq_true rfl) (by omega) (by omega) ?_
  refine s_in (fun h4 => ?_) (fun h4 => ?_)
  · refine wp_if_eq (tgt := 18) dX12_loss_7 rfl (fun q => absurd q (by decide)) (fun _ => ?_)
    refine wp_iload_n dX12_loss_10 rfl ?_
    refine wp_aload_n dX12_loss_11 rfl ?_
    refine wp_getI dX12_loss_12 fX12_37 rfl ?_
    try simp only [ST0, ST5, ST6, ST7, ST8, ST10, ST11, ST12, ST13]
    refine wp_icmp_ne (tgt := 20) dX12_loss_15 rfl (fun h15 => ?_) (fun h15 => ?_)
    · refine wp_aload_n dX12_loss_20 rfl ?_
      refine wp_iload_n dX12_loss_21 rfl ?_
      refine wp_putI dX12_loss_22 fX12_37 rfl ?_
      try simp only [STu0, STu8, STu10, STu11, STu12, STu13]
      refine wp_iconst dX12_loss_25 ?_
      refine wp_zreturn dX12_loss_26 rfl (Or.inr rfl) ?_
      exact kt (by omega)
    · refine wp_iconst dX12_loss_18 ?_
      refine wp_zreturn dX12_loss_19 rfl (Or.inl rfl) ?_
      exact kf (by omega)
  · refine wp_if_eq (tgt := 18) dX12_loss_7 rfl (fun _ => ?_) (fun q => absurd q (by decide))
    refine wp_iconst dX12_loss_18 ?_
    refine wp_zreturn dX12_loss_19 rfl (Or.inl rfl) ?_
    exact kf (by omega)
theorem s_status {w : Int} (k : R (some (aI (aStat iv w))) SHR (ST iv F N G O T S) lw RVR) : wp (d + 1) mX12_status 0 [some (aR 0), some (aI w)] [] SHR (ST iv F N G O T S) lw RVR 0 0 R := by
  refine wp_iload_n dX12_status_0 rfl ?_
  refine wp_iconst dX12_status_1 ?_
  refine wp_iconst dX12_status_2 ?_
  refine wp_callS (as := [_, _, _]) (ls0 := [_, _, _]) (kc := 0) (ks := 0) (bc' := 0) (bs' := 0) dX12_status_3 vX12_75 rfl rfl (Nat.le_of_ble_eq_true rfl) (Nat.le_of_ble_eq_true rfl) (by omega) (by omega) ?_
  refine s_in (fun h3 => ?_) (fun h3 => ?_)
  · refine wp_if_eq (tgt := 18) dX12_status_6 rfl (fun q => absurd q (by decide)) (fun _ => ?_)
    refine wp_aload_n dX12_status_9 rfl ?_
    refine wp_getR rfl dX12_status_10 fX12_34 rfl ?_
    refine wp_iload_n dX12_status_13 rfl ?_
    refine wp_iald dX12_status_14 rfl (by omega) (by omega) ?_
    try simp only [ST0, ST5, ST6, ST7, ST8, ST10, ST11, ST12, ST13, ST9]
    refine wp_goto (tgt := 19) dX12_status_15 rfl ?_
    refine wp_ireturn dX12_status_19 rfl ?_
    unfold aStat at k; (repeat' split at k) <;> first | exact k | (exfalso; omega)
  · refine wp_if_eq (tgt := 18) dX12_status_6 rfl (fun _ => ?_) (fun q => absurd q (by decide))
    refine wp_iconst dX12_status_18 ?_
    refine wp_ireturn dX12_status_19 rfl ?_
    unfold aStat at k; (repeat' split at k) <;> first | exact k | (exfalso; omega)
theorem s_log {i w : Int} (hT : Tld iv F N) (k : R (some (aI (aLog N i w))) SHR (ST iv F N G O T S) lw RVR) : wp (d + 1) mX12_log 0 [some (aR 0), some (aI i), some (aI w)] [] SHR (ST iv F N G O T S) lw RVR 0 0 R := by
  obtain ⟨hr, hP2, h9, h8, hc, h25, hT2⟩ := id hT
  refine wp_iload_n dX12_log_0 rfl ?_
  refine wp_iconst dX12_log_1 ?_
  refine wp_aload_n dX12_log_2 rfl ?_
  refine wp_getR rfl dX12_log_3 fX12_31 rfl ?_
  refine wp_sipush dX12_log_6 ?_
  refine wp_iald dX12_log_9 rfl (by omega) (by omega) ?_
  try simp only [ST0, ST5, ST6, ST7, ST8, ST10, ST11, ST12, ST13]
  refine wp_iconst dX12_log_10 ?_
  refine wp_isub dX12_log_11 ⟨by omega, by omega⟩ ?_
  refine wp_callS (as := [_, _, _]) (ls0 := [_, _, _]) (kc := 0) (ks := 0) (bc' := 0) (bs' := 0) dX12_log_12 vX12_75 rfl rfl (Nat.le_of_ble_eq_true rfl) (Nat.le_of_ble_eq_true rfl) (by omega) (by omega) ?_
  refine s_in (fun h12 => ?_) (fun h12 => ?_)
  · refine wp_if_eq (tgt := 55) dX12_log_15 rfl (fun q => absurd q (by decide)) (fun _ => ?_)
    refine wp_iload_n dX12_log_18 rfl ?_
    refine wp_iconst dX12_log_19 ?_
    refine wp_iconst dX12_log_20 ?_
    refine wp_callS (as := [_, _, _]) (ls0 := [_, _, _]) (kc := 0) (ks := 0) (bc' := 0) (bs' := 0) dX12_log_21 vX12_75 rfl rfl (Nat.le_of_ble_eq_true rfl) (Nat.le_of_ble_eq_true rfl) (by omega) (by omega) ?_
    refine s_in (fun h21 => ?_) (fun h21 => ?_)
    · refine wp_if_eq (tgt := 55) dX12_log_24 rfl (fun q => absurd q (by decide)) (fun _ => ?_)
      refine wp_aload_n dX12_log_27 rfl ?_
      refine wp_getR rfl dX12_log_28 fX12_31 rfl ?_
      refine wp_sipush dX12_log_31 ?_
      refine wp_iconst dX12_log_34 ?_
      refine wp_aload_n dX12_log_35 rfl ?_
      refine wp_getR rfl dX12_log_36 fX12_31 rfl ?_
      refine wp_sipush dX12_log_39 ?_
      refine wp_iald dX12_log_42 rfl (by omega) (by omega) ?_
      try simp only [ST0, ST5, ST6, ST7, ST8, ST10, ST11, ST12, ST13]
      refine wp_iconst dX12_log_43 ?_
      refine wp_isub dX12_log_44 ⟨by omega, by omega⟩ ?_
      refine wp_iload_n dX12_log_45 rfl ?_
      refine wp_isub dX12_log_46 ⟨by omega, by omega⟩ ?_
      refine wp_imul dX12_log_47 ⟨by omega, by omega⟩ ?_
      refine wp_iadd dX12_log_48 ⟨by omega, by omega⟩ ?_
      refine wp_iload_n dX12_log_49 rfl ?_
      refine wp_iadd dX12_log_50 ⟨by omega, by omega⟩ ?_
      refine wp_iald dX12_log_51 rfl (by omega) (by omega) ?_
      try simp only [ST0, ST5, ST6, ST7, ST8, ST10, ST11, ST12, ST13]
      refine wp_goto (tgt := 56) dX12_log_52 rfl ?_
      refine wp_ireturn dX12_log_56 rfl ?_
      unfold aLog at k; (repeat' split at k) <;> first | exact k | (exfalso; omega)
    · refine wp_if_eq (tgt := 55) dX12_log_24 rfl (fun _ => ?_) (fun q => absurd q (by decide))
      refine wp_iconst dX12_log_55 ?_
      refine wp_ireturn dX12_log_56 rfl ?_
      unfold aLog at k; (repeat' split at k) <;> first | exact k | (exfalso; omega)
  · refine wp_if_eq (tgt := 55) dX12_log_15 rfl (fun _ => ?_) (fun q => absurd q (by decide))
    refine wp_iconst dX12_log_55 ?_
    refine wp_ireturn dX12_log_56 rfl ?_
    unfold aLog at k; (repeat' split at k) <;> first | exact k | (exfalso; omega)
theorem s_offer {p nd sl i : Int} (hT : Tld iv F N) (k : ∀ O', R (some (aI (aOffer iv F N p nd sl i))) SHR (ST iv F N G O' T S) lw RVR) : wp (d + 4) mX12_offer 0 [some (aR 0), some (aI p), some (aI nd), some (aI sl), some (aI i), none] [] SHR (ST iv F N G O T S) lw RVR 0 0 R := by
  obtain ⟨hr, hP2, h9, h8, hc, h25, hT2⟩ := id hT
  refine wp_aload_n dX12_offer_0 rfl ?_
  refine wp_iload_n dX12_offer_1 rfl ?_
  refine wp_callV (as := [_]) (ls0 := [_, _]) (kc := 0) (ks := 0) (bc' := 0) (bs' := 0) dX12_offer_2 vX12_313 rfl rfl rfl (Nat.le_of_ble_eq_true rfl) (Nat.le_of_ble_eq_true rfl) (by omega) (by omega) ?_
  refine s_isPair (by omega) (fun h2 => ?_) (fun h2 => ?_)
  · obtain ⟨hP, hI⟩ := hT2 (by omega)
    have hB := hI.1
    obtain ⟨hW1, hW2, hO1, hO2, hT1, hT2, hI1, hI2, hF1, hF2⟩ := id hP
    refine wp_if_eq (tgt := 50) dX12_offer_5 rfl (fun q => absurd q (by decide)) (fun _ => ?_)
    refine wp_iload_n dX12_offer_8 rfl ?_
    refine wp_aload_n dX12_offer_9 rfl ?_
    refine wp_iload_n dX12_offer_10 rfl ?_
    refine wp_iconst dX12_offer_11 ?_
    refine wp_callV (as := [_, _]) (ls0 := [_, _, _]) (kc := 0) (ks := 0) (bc' := 0) (bs' := 0) dX12_offer_12 vX12_178 rfl rfl rfl (Nat.le_of_ble_eq_true rfl) (Nat.le_of_ble_eq_true rfl) (by omega) (by omega) ?_
    refine s_nodeOf (by omega) (by omega) ?_
    refine wp_icmp_eq (tgt := 28) dX12_offer_15 rfl (fun h15 => ?_) (fun h15 => ?_)
    · refine wp_iload_n dX12_offer_28 rfl ?_
      refine wp_iconst dX12_offer_29 ?_
      refine wp_aload_n dX12_offer_30 rfl ?_
      refine wp_getR rfl dX12_offer_31 fX12_22 rfl ?_
      refine wp_iconst dX12_offer_34 ?_
      refine wp_iald dX12_offer_35 rfl (by omega) (by omega) ?_
      try simp only [ST0, ST5, ST6, ST7, ST8, ST10, ST11, ST12, ST13]
      refine wp_iconst dX12_offer_36 ?_
      refine wp_isub dX12_offer_37 ⟨by omega, by omega⟩ ?_
      refine wp_callS (as := [_, _, _]) (ls0 := [_, _, _]) (kc := 0) (ks := 0) (bc' := 0) (bs' := 0) dX12_offer_38 vX12_75 rfl rfl (Nat.le_of_ble_eq_true rfl) (Nat.le_of_ble_eq_true rfl) (by omega) (by omega) ?_
      refine s_in (fun h38 => ?_) (fun h38 => ?_)
      · refine wp_if_eq (tgt := 50) dX12_offer_41 rfl (fun q => absurd q (by decide)) (fun _ => ?_)
        refine wp_iload dX12_offer_44 rfl ?_
        refine wp_iconst dX12_offer_46 ?_
        refine wp_icmp_ge (tgt := 52) dX12_offer_47 rfl (fun h47 => ?_) (fun h47 => ?_)
        · refine wp_aload_n dX12_offer_52 rfl ?_
          refine wp_iload_n dX12_offer_53 rfl ?_
          refine wp_iload_n dX12_offer_54 rfl ?_
          refine wp_iload_n dX12_offer_55 rfl ?_
          refine wp_callV (as := [_, _, _]) (ls0 := [_, _, _, _, _, _, _]) (kc := 0) (ks := 0) (bc' := 0) (bs' := 0) dX12_offer_56 vX12_199 rfl rfl rfl (Nat.le_of_ble_eq_true rfl) (Nat.le_of_ble_eq_true rfl) (by omega) (by omega) ?_
          refine s_layOffers (by omega) hP hB (by omega) (fun O' hO => ?_)
          have hln := ofr_len (N := N) (p := p) (nd := nd) (fr := sl) hP
          refine wp_istore (ls' := [_, _, _, _, _, _]) dX12_offer_59 (by decide) rfl rfl ?_
          refine wp_iload dX12_offer_61 rfl ?_
          refine wp_iconst dX12_offer_63 ?_
          refine wp_icmp_ne (tgt := 72) dX12_offer_64 rfl (fun h64 => ?_) (fun h64 => ?_)
          · refine wp_iload dX12_offer_72 rfl ?_
            refine wp_iload dX12_offer_74 rfl ?_
            refine wp_icmp_ge (tgt := 89) dX12_offer_76 rfl (fun h76 => ?_) (fun h76 => ?_)
            · refine wp_iconst dX12_offer_89 ?_
              refine wp_ireturn dX12_offer_90 rfl ?_
              have k := k O'
              unfold aOffer at k; (repeat' split at k) <;> first | exact k | (exfalso; omega)
            · refine wp_aload_n dX12_offer_79 rfl ?_
              refine wp_getR rfl dX12_offer_80 fX12_44 rfl ?_
              refine wp_iload dX12_offer_83 rfl ?_
              refine wp_iald dX12_offer_85 rfl (by omega) (by omega) ?_
              try simp only [ST0, ST5, ST6, ST7, ST8, ST10, ST11, ST12, ST13]
              rw [hO i (by omega) (by omega)]
              refine wp_goto (tgt := 90) dX12_offer_86 rfl ?_
              refine wp_ireturn dX12_offer_90 rfl ?_
              have k := k O'
              unfold aOffer at k; (repeat' split at k) <;> first | exact k | (exfalso; omega)
          · refine wp_iload dX12_offer_67 rfl ?_
            refine wp_goto (tgt := 90) dX12_offer_69 rfl ?_
            refine wp_ireturn dX12_offer_90 rfl ?_
            have k := k O'
            unfold aOffer at k; (repeat' split at k) <;> first | exact k | (exfalso; omega)
        · refine wp_iconst dX12_offer_50 ?_
          refine wp_ireturn dX12_offer_51 rfl ?_
          have k := k O
          unfold aOffer at k; (repeat' split at k) <;> first | exact k | (exfalso; omega)
      · refine wp_if_eq (tgt := 50) dX12_offer_41 rfl (fun _ => ?_) (fun q => absurd q (by decide))
        refine wp_iconst dX12_offer_50 ?_
        refine wp_ireturn dX12_offer_51 rfl ?_
        have k := k O
        unfold aOffer at k; (repeat' split at k) <;> first | exact k | (exfalso; omega)
    · refine wp_iload_n dX12_offer_18 rfl ?_
      refine wp_aload_n dX12_offer_19 rfl ?_
      refine wp_iload_n dX12_offer_20 rfl ?_
      refine wp_iconst dX12_offer_21 ?_
      refine wp_callV (as := [_, _]) (ls0 := [_, _, _]) (kc := 0) (ks := 0) (bc' := 0) (bs' := 0) dX12_offer_22 vX12_178 rfl rfl rfl (Nat.le_of_ble_eq_true rfl) (Nat.le_of_ble_eq_true rfl) (by omega) (by omega) ?_
      refine s_nodeOf (by omega) (by omega) ?_
      refine wp_icmp_ne (tgt := 50) dX12_offer_25 rfl (fun h25 => ?_) (fun h25 => ?_)
      · refine wp_iconst dX12_offer_50 ?_
        refine wp_ireturn dX12_offer_51 rfl ?_
        have k := k O
        unfold aOffer at k; (repeat' split at k) <;> first | exact k | (exfalso; omega)
      · refine wp_iload_n dX12_offer_28 rfl ?_
        refine wp_iconst dX12_offer_29 ?_
        refine wp_aload_n dX12_offer_30 rfl ?_
        refine wp_getR rfl dX12_offer_31 fX12_22 rfl ?_
        refine wp_iconst dX12_offer_34 ?_
        refine wp_iald dX12_offer_35 rfl (by omega) (by omega) ?_
        try simp only [ST0, ST5, ST6, ST7, ST8, ST10, ST11, ST12, ST13]
        refine wp_iconst dX12_offer_36 ?_
        refine wp_isub dX12_offer_37 ⟨by omega, by omega⟩ ?_
        refine wp_callS (as := [_, _, _]) (ls0 := [_, _, _]) (kc := 0) (ks := 0) (bc' := 0) (bs' := 0) dX12_offer_38 vX12_75 rfl rfl (Nat.le_of_ble_eq_true rfl) (Nat.le_of_ble_eq_true rfl) (by omega) (by omega) ?_
        refine s_in (fun h38 => ?_) (fun h38 => ?_)
        · refine wp_if_eq (tgt := 50) dX12_offer_41 rfl (fun q => absurd q (by decide)) (fun _ => ?_)
          refine wp_iload dX12_offer_44 rfl ?_
          refine wp_iconst dX12_offer_46 ?_
          refine wp_icmp_ge (tgt := 52) dX12_offer_47 rfl (fun h47 => ?_) (fun h47 => ?_)
          · refine wp_aload_n dX12_offer_52 rfl ?_
            refine wp_iload_n dX12_offer_53 rfl ?_
            refine wp_iload_n dX12_offer_54 rfl ?_
            refine wp_iload_n dX12_offer_55 rfl ?_
            refine wp_callV (as := [_, _, _]) (ls0 := [_, _, _, _, _, _, _]) (kc := 0) (ks := 0) (bc' := 0) (bs' := 0) dX12_offer_56 vX12_199 rfl rfl rfl (Nat.le_of_ble_eq_true rfl) (Nat.le_of_ble_eq_true rfl) (by omega) (by omega) ?_
            refine s_layOffers (by omega) hP hB (by omega) (fun O' hO => ?_)
            have hln := ofr_len (N := N) (p := p) (nd := nd) (fr := sl) hP
            refine wp_istore (ls' := [_, _, _, _, _, _]) dX12_offer_59 (by decide) rfl rfl ?_
            refine wp_iload dX12_offer_61 rfl ?_
            refine wp_iconst dX12_offer_63 ?_
            refine wp_icmp_ne (tgt := 72) dX12_offer_64 rfl (fun h64 => ?_) (fun h64 => ?_)
            · refine wp_iload dX12_offer_72 rfl ?_
              refine wp_iload dX12_offer_74 rfl ?_
              refine wp_icmp_ge (tgt := 89) dX12_offer_76 rfl (fun h76 => ?_) (fun h76 => ?_)
              · refine wp_iconst dX12_offer_89 ?_
                refine wp_ireturn dX12_offer_90 rfl ?_
                have k := k O'
                unfold aOffer at k; (repeat' split at k) <;> first | exact k | (exfalso; omega)
              · refine wp_aload_n dX12_offer_79 rfl ?_
                refine wp_getR rfl dX12_offer_80 fX12_44 rfl ?_
                refine wp_iload dX12_offer_83 rfl ?_
                refine wp_iald dX12_offer_85 rfl (by omega) (by omega) ?_
                try simp only [ST0, ST5, ST6, ST7, ST8, ST10, ST11, ST12, ST13]
                rw [hO i (by omega) (by omega)]
                refine wp_goto (tgt := 90) dX12_offer_86 rfl ?_
                refine wp_ireturn dX12_offer_90 rfl ?_
                have k := k O'
                unfold aOffer at k; (repeat' split at k) <;> first | exact k | (exfalso; omega)
            · refine wp_iload dX12_offer_67 rfl ?_
              refine wp_goto (tgt := 90) dX12_offer_69 rfl ?_
              refine wp_ireturn dX12_offer_90 rfl ?_
              have k := k O'
              unfold aOffer at k; (repeat' split at k) <;> first | exact k | (exfalso; omega)
          · refine wp_iconst dX12_offer_50 ?_
            refine wp_ireturn dX12_offer_51 rfl ?_
            have k := k O
            unfold aOffer at k; (repeat' split at k) <;> first | exact k | (exfalso; omega)
        · refine wp_if_eq (tgt := 50) dX12_offer_41 rfl (fun _ => ?_) (fun q => absurd q (by decide))
          refine wp_iconst dX12_offer_50 ?_
          refine wp_ireturn dX12_offer_51 rfl ?_
          have k := k O
          unfold aOffer at k; (repeat' split at k) <;> first | exact k | (exfalso; omega)
  · refine wp_if_eq (tgt := 50) dX12_offer_5 rfl (fun _ => ?_) (fun q => absurd q (by decide))
    refine wp_iconst dX12_offer_50 ?_
    refine wp_ireturn dX12_offer_51 rfl ?_
    have k := k O
    unfold aOffer at k; (repeat' split at k) <;> first | exact k | (exfalso; omega)
theorem s_count {w : Int} (k : R (some (aI (aCount F N w))) SHR (ST iv F N G O T S) lw RVR) : wp (d) mX12_count 0 [some (aR 0), some (aI w)] [] SHR (ST iv F N G O T S) lw RVR 0 0 R := by
  refine wp_iload_n dX12_count_0 rfl ?_
  rcases (by omega : w = 0 ∨ w = 1 ∨ w = 2 ∨ w = 3 ∨ w = 4 ∨ w = 5 ∨ w = 6 ∨ (w < 0 ∨ 6 < w)) with h1 | h1 | h1 | h1 | h1 | h1 | h1 | h1
  · refine wp_tswIn (tgt := 44) dX12_count_1 (by omega) (by omega) (by rw [h1]; rfl) rfl ?_
    refine wp_aload_n dX12_count_44 rfl ?_
    refine wp_getI dX12_count_45 fX12_138 rfl ?_
    try simp only [ST0, ST5, ST6, ST7, ST8, ST10, ST11, ST12, ST13]
    refine wp_ireturn dX12_count_48 rfl ?_
    unfold aCount at k; (repeat' split at k) <;> first | exact k | (exfalso; omega)
  · refine wp_tswIn (tgt := 49) dX12_count_1 (by omega) (by omega) (by rw [h1]; rfl) rfl ?_
    refine wp_aload_n dX12_count_49 rfl ?_
    refine wp_getI dX12_count_50 fX12_152 rfl ?_
    try simp only [ST0, ST5, ST6, ST7, ST8, ST10, ST11, ST12, ST13]
    refine wp_ireturn dX12_count_53 rfl ?_
    unfold aCount at k; (repeat' split at k) <;> first | exact k | (exfalso; omega)
  · refine wp_tswIn (tgt := 54) dX12_count_1 (by omega) (by omega) (by rw [h1]; rfl) rfl ?_
    refine wp_aload_n dX12_count_54 rfl ?_
    refine wp_getI dX12_count_55 fX12_72 rfl ?_
    try simp only [ST0, ST5, ST6, ST7, ST8, ST10, ST11, ST12, ST13]
    refine wp_ireturn dX12_count_58 rfl ?_
    unfold aCount at k; (repeat' split at k) <;> first | exact k | (exfalso; omega)
  · refine wp_tswIn (tgt := 59) dX12_count_1 (by omega) (by omega) (by rw [h1]; rfl) rfl ?_
    refine wp_aload_n dX12_count_59 rfl ?_
    refine wp_getR rfl dX12_count_60 fX12_31 rfl ?_
    refine wp_sipush dX12_count_63 ?_
    refine wp_iald dX12_count_66 rfl (by omega) (by omega) ?_
    try simp only [ST0, ST5, ST6, ST7, ST8, ST10, ST11, ST12, ST13]
    refine wp_ireturn dX12_count_67 rfl ?_
    unfold aCount at k; (repeat' split at k) <;> first | exact k | (exfalso; omega)
  · refine wp_tswIn (tgt := 68) dX12_count_1 (by omega) (by omega) (by rw [h1]; rfl) rfl ?_
    refine wp_aload_n dX12_count_68 rfl ?_
    refine wp_getI dX12_count_69 fX12_37 rfl ?_
    try simp only [ST0, ST5, ST6, ST7, ST8, ST10, ST11, ST12, ST13]
    refine wp_ireturn dX12_count_72 rfl ?_
    unfold aCount at k; (repeat' split at k) <;> first | exact k | (exfalso; omega)
  · refine wp_tswIn (tgt := 73) dX12_count_1 (by omega) (by omega) (by rw [h1]; rfl) rfl ?_
    refine wp_aload_n dX12_count_73 rfl ?_
    refine wp_getR rfl dX12_count_74 fX12_31 rfl ?_
    refine wp_sipush dX12_count_77 ?_
    refine wp_iald dX12_count_80 rfl (by omega) (by omega) ?_
    try simp only [ST0, ST5, ST6, ST7, ST8, ST10, ST11, ST12, ST13]
    refine wp_ireturn dX12_count_81 rfl ?_
    unfold aCount at k; (repeat' split at k) <;> first | exact k | (exfalso; omega)
  · refine wp_tswIn (tgt := 82) dX12_count_1 (by omega) (by omega) (by rw [h1]; rfl) rfl ?_
    refine wp_aload_n dX12_count_82 rfl ?_
    refine wp_getI dX12_count_83 fX12_145 rfl ?_
    try simp only [ST0, ST5, ST6, ST7, ST8, ST10, ST11, ST12, ST13]
    refine wp_ireturn dX12_count_86 rfl ?_
    unfold aCount at k; (repeat' split at k) <;> first | exact k | (exfalso; omega)
  · refine wp_tswOut (tgt := 87) dX12_count_1 (by omega) rfl ?_
    refine wp_ldcw (v := -1000000) dX12_count_87 zX12_382 rfl ⟨by decide, by decide⟩ ?_
    refine wp_ireturn dX12_count_90 rfl ?_
    unfold aCount at k; (repeat' split at k) <;> first | exact k | (exfalso; omega)
theorem s_isAsked {kd n : Int} {sh : aSh} {rv : aP} (hk : 0 ≤ kd ∧ kd ≤ 3) (kt : asd kd n → R (some (aI 1)) sh iv lw rv) (kf : ¬ asd kd n → R (some (aI 0)) sh iv lw rv) : wp (d + 1) mX12_isAsked 0 [some (aI kd), some (aI n)] [] sh iv lw rv 0 0 R := by
  refine wp_iload_n dX12_isAsked_0 rfl ?_
  refine wp_iconst dX12_isAsked_1 ?_
  refine wp_icmp_ne (tgt := 17) dX12_isAsked_2 rfl (fun h2 => ?_) (fun h2 => ?_)
  · refine wp_iload_n dX12_isAsked_17 rfl ?_
    refine wp_iconst dX12_isAsked_18 ?_
    refine wp_icmp_ne (tgt := 31) dX12_isAsked_19 rfl (fun h19 => ?_) (fun h19 => ?_)
    · refine wp_iload_n dX12_isAsked_31 rfl ?_
      refine wp_iconst dX12_isAsked_32 ?_
      refine wp_iconst dX12_isAsked_33 ?_
      refine wp_callS (as := [_, _, _]) (ls0 := [_, _, _]) (kc := 0) (ks := 0) (bc' := 0) (bs' := 0) dX12_isAsked_34 vX12_75 rfl rfl (Nat.le_of_ble_eq_true rfl) (Nat.le_of_ble_eq_true rfl) (by omega) (by omega) ?_
      refine s_in (fun h34 => ?_) (fun h34 => ?_)
      · refine wp_zreturn dX12_isAsked_37 rfl (Or.inr rfl) ?_
        exact kt (by unfold asd; omega)
      · refine wp_zreturn dX12_isAsked_37 rfl (Or.inl rfl) ?_
        exact kf (by unfold asd; omega)
    · refine wp_iload_n dX12_isAsked_22 rfl ?_
      refine wp_iconst dX12_isAsked_23 ?_
      refine wp_iconst dX12_isAsked_24 ?_
      refine wp_callS (as := [_, _, _]) (ls0 := [_, _, _]) (kc := 0) (ks := 0) (bc' := 0) (bs' := 0) dX12_isAsked_25 vX12_75 rfl rfl (Nat.le_of_ble_eq_true rfl) (Nat.le_of_ble_eq_true rfl) (by omega) (by omega) ?_
      refine s_in (fun h25 => ?_) (fun h25 => ?_)
      · refine wp_goto (tgt := 37) dX12_isAsked_28 rfl ?_
        refine wp_zreturn dX12_isAsked_37 rfl (Or.inr rfl) ?_
        exact kt (by unfold asd; omega)
      · refine wp_goto (tgt := 37) dX12_isAsked_28 rfl ?_
        refine wp_zreturn dX12_isAsked_37 rfl (Or.inl rfl) ?_
        exact kf (by unfold asd; omega)
  · refine wp_iload_n dX12_isAsked_5 rfl ?_
    refine wp_if_ne (tgt := 13) dX12_isAsked_6 rfl (fun h6 => ?_) (fun h6 => ?_)
    · refine wp_iconst dX12_isAsked_13 ?_
      refine wp_goto (tgt := 37) dX12_isAsked_14 rfl ?_
      refine wp_zreturn dX12_isAsked_37 rfl (Or.inl rfl) ?_
      exact kf (by unfold asd; omega)
    · refine wp_iconst dX12_isAsked_9 ?_
      refine wp_goto (tgt := 37) dX12_isAsked_10 rfl ?_
      refine wp_zreturn dX12_isAsked_37 rfl (Or.inr rfl) ?_
      exact kt (by unfold asd; omega)
theorem s_deal {p kd n : Int} (hT : Tld iv F N) (k0 : ∀ O', ¬ dlR iv F N p kd n = -1 → R (some (aI (-1))) SHR (ST (rfF iv (dlR iv F N p kd n)) F N G O' T S) lw RVR) (k1 : dlR iv F N p kd n = -1 → ∀ O', R (some (aI (begF iv F N p kd n (61 * p + 48)))) SHR (ST (kpE iv F N) (kpG F) (begF iv F N p kd n) G O' T S) lw RVR) : wp (d + 6) mX12_deal 0 [some (aR 0), some (aI p), some (aI kd), some (aI n)] [] SHR (ST iv F N G O T S) lw RVR 0 0 R := by
  obtain ⟨hr, hP2, h9, h8, hc, h25, hT2⟩ := id hT
  refine wp_aload_n dX12_deal_0 rfl ?_
  refine wp_aload_n dX12_deal_1 rfl ?_
  refine wp_iload_n dX12_deal_2 rfl ?_
  refine wp_callV (as := [_]) (ls0 := [_, _]) (kc := 0) (ks := 0) (bc' := 0) (bs' := 0) dX12_deal_3 vX12_313 rfl rfl rfl (Nat.le_of_ble_eq_true rfl) (Nat.le_of_ble_eq_true rfl) (by omega) (by omega) ?_
  refine s_isPair (by omega) (fun h3 => ?_) (fun h3 => ?_)
  · obtain ⟨hP, hI⟩ := hT2 (by omega)
    have hB := hI.1
    have hp6 : 0 ≤ p ∧ p < 6 := by omega
    have h18 := hB.v18 hp6
    refine wp_if_ne (tgt := 13) dX12_deal_6 rfl (fun _ => ?_) (fun q => absurd q (by decide))
    refine wp_iload_n dX12_deal_13 rfl ?_
    refine wp_iconst dX12_deal_14 ?_
    refine wp_iconst dX12_deal_15 ?_
    refine wp_callS (as := [_, _, _]) (ls0 := [_, _, _]) (kc := 0) (ks := 0) (bc' := 0) (bs' := 0) dX12_deal_16 vX12_75 rfl rfl (Nat.le_of_ble_eq_true rfl) (Nat.le_of_ble_eq_true rfl) (by omega) (by omega) ?_
    refine s_in (fun h16 => ?_) (fun h16 => ?_)
    · refine wp_if_eq (tgt := 30) dX12_deal_19 rfl (fun q => absurd q (by decide)) (fun _ => ?_)
      refine wp_iload_n dX12_deal_22 rfl ?_
      refine wp_iload_n dX12_deal_23 rfl ?_
      refine wp_callS (as := [_, _]) (ls0 := [_, _]) (kc := 0) (ks := 0) (bc' := 0) (bs' := 0) dX12_deal_24 vX12_331 rfl rfl (Nat.le_of_ble_eq_true rfl) (Nat.le_of_ble_eq_true rfl) (by omega) (by omega) ?_
      refine s_isAsked (by omega) (fun h24 => ?_) (fun h24 => ?_)
      · refine wp_if_ne (tgt := 34) dX12_deal_27 rfl (fun _ => ?_) (fun q => absurd q (by decide))
        refine wp_iload_n dX12_deal_34 rfl ?_
        refine wp_iconst dX12_deal_35 ?_
        refine wp_icmp_ne (tgt := 54) dX12_deal_36 rfl (fun h36 => ?_) (fun h36 => ?_)
        · refine wp_aload_n dX12_deal_54 rfl ?_
          refine wp_iload_n dX12_deal_55 rfl ?_
          refine wp_iload_n dX12_deal_56 rfl ?_
          refine wp_iload_n dX12_deal_57 rfl ?_
          refine wp_callV (as := [_, _, _]) (ls0 := [_, _, _, _, _]) (kc := 0) (ks := 0) (bc' := 0) (bs' := 0) dX12_deal_58 vX12_202 rfl rfl rfl (Nat.le_of_ble_eq_true rfl) (Nat.le_of_ble_eq_true rfl) (by omega) (by omega) ?_
          have h24' := h24
          unfold asd at h24'
          refine s_manyFor hp6 hP hB (by omega) (by omega) (fun O' _ => ?_)
          refine wp_iconst dX12_deal_61 ?_
          refine wp_icmp_ne (tgt := 69) dX12_deal_62 rfl (fun h62 => ?_) (fun h62 => ?_)
          · refine wp_iconst dX12_deal_69 ?_
            refine wp_callV (as := [_]) (ls0 := [_, _]) (kc := 0) (ks := 0) (bc' := 0) (bs' := 0) dX12_deal_70 vX12_322 rfl rfl rfl (Nat.le_of_ble_eq_true rfl) (Nat.le_of_ble_eq_true rfl) (by omega) (by omega) ?_
            have er : dlR iv F N p kd n = -1 := by unfold dlR; rw [if_neg (by omega), if_neg (fun z => z h24), if_neg (by omega), if_neg (by omega)]
            refine s_isRefusedN hc ?_
            refine wp_if_eq (tgt := 78) dX12_deal_73 rfl (fun _ => ?_) (fun q => absurd q (by decide))
            refine wp_aload_n dX12_deal_78 rfl ?_
            refine wp_callV (as := []) (ls0 := [_, _]) (kc := 0) (ks := 0) (bc' := 0) (bs' := 0) dX12_deal_79 vX12_325 rfl rfl rfl (Nat.le_of_ble_eq_true rfl) (Nat.le_of_ble_eq_true rfl) (by omega) (by omega) ?_
            refine s_keep (by omega) ?_
            refine wp_aload_n dX12_deal_82 rfl ?_
            refine wp_iload_n dX12_deal_83 rfl ?_
            refine wp_iload_n dX12_deal_84 rfl ?_
            refine wp_iload_n dX12_deal_85 rfl ?_
            refine wp_callV (as := [_, _, _]) (ls0 := [_, _, _, _, _, _, _]) (kc := 0) (ks := 0) (bc' := 0) (bs' := 0) dX12_deal_86 vX12_253 rfl rfl rfl (Nat.le_of_ble_eq_true rfl) (Nat.le_of_ble_eq_true rfl) (by omega) (by omega) ?_
            refine s_begin (iv := kpE iv F N) (F := kpG F) hp6 (Prm_q kp_q hP) hB (by omega) (by omega) (by omega) (fun O'' => ?_)
            rw [begF_q kp_q]
            refine wp_aload_n dX12_deal_89 rfl ?_
            refine wp_iload_n dX12_deal_90 rfl ?_
            refine wp_bipush dX12_deal_91 ?_
            refine wp_callV (as := [_, _]) (ls0 := [_, _, _]) (kc := 0) (ks := 0) (bc' := 0) (bs' := 0) dX12_deal_93 vX12_161 rfl rfl rfl (Nat.le_of_ble_eq_true rfl) (Nat.le_of_ble_eq_true rfl) (by omega) (by omega) ?_
            refine s_of (by omega) (by omega) ?_
            refine wp_ireturn dX12_deal_96 rfl ?_
            exact k1 er O''
          · refine wp_iconst dX12_deal_65 ?_
            refine wp_goto (tgt := 70) dX12_deal_66 rfl ?_
            refine wp_callV (as := [_]) (ls0 := [_, _]) (kc := 0) (ks := 0) (bc' := 0) (bs' := 0) dX12_deal_70 vX12_322 rfl rfl rfl (Nat.le_of_ble_eq_true rfl) (Nat.le_of_ble_eq_true rfl) (by omega) (by omega) ?_
            have er : dlR iv F N p kd n = 3 := by unfold dlR; rw [if_neg (by omega), if_neg (fun z => z h24), if_neg (by omega), if_pos (by omega)]
            refine s_isRefusedY (by decide) hc ?_
            refine wp_if_eq (tgt := 78) dX12_deal_73 rfl (fun q => absurd q (by decide)) (fun _ => ?_)
            refine wp_iconst dX12_deal_76 ?_
            refine wp_ireturn dX12_deal_77 rfl ?_
            rw [er] at k0; first | exact k0 O' (by decide) | exact k0 O (by decide)
        · refine wp_iload_n dX12_deal_39 rfl ?_
          refine wp_aload_n dX12_deal_40 rfl ?_
          refine wp_iload_n dX12_deal_41 rfl ?_
          refine wp_bipush dX12_deal_42 ?_
          refine wp_callV (as := [_, _]) (ls0 := [_, _, _]) (kc := 0) (ks := 0) (bc' := 0) (bs' := 0) dX12_deal_44 vX12_161 rfl rfl rfl (Nat.le_of_ble_eq_true rfl) (Nat.le_of_ble_eq_true rfl) (by omega) (by omega) ?_
          refine s_of (by omega) (by omega) ?_
          refine wp_icmp_lt (tgt := 54) dX12_deal_47 rfl (fun h47 => ?_) (fun h47 => ?_)
          · refine wp_aload_n dX12_deal_54 rfl ?_
            refine wp_iload_n dX12_deal_55 rfl ?_
            refine wp_iload_n dX12_deal_56 rfl ?_
            refine wp_iload_n dX12_deal_57 rfl ?_
            refine wp_callV (as := [_, _, _]) (ls0 := [_, _, _, _, _]) (kc := 0) (ks := 0) (bc' := 0) (bs' := 0) dX12_deal_58 vX12_202 rfl rfl rfl (Nat.le_of_ble_eq_true rfl) (Nat.le_of_ble_eq_true rfl) (by omega) (by omega) ?_
            have h24' := h24
            unfold asd at h24'
            refine s_manyFor hp6 hP hB (by omega) (by omega) (fun O' _ => ?_)
            refine wp_iconst dX12_deal_61 ?_
            refine wp_icmp_ne (tgt := 69) dX12_deal_62 rfl (fun h62 => ?_) (fun h62 => ?_)
            · refine wp_iconst dX12_deal_69 ?_
              refine wp_callV (as := [_]) (ls0 := [_, _]) (kc := 0) (ks := 0) (bc' := 0) (bs' := 0) dX12_deal_70 vX12_322 rfl rfl rfl (Nat.le_of_ble_eq_true rfl) (Nat.le_of_ble_eq_true rfl) (by omega) (by omega) ?_
              have er : dlR iv F N p kd n = -1 := by unfold dlR; rw [if_neg (by omega), if_neg (fun z => z h24), if_neg (by omega), if_neg (by omega)]
              refine s_isRefusedN hc ?_
              refine wp_if_eq (tgt := 78) dX12_deal_73 rfl (fun _ => ?_) (fun q => absurd q (by decide))
              refine wp_aload_n dX12_deal_78 rfl ?_
              refine wp_callV (as := []) (ls0 := [_, _]) (kc := 0) (ks := 0) (bc' := 0) (bs' := 0) dX12_deal_79 vX12_325 rfl rfl rfl (Nat.le_of_ble_eq_true rfl) (Nat.le_of_ble_eq_true rfl) (by omega) (by omega) ?_
              refine s_keep (by omega) ?_
              refine wp_aload_n dX12_deal_82 rfl ?_
              refine wp_iload_n dX12_deal_83 rfl ?_
              refine wp_iload_n dX12_deal_84 rfl ?_
              refine wp_iload_n dX12_deal_85 rfl ?_
              refine wp_callV (as := [_, _, _]) (ls0 := [_, _, _, _, _, _, _]) (kc := 0) (ks := 0) (bc' := 0) (bs' := 0) dX12_deal_86 vX12_253 rfl rfl rfl (Nat.le_of_ble_eq_true rfl) (Nat.le_of_ble_eq_true rfl) (by omega) (by omega) ?_
              refine s_begin (iv := kpE iv F N) (F := kpG F) hp6 (Prm_q kp_q hP) hB (by omega) (by omega) (by omega) (fun O'' => ?_)
              rw [begF_q kp_q]
              refine wp_aload_n dX12_deal_89 rfl ?_
              refine wp_iload_n dX12_deal_90 rfl ?_
              refine wp_bipush dX12_deal_91 ?_
              refine wp_callV (as := [_, _]) (ls0 := [_, _, _]) (kc := 0) (ks := 0) (bc' := 0) (bs' := 0) dX12_deal_93 vX12_161 rfl rfl rfl (Nat.le_of_ble_eq_true rfl) (Nat.le_of_ble_eq_true rfl) (by omega) (by omega) ?_
              refine s_of (by omega) (by omega) ?_
              refine wp_ireturn dX12_deal_96 rfl ?_
              exact k1 er O''
            · refine wp_iconst dX12_deal_65 ?_
              refine wp_goto (tgt := 70) dX12_deal_66 rfl ?_
              refine wp_callV (as := [_]) (ls0 := [_, _]) (kc := 0) (ks := 0) (bc' := 0) (bs' := 0) dX12_deal_70 vX12_322 rfl rfl rfl (Nat.le_of_ble_eq_true rfl) (Nat.le_of_ble_eq_true rfl) (by omega) (by omega) ?_
              have er : dlR iv F N p kd n = 3 := by unfold dlR; rw [if_neg (by omega), if_neg (fun z => z h24), if_neg (by omega), if_pos (by omega)]
              refine s_isRefusedY (by decide) hc ?_
              refine wp_if_eq (tgt := 78) dX12_deal_73 rfl (fun q => absurd q (by decide)) (fun _ => ?_)
              refine wp_iconst dX12_deal_76 ?_
              refine wp_ireturn dX12_deal_77 rfl ?_
              rw [er] at k0; first | exact k0 O' (by decide) | exact k0 O (by decide)
          · refine wp_iconst dX12_deal_50 ?_
            refine wp_goto (tgt := 70) dX12_deal_51 rfl ?_
            refine wp_callV (as := [_]) (ls0 := [_, _]) (kc := 0) (ks := 0) (bc' := 0) (bs' := 0) dX12_deal_70 vX12_322 rfl rfl rfl (Nat.le_of_ble_eq_true rfl) (Nat.le_of_ble_eq_true rfl) (by omega) (by omega) ?_
            have er : dlR iv F N p kd n = 2 := by unfold dlR; rw [if_neg (by omega), if_neg (fun z => z h24), if_pos (by omega)]
            refine s_isRefusedY (by decide) hc ?_
            refine wp_if_eq (tgt := 78) dX12_deal_73 rfl (fun q => absurd q (by decide)) (fun _ => ?_)
            refine wp_iconst dX12_deal_76 ?_
            refine wp_ireturn dX12_deal_77 rfl ?_
            rw [er] at k0; first | exact k0 O' (by decide) | exact k0 O (by decide)
      · refine wp_if_ne (tgt := 34) dX12_deal_27 rfl (fun q => absurd q (by decide)) (fun _ => ?_)
        refine wp_iconst dX12_deal_30 ?_
        refine wp_goto (tgt := 70) dX12_deal_31 rfl ?_
        refine wp_callV (as := [_]) (ls0 := [_, _]) (kc := 0) (ks := 0) (bc' := 0) (bs' := 0) dX12_deal_70 vX12_322 rfl rfl rfl (Nat.le_of_ble_eq_true rfl) (Nat.le_of_ble_eq_true rfl) (by omega) (by omega) ?_
        have er : dlR iv F N p kd n = 1 := by unfold dlR; rw [if_neg (by omega)]; first | rw [if_pos (fun z => by unfold asd at z; omega)] | rw [if_pos h24]
        refine s_isRefusedY (by decide) hc ?_
        refine wp_if_eq (tgt := 78) dX12_deal_73 rfl (fun q => absurd q (by decide)) (fun _ => ?_)
        refine wp_iconst dX12_deal_76 ?_
        refine wp_ireturn dX12_deal_77 rfl ?_
        rw [er] at k0; first | exact k0 O' (by decide) | exact k0 O (by decide)
    · refine wp_if_eq (tgt := 30) dX12_deal_19 rfl (fun _ => ?_) (fun q => absurd q (by decide))
      refine wp_iconst dX12_deal_30 ?_
      refine wp_goto (tgt := 70) dX12_deal_31 rfl ?_
      refine wp_callV (as := [_]) (ls0 := [_, _]) (kc := 0) (ks := 0) (bc' := 0) (bs' := 0) dX12_deal_70 vX12_322 rfl rfl rfl (Nat.le_of_ble_eq_true rfl) (Nat.le_of_ble_eq_true rfl) (by omega) (by omega) ?_
      have er : dlR iv F N p kd n = 1 := by unfold dlR; rw [if_neg (by omega)]; first | rw [if_pos (fun z => by unfold asd at z; omega)] | rw [if_pos h24]
      refine s_isRefusedY (by decide) hc ?_
      refine wp_if_eq (tgt := 78) dX12_deal_73 rfl (fun q => absurd q (by decide)) (fun _ => ?_)
      refine wp_iconst dX12_deal_76 ?_
      refine wp_ireturn dX12_deal_77 rfl ?_
      rw [er] at k0; first | exact k0 O' (by decide) | exact k0 O (by decide)
  · refine wp_if_ne (tgt := 13) dX12_deal_6 rfl (fun q => absurd q (by decide)) (fun _ => ?_)
    refine wp_iconst dX12_deal_9 ?_
    refine wp_goto (tgt := 70) dX12_deal_10 rfl ?_
    refine wp_callV (as := [_]) (ls0 := [_, _]) (kc := 0) (ks := 0) (bc' := 0) (bs' := 0) dX12_deal_70 vX12_322 rfl rfl rfl (Nat.le_of_ble_eq_true rfl) (Nat.le_of_ble_eq_true rfl) (by omega) (by omega) ?_
    have er : dlR iv F N p kd n = 0 := by unfold dlR; rw [if_pos (by omega)]
    refine s_isRefusedY (by decide) hc ?_
    refine wp_if_eq (tgt := 78) dX12_deal_73 rfl (fun q => absurd q (by decide)) (fun _ => ?_)
    refine wp_iconst dX12_deal_76 ?_
    refine wp_ireturn dX12_deal_77 rfl ?_
    rw [er] at k0; first | exact k0 O' (by decide) | exact k0 O (by decide)
theorem s_lose {p : Int} (hT : Tld iv F N) (k0 : ¬ lsR F N p = -1 → R (some (aI (-1))) SHR (ST (rfF iv (lsR F N p)) F N G O T S) lw RVR) (k1 : lsR F N p = -1 → R (some (aI (N (61 * p + 44)))) SHR (ST (kpE iv F N) (kpG F) (up N (61 * p + 43) 0) G O T S) lw RVR) : wp (d + 2) mX12_lose 0 [some (aR 0), some (aI p)] [] SHR (ST iv F N G O T S) lw RVR 0 0 R := by
  obtain ⟨hr, hP2, h9, h8, hc, h25, hT2⟩ := id hT
  refine wp_aload_n dX12_lose_0 rfl ?_
  refine wp_aload_n dX12_lose_1 rfl ?_
  refine wp_iload_n dX12_lose_2 rfl ?_
  refine wp_callV (as := [_]) (ls0 := [_, _]) (kc := 0) (ks := 0) (bc' := 0) (bs' := 0) dX12_lose_3 vX12_313 rfl rfl rfl (Nat.le_of_ble_eq_true rfl) (Nat.le_of_ble_eq_true rfl) (by omega) (by omega) ?_
  refine s_isPair (by omega) (fun h3 => ?_) (fun h3 => ?_)
  · refine wp_if_ne (tgt := 13) dX12_lose_6 rfl (fun _ => ?_) (fun q => absurd q (by decide))
    refine wp_aload_n dX12_lose_13 rfl ?_
    refine wp_iload_n dX12_lose_14 rfl ?_
    refine wp_bipush dX12_lose_15 ?_
    refine wp_callV (as := [_, _]) (ls0 := [_, _, _]) (kc := 0) (ks := 0) (bc' := 0) (bs' := 0) dX12_lose_17 vX12_161 rfl rfl rfl (Nat.le_of_ble_eq_true rfl) (Nat.le_of_ble_eq_true rfl) (by omega) (by omega) ?_
    refine s_of (by omega) (by omega) ?_
    refine wp_if_ne (tgt := 27) dX12_lose_20 rfl (fun h20 => ?_) (fun h20 => ?_)
    · refine wp_iconst dX12_lose_27 ?_
      refine wp_callV (as := [_]) (ls0 := [_, _]) (kc := 0) (ks := 0) (bc' := 0) (bs' := 0) dX12_lose_28 vX12_322 rfl rfl rfl (Nat.le_of_ble_eq_true rfl) (Nat.le_of_ble_eq_true rfl) (by omega) (by omega) ?_
      have er : lsR F N p = -1 := by unfold lsR; (repeat' split) <;> omega
      refine s_isRefusedN hc ?_
      refine wp_if_eq (tgt := 36) dX12_lose_31 rfl (fun _ => ?_) (fun q => absurd q (by decide))
      refine wp_aload_n dX12_lose_36 rfl ?_
      refine wp_callV (as := []) (ls0 := [_, _]) (kc := 0) (ks := 0) (bc' := 0) (bs' := 0) dX12_lose_37 vX12_325 rfl rfl rfl (Nat.le_of_ble_eq_true rfl) (Nat.le_of_ble_eq_true rfl) (by omega) (by omega) ?_
      refine s_keep (by omega) ?_
      refine wp_aload_n dX12_lose_40 rfl ?_
      refine wp_iload_n dX12_lose_41 rfl ?_
      refine wp_bipush dX12_lose_42 ?_
      refine wp_iconst dX12_lose_44 ?_
      refine wp_callV (as := [_, _, _]) (ls0 := [_, _, _, _]) (kc := 0) (ks := 0) (bc' := 0) (bs' := 0) dX12_lose_45 vX12_141 rfl rfl rfl (Nat.le_of_ble_eq_true rfl) (Nat.le_of_ble_eq_true rfl) (by omega) (by omega) ?_
      refine s_set (by omega) (by omega) ?_
      refine wp_aload_n dX12_lose_48 rfl ?_
      refine wp_iload_n dX12_lose_49 rfl ?_
      refine wp_bipush dX12_lose_50 ?_
      refine wp_callV (as := [_, _]) (ls0 := [_, _, _]) (kc := 0) (ks := 0) (bc' := 0) (bs' := 0) dX12_lose_52 vX12_161 rfl rfl rfl (Nat.le_of_ble_eq_true rfl) (Nat.le_of_ble_eq_true rfl) (by omega) (by omega) ?_
      refine s_of (by omega) (by omega) ?_
      refine wp_ireturn dX12_lose_55 rfl ?_
      rw [up_n (by omega)]; exact k1 er
    · refine wp_iconst dX12_lose_23 ?_
      refine wp_goto (tgt := 28) dX12_lose_24 rfl ?_
      refine wp_callV (as := [_]) (ls0 := [_, _]) (kc := 0) (ks := 0) (bc' := 0) (bs' := 0) dX12_lose_28 vX12_322 rfl rfl rfl (Nat.le_of_ble_eq_true rfl) (Nat.le_of_ble_eq_true rfl) (by omega) (by omega) ?_
      have er : lsR F N p = 2 := by unfold lsR; (repeat' split) <;> omega
      refine s_isRefusedY (by decide) hc ?_
      refine wp_if_eq (tgt := 36) dX12_lose_31 rfl (fun q => absurd q (by decide)) (fun _ => ?_)
      refine wp_iconst dX12_lose_34 ?_
      refine wp_ireturn dX12_lose_35 rfl ?_
      rw [er] at k0; exact k0 (by decide)
  · refine wp_if_ne (tgt := 13) dX12_lose_6 rfl (fun q => absurd q (by decide)) (fun _ => ?_)
    refine wp_iconst dX12_lose_9 ?_
    refine wp_goto (tgt := 28) dX12_lose_10 rfl ?_
    refine wp_callV (as := [_]) (ls0 := [_, _]) (kc := 0) (ks := 0) (bc' := 0) (bs' := 0) dX12_lose_28 vX12_322 rfl rfl rfl (Nat.le_of_ble_eq_true rfl) (Nat.le_of_ble_eq_true rfl) (by omega) (by omega) ?_
    have er : lsR F N p = 0 := by unfold lsR; (repeat' split) <;> omega
    refine s_isRefusedY (by decide) hc ?_
    refine wp_if_eq (tgt := 36) dX12_lose_31 rfl (fun q => absurd q (by decide)) (fun _ => ?_)
    refine wp_iconst dX12_lose_34 ?_
    refine wp_ireturn dX12_lose_35 rfl ?_
    rw [er] at k0; exact k0 (by decide)
theorem s_jam {c : Int} (hT : Tld iv F N) (k0 : ¬ jmR F c = -1 → R (some (aI (-1))) SHR (ST (rfF iv (jmR F c)) F N G O T S) lw RVR) (k1 : jmR F c = -1 → R (some (aI ((((jmN N c 366 / 2 ^ c.toNat).toNat &&& (1 : Int).toNat : Nat) : Int)))) SHR (ST (kpE iv F N) (kpG F) (jmN N c) G O T S) lw RVR) : wp (d + 1) mX12_jam 0 [some (aR 0), some (aI c)] [] SHR (ST iv F N G O T S) lw RVR 0 0 R := by
  obtain ⟨hr, hP2, h9, h8, hc, h25, hT2⟩ := id hT
  refine wp_aload_n dX12_jam_0 rfl ?_
  refine wp_aload_n dX12_jam_1 rfl ?_
  refine wp_getI dX12_jam_2 fX12_138 rfl ?_
  try simp only [ST0, ST5, ST6, ST7, ST8, ST10, ST11, ST12, ST13]
  refine wp_if_ne (tgt := 12) dX12_jam_5 rfl (fun h5 => ?_) (fun h5 => ?_)
  · refine wp_iload_n dX12_jam_12 rfl ?_
    refine wp_iconst dX12_jam_13 ?_
    refine wp_bipush dX12_jam_14 ?_
    refine wp_callS (as := [_, _, _]) (ls0 := [_, _, _]) (kc := 0) (ks := 0) (bc' := 0) (bs' := 0) dX12_jam_16 vX12_75 rfl rfl (Nat.le_of_ble_eq_true rfl) (Nat.le_of_ble_eq_true rfl) (by omega) (by omega) ?_
    refine s_in (fun h16 => ?_) (fun h16 => ?_)
    · refine wp_if_ne (tgt := 26) dX12_jam_19 rfl (fun _ => ?_) (fun q => absurd q (by decide))
      refine wp_iconst dX12_jam_26 ?_
      refine wp_callV (as := [_]) (ls0 := [_, _]) (kc := 0) (ks := 0) (bc' := 0) (bs' := 0) dX12_jam_27 vX12_322 rfl rfl rfl (Nat.le_of_ble_eq_true rfl) (Nat.le_of_ble_eq_true rfl) (by omega) (by omega) ?_
      have er : jmR F c = -1 := by unfold jmR; (repeat' split) <;> omega
      refine s_isRefusedN hc ?_
      refine wp_if_eq (tgt := 35) dX12_jam_30 rfl (fun _ => ?_) (fun q => absurd q (by decide))
      refine wp_aload_n dX12_jam_35 rfl ?_
      refine wp_callV (as := []) (ls0 := [_, _]) (kc := 0) (ks := 0) (bc' := 0) (bs' := 0) dX12_jam_36 vX12_325 rfl rfl rfl (Nat.le_of_ble_eq_true rfl) (Nat.le_of_ble_eq_true rfl) (by omega) (by omega) ?_
      have h2 := p2_r (k := c) (by omega)
      obtain ⟨hP, hI⟩ := hT2 (by omega)
      have hj := hI.2.2.1
      refine s_keep (by omega) ?_
      refine wp_aload_n dX12_jam_39 rfl ?_
      refine wp_getR rfl dX12_jam_40 fX12_31 rfl ?_
      refine wp_sipush dX12_jam_43 ?_
      refine wp_dup2 dX12_jam_46 rfl rfl ?_
      refine wp_iald dX12_jam_47 rfl (by omega) (by omega) ?_
      try simp only [ST0, ST5, ST6, ST7, ST8, ST10, ST11, ST12, ST13]
      refine wp_iconst dX12_jam_48 ?_
      refine wp_iload_n dX12_jam_49 rfl ?_
      refine wp_ishl dX12_jam_50 (by omega) (by omega) (by exact ⟨by omega, by omega⟩) ?_
      refine wp_ixor dX12_jam_51 (by omega) (by omega) ?_
      refine wp_iast dX12_jam_52 rfl (by omega) (by omega) ?_
      try simp only [STu0, STu8, STu10, STu11, STu12, STu13]
      refine wp_aload_n dX12_jam_53 rfl ?_
      refine wp_getR rfl dX12_jam_54 fX12_31 rfl ?_
      refine wp_sipush dX12_jam_57 ?_
      refine wp_iald dX12_jam_60 rfl (by omega) (by omega) ?_
      try simp only [ST0, ST5, ST6, ST7, ST8, ST10, ST11, ST12, ST13]
      refine wp_iload_n dX12_jam_61 rfl ?_
      refine wp_ishr dX12_jam_62 (by omega) (by omega) ?_
      refine wp_iconst dX12_jam_63 ?_
      refine wp_iand dX12_jam_64 (by first | exact bt_nn (by rw [up_s]; omega) | decide) (by first | exact bt_nn (by rw [up_s]; omega) | decide) ?_
      refine wp_ireturn dX12_jam_65 rfl ?_
      exact k1 er
    · refine wp_if_ne (tgt := 26) dX12_jam_19 rfl (fun q => absurd q (by decide)) (fun _ => ?_)
      refine wp_iconst dX12_jam_22 ?_
      refine wp_goto (tgt := 27) dX12_jam_23 rfl ?_
      refine wp_callV (as := [_]) (ls0 := [_, _]) (kc := 0) (ks := 0) (bc' := 0) (bs' := 0) dX12_jam_27 vX12_322 rfl rfl rfl (Nat.le_of_ble_eq_true rfl) (Nat.le_of_ble_eq_true rfl) (by omega) (by omega) ?_
      have er : jmR F c = 1 := by unfold jmR; (repeat' split) <;> omega
      refine s_isRefusedY (by decide) hc ?_
      refine wp_if_eq (tgt := 35) dX12_jam_30 rfl (fun q => absurd q (by decide)) (fun _ => ?_)
      refine wp_iconst dX12_jam_33 ?_
      refine wp_ireturn dX12_jam_34 rfl ?_
      rw [er] at k0; exact k0 (by decide)
  · refine wp_iconst dX12_jam_8 ?_
    refine wp_goto (tgt := 27) dX12_jam_9 rfl ?_
    refine wp_callV (as := [_]) (ls0 := [_, _]) (kc := 0) (ks := 0) (bc' := 0) (bs' := 0) dX12_jam_27 vX12_322 rfl rfl rfl (Nat.le_of_ble_eq_true rfl) (Nat.le_of_ble_eq_true rfl) (by omega) (by omega) ?_
    have er : jmR F c = 0 := by unfold jmR; (repeat' split) <;> omega
    refine s_isRefusedY (by decide) hc ?_
    refine wp_if_eq (tgt := 35) dX12_jam_30 rfl (fun q => absurd q (by decide)) (fun _ => ?_)
    refine wp_iconst dX12_jam_33 ?_
    refine wp_ireturn dX12_jam_34 rfl ?_
    rw [er] at k0; exact k0 (by decide)
theorem s_load {p v : Int} (hT : Tld iv F N) (k0 : ¬ ldR F N p v = -1 → R (some (aI (-1))) SHR (ST (rfF iv (ldR F N p v)) F N G O T S) lw RVR) (k1 : ldR F N p v = -1 → R (some (aI (N (61 * p + 58)))) SHR (ST (kpE iv F N) (kpG F) (up N (61 * p + 58) v) G O T S) lw RVR) : wp (d + 2) mX12_load 0 [some (aR 0), some (aI p), some (aI v), none] [] SHR (ST iv F N G O T S) lw RVR 0 0 R := by
  obtain ⟨hr, hP2, h9, h8, hc, h25, hT2⟩ := id hT
  refine wp_aload_n dX12_load_0 rfl ?_
  refine wp_aload_n dX12_load_1 rfl ?_
  refine wp_iload_n dX12_load_2 rfl ?_
  refine wp_callV (as := [_]) (ls0 := [_, _]) (kc := 0) (ks := 0) (bc' := 0) (bs' := 0) dX12_load_3 vX12_313 rfl rfl rfl (Nat.le_of_ble_eq_true rfl) (Nat.le_of_ble_eq_true rfl) (by omega) (by omega) ?_
  refine s_isPair (by omega) (fun h3 => ?_) (fun h3 => ?_)
  · refine wp_if_ne (tgt := 13) dX12_load_6 rfl (fun _ => ?_) (fun q => absurd q (by decide))
    refine wp_iload_n dX12_load_13 rfl ?_
    refine wp_iconst dX12_load_14 ?_
    refine wp_bipush dX12_load_15 ?_
    refine wp_callS (as := [_, _, _]) (ls0 := [_, _, _]) (kc := 0) (ks := 0) (bc' := 0) (bs' := 0) dX12_load_17 vX12_75 rfl rfl (Nat.le_of_ble_eq_true rfl) (Nat.le_of_ble_eq_true rfl) (by omega) (by omega) ?_
    refine s_in (fun h17 => ?_) (fun h17 => ?_)
    · refine wp_if_ne (tgt := 27) dX12_load_20 rfl (fun _ => ?_) (fun q => absurd q (by decide))
      refine wp_iload_n dX12_load_27 rfl ?_
      refine wp_aload_n dX12_load_28 rfl ?_
      refine wp_iload_n dX12_load_29 rfl ?_
      refine wp_bipush dX12_load_30 ?_
      refine wp_callV (as := [_, _]) (ls0 := [_, _, _]) (kc := 0) (ks := 0) (bc' := 0) (bs' := 0) dX12_load_32 vX12_161 rfl rfl rfl (Nat.le_of_ble_eq_true rfl) (Nat.le_of_ble_eq_true rfl) (by omega) (by omega) ?_
      refine s_of (by omega) (by omega) ?_
      refine wp_icmp_ne (tgt := 42) dX12_load_35 rfl (fun h35 => ?_) (fun h35 => ?_)
      · refine wp_iconst dX12_load_42 ?_
        refine wp_callV (as := [_]) (ls0 := [_, _]) (kc := 0) (ks := 0) (bc' := 0) (bs' := 0) dX12_load_43 vX12_322 rfl rfl rfl (Nat.le_of_ble_eq_true rfl) (Nat.le_of_ble_eq_true rfl) (by omega) (by omega) ?_
        have er : ldR F N p v = -1 := by unfold ldR; (repeat' split) <;> omega
        refine s_isRefusedN hc ?_
        refine wp_if_eq (tgt := 51) dX12_load_46 rfl (fun _ => ?_) (fun q => absurd q (by decide))
        refine wp_aload_n dX12_load_51 rfl ?_
        refine wp_callV (as := []) (ls0 := [_, _]) (kc := 0) (ks := 0) (bc' := 0) (bs' := 0) dX12_load_52 vX12_325 rfl rfl rfl (Nat.le_of_ble_eq_true rfl) (Nat.le_of_ble_eq_true rfl) (by omega) (by omega) ?_
        refine s_keep (by omega) ?_
        refine wp_aload_n dX12_load_55 rfl ?_
        refine wp_iload_n dX12_load_56 rfl ?_
        refine wp_bipush dX12_load_57 ?_
        refine wp_callV (as := [_, _]) (ls0 := [_, _, _]) (kc := 0) (ks := 0) (bc' := 0) (bs' := 0) dX12_load_59 vX12_161 rfl rfl rfl (Nat.le_of_ble_eq_true rfl) (Nat.le_of_ble_eq_true rfl) (by omega) (by omega) ?_
        refine s_of (by omega) (by omega) ?_
        refine wp_istore_n (ls' := [_, _, _, _]) dX12_load_62 (by decide) rfl rfl ?_
        refine wp_aload_n dX12_load_63 rfl ?_
        refine wp_iload_n dX12_load_64 rfl ?_
        refine wp_bipush dX12_load_65 ?_
        refine wp_iload_n dX12_load_67 rfl ?_
        refine wp_callV (as := [_, _, _]) (ls0 := [_, _, _, _]) (kc := 0) (ks := 0) (bc' := 0) (bs' := 0) dX12_load_68 vX12_141 rfl rfl rfl (Nat.le_of_ble_eq_true rfl) (Nat.le_of_ble_eq_true rfl) (by omega) (by omega) ?_
        refine s_set (by omega) (by omega) ?_
        refine wp_iload_n dX12_load_71 rfl ?_
        refine wp_ireturn dX12_load_72 rfl ?_
        exact k1 er
      · refine wp_iconst dX12_load_38 ?_
        refine wp_goto (tgt := 43) dX12_load_39 rfl ?_
        refine wp_callV (as := [_]) (ls0 := [_, _]) (kc := 0) (ks := 0) (bc' := 0) (bs' := 0) dX12_load_43 vX12_322 rfl rfl rfl (Nat.le_of_ble_eq_true rfl) (Nat.le_of_ble_eq_true rfl) (by omega) (by omega) ?_
        have er : ldR F N p v = 2 := by unfold ldR; (repeat' split) <;> omega
        refine s_isRefusedY (by decide) hc ?_
        refine wp_if_eq (tgt := 51) dX12_load_46 rfl (fun q => absurd q (by decide)) (fun _ => ?_)
        refine wp_iconst dX12_load_49 ?_
        refine wp_ireturn dX12_load_50 rfl ?_
        rw [er] at k0; exact k0 (by decide)
    · refine wp_if_ne (tgt := 27) dX12_load_20 rfl (fun q => absurd q (by decide)) (fun _ => ?_)
      refine wp_iconst dX12_load_23 ?_
      refine wp_goto (tgt := 43) dX12_load_24 rfl ?_
      refine wp_callV (as := [_]) (ls0 := [_, _]) (kc := 0) (ks := 0) (bc' := 0) (bs' := 0) dX12_load_43 vX12_322 rfl rfl rfl (Nat.le_of_ble_eq_true rfl) (Nat.le_of_ble_eq_true rfl) (by omega) (by omega) ?_
      have er : ldR F N p v = 1 := by unfold ldR; (repeat' split) <;> omega
      refine s_isRefusedY (by decide) hc ?_
      refine wp_if_eq (tgt := 51) dX12_load_46 rfl (fun q => absurd q (by decide)) (fun _ => ?_)
      refine wp_iconst dX12_load_49 ?_
      refine wp_ireturn dX12_load_50 rfl ?_
      rw [er] at k0; exact k0 (by decide)
  · refine wp_if_ne (tgt := 13) dX12_load_6 rfl (fun q => absurd q (by decide)) (fun _ => ?_)
    refine wp_iconst dX12_load_9 ?_
    refine wp_goto (tgt := 43) dX12_load_10 rfl ?_
    refine wp_callV (as := [_]) (ls0 := [_, _]) (kc := 0) (ks := 0) (bc' := 0) (bs' := 0) dX12_load_43 vX12_322 rfl rfl rfl (Nat.le_of_ble_eq_true rfl) (Nat.le_of_ble_eq_true rfl) (by omega) (by omega) ?_
    have er : ldR F N p v = 0 := by unfold ldR; (repeat' split) <;> omega
    refine s_isRefusedY (by decide) hc ?_
    refine wp_if_eq (tgt := 51) dX12_load_46 rfl (fun q => absurd q (by decide)) (fun _ => ?_)
    refine wp_iconst dX12_load_49 ?_
    refine wp_ireturn dX12_load_50 rfl ?_
    rw [er] at k0; exact k0 (by decide)
theorem s_auto (hT : Tld iv F N) (k0 : ¬ auR F = -1 → R (some (aI (-1))) SHR (ST (rfF iv (auR F)) F N G O T S) lw RVR) (k1 : auR F = -1 → R (some (aI (1 - N 367))) SHR (ST (kpE iv F N) (kpG F) (up N 367 (1 - N 367)) G O T S) lw RVR) : wp (d + 1) mX12_auto 0 [some (aR 0)] [] SHR (ST iv F N G O T S) lw RVR 0 0 R := by
  obtain ⟨hr, hP2, h9, h8, hc, h25, hT2⟩ := id hT
  refine wp_aload_n dX12_auto_0 rfl ?_
  refine wp_aload_n dX12_auto_1 rfl ?_
  refine wp_getI dX12_auto_2 fX12_138 rfl ?_
  try simp only [ST0, ST5, ST6, ST7, ST8, ST10, ST11, ST12, ST13]
  refine wp_if_ne (tgt := 12) dX12_auto_5 rfl (fun h5 => ?_) (fun h5 => ?_)
  · refine wp_iconst dX12_auto_12 ?_
    refine wp_callV (as := [_]) (ls0 := [_, _]) (kc := 0) (ks := 0) (bc' := 0) (bs' := 0) dX12_auto_13 vX12_322 rfl rfl rfl (Nat.le_of_ble_eq_true rfl) (Nat.le_of_ble_eq_true rfl) (by omega) (by omega) ?_
    have er : auR F = -1 := by unfold auR; (repeat' split) <;> omega
    refine s_isRefusedN hc ?_
    refine wp_if_eq (tgt := 21) dX12_auto_16 rfl (fun _ => ?_) (fun q => absurd q (by decide))
    refine wp_aload_n dX12_auto_21 rfl ?_
    refine wp_callV (as := []) (ls0 := [_, _]) (kc := 0) (ks := 0) (bc' := 0) (bs' := 0) dX12_auto_22 vX12_325 rfl rfl rfl (Nat.le_of_ble_eq_true rfl) (Nat.le_of_ble_eq_true rfl) (by omega) (by omega) ?_
    obtain ⟨hP, hI⟩ := hT2 (by omega)
    have ha := hI.2.2.2.1
    refine s_keep (by omega) ?_
    refine wp_aload_n dX12_auto_25 rfl ?_
    refine wp_getR rfl dX12_auto_26 fX12_31 rfl ?_
    refine wp_sipush dX12_auto_29 ?_
    refine wp_iconst dX12_auto_32 ?_
    refine wp_aload_n dX12_auto_33 rfl ?_
    refine wp_getR rfl dX12_auto_34 fX12_31 rfl ?_
    refine wp_sipush dX12_auto_37 ?_
    refine wp_iald dX12_auto_40 rfl (by omega) (by omega) ?_
    try simp only [ST0, ST5, ST6, ST7, ST8, ST10, ST11, ST12, ST13]
    refine wp_isub dX12_auto_41 ⟨by omega, by omega⟩ ?_
    refine wp_iast dX12_auto_42 rfl (by omega) (by omega) ?_
    try simp only [STu0, STu8, STu10, STu11, STu12, STu13]
    refine wp_aload_n dX12_auto_43 rfl ?_
    refine wp_getR rfl dX12_auto_44 fX12_31 rfl ?_
    refine wp_sipush dX12_auto_47 ?_
    refine wp_iald dX12_auto_50 rfl (by omega) (by omega) ?_
    try simp only [ST0, ST5, ST6, ST7, ST8, ST10, ST11, ST12, ST13]
    refine wp_ireturn dX12_auto_51 rfl ?_
    rw [up_s]; exact k1 er
  · refine wp_iconst dX12_auto_8 ?_
    refine wp_goto (tgt := 13) dX12_auto_9 rfl ?_
    refine wp_callV (as := [_]) (ls0 := [_, _]) (kc := 0) (ks := 0) (bc' := 0) (bs' := 0) dX12_auto_13 vX12_322 rfl rfl rfl (Nat.le_of_ble_eq_true rfl) (Nat.le_of_ble_eq_true rfl) (by omega) (by omega) ?_
    have er : auR F = 0 := by unfold auR; (repeat' split) <;> omega
    refine s_isRefusedY (by decide) hc ?_
    refine wp_if_eq (tgt := 21) dX12_auto_16 rfl (fun q => absurd q (by decide)) (fun _ => ?_)
    refine wp_iconst dX12_auto_19 ?_
    refine wp_ireturn dX12_auto_20 rfl ?_
    rw [er] at k0; exact k0 (by decide)
end R20
