def sh1 (N : Int → Int) (p k a b : Int) : Int → Int := up N (61 * p + (k + b)) (N (61 * p + (k + a)))
def sh3 (N : Int → Int) (p q a b : Int) : Int → Int := if q = 0 then sh1 (sh1 (sh1 N p 0 a b) p 6 a b) p 12 a b else sh1 N p 19 a b
def insE (N : Int → Int) (p q c n i : Int) : Int → Int := if q = 0 then up (up (up (up N (61 * p + (0 + i)) c) (61 * p + (6 + i)) 0) (61 * p + (12 + i)) 0) (61 * p + 18) (n + 1) else up (up N (61 * p + (19 + i)) c) (61 * p + 25) (n + 1)
def insL (p q c n : Int) : Nat → Int → (Int → Int) → (Int → Int)
  | 0, i, N => insE N p q c n i
  | m + 1, i, N => if N (61 * p + (bq q + (i - 1))) ≤ c then insE N p q c n i else insL p q c n m (i + -1) (sh3 N p q (i - 1) i)
/-- a cell comes into a table -/
def insF (N : Int → Int) (p q c : Int) : Int → Int := if N (61 * p + mq q) = 6 ∨ plc N p q c ≠ -1 then N else insL p q c (N (61 * p + mq q)) (N (61 * p + mq q)).toNat (N (61 * p + mq q)) N
def remL (p q : Int) : Nat → Int → (Int → Int) → (Int → Int)
  | 0, _, N => N
  | m + 1, i, N => remL p q m (i + 1) (sh3 N p q i (i - 1))
/-- a cell is taken out of a table -/
def remF (N : Int → Int) (p q c : Int) : Int → Int := if plc N p q c = -1 then N else
  up (remL p q (N (61 * p + mq q) - (plc N p q c + 1)).toNat (plc N p q c + 1) N) (61 * p + mq q) (remL p q (N (61 * p + mq q) - (plc N p q c + 1)).toNat (plc N p q c + 1) N (61 * p + mq q) - 1)
def clrF (N : Int → Int) (p q : Int) : Int → Int := up (up N (61 * p + mq q) 0) (61 * p + (26 + q)) 0
def stoF (N : Int → Int) (p q : Int) : Int → Int := up (up N (61 * p + (28 + q)) 0) (61 * p + (33 + q)) 0
def waiF (N : Int → Int) (p q : Int) : Int → Int := up (up N (61 * p + (28 + q)) 1) (61 * p + (30 + q)) (N 368)
def wriF (N : Int → Int) (p so ki re as : Int) : Int → Int := up (up (up (up (up (up (up N (61 * p + 43) 1) (61 * p + 44) so) (61 * p + 45) ki) (61 * p + 46) re) (61 * p + 47) (if so = 0 then N (61 * p + 26) else -1)) (61 * p + 49) as) (61 * p + 48) 0
def encF (N : Int → Int) (p c : Int) : Int → Int := up (up N (61 * p + (50 + N (61 * p + 48))) c) (61 * p + 48) (N (61 * p + 48) + 1)
def encL (p : Int) (f : Int → Int) : Nat → Int → (Int → Int) → (Int → Int)
  | 0, _, N => N
  | m + 1, i, N => encL p f m (i + 1) (encF N p (f i))
def prmL (p q : Int) (f : Int → Int) : Nat → Int → (Int → Int) → (Int → Int)
  | 0, _, N => N
  | m + 1, i, N => prmL p q f m (i + 1) (up N (61 * p + (35 + 4 * q + i)) (f i))
def prmF (N : Int → Int) (p q n : Int) (f : Int → Int) : Int → Int := prmL p q f n.toNat 0 (up N (61 * p + (33 + q)) n)
theorem sh3_m {N : Int → Int} {p q a b j : Int} (hq : q = 0 ∨ q = 1) (hb : 0 ≤ b ∧ b < 6) (hj : 18 = j ∨ 25 ≤ j) : sh3 N p q a b (61 * p + j) = N (61 * p + j) := by
  unfold sh3 sh1
  rcases hq with rfl | rfl
  · rw [if_pos rfl, up_n (by omega), up_n (by omega), up_n (by omega)]
  · rw [if_neg (by decide), up_n (by omega)]
section R2
variable {d : Nat} {iv lw : aF} {F N G O T S : Int → Int} {R : aPost}
theorem l_ins0 {p c n : Int} (hp : 0 ≤ p ∧ p < 6) (hn : 0 ≤ n ∧ n < 6) (m : Nat) : ∀ (i : Int) (N : Int → Int), i = m → i ≤ n → R none SHR (ST iv F (insL p 0 c n m i N) G O T S) lw RVR → wp (d + 3) mX12_insert 31 [some (aR 0), some (aI p), some (aI 0), some (aI c), some (aI n), some (aI i)] [] SHR (ST iv F N G O T S) lw RVR 0 0 R := by
  induction m with
  | zero =>
    intro i N hi hin k
    refine wp_iload dX12_insert_31 rfl ?_
    refine wp_if_le (tgt := 107) dX12_insert_33 rfl (fun h33 => ?_) (fun h33 => by exfalso; omega)
    refine wp_aload_n dX12_insert_107 rfl ?_
    refine wp_iload_n dX12_insert_108 rfl ?_
    refine wp_iload_n dX12_insert_109 rfl ?_
    refine wp_if_ne (tgt := 117) dX12_insert_110 rfl (fun q => absurd q (by decide)) (fun _ => ?_)
    refine wp_iconst dX12_insert_113 ?_
    refine wp_goto (tgt := 119) dX12_insert_114 rfl ?_
    refine wp_iload dX12_insert_119 rfl ?_
    refine wp_iadd dX12_insert_121 ⟨by omega, by omega⟩ ?_
    refine wp_iload_n dX12_insert_122 rfl ?_
    refine wp_callV (as := [_, _, _]) (ls0 := [_, _, _, _]) (kc := 0) (ks := 0) (bc' := 0) (bs' := 0) dX12_insert_123 vX12_141 rfl rfl rfl (Nat.le_of_ble_eq_true rfl) (Nat.le_of_ble_eq_true rfl) (by omega) (by omega) ?_
    refine s_set (by omega) (by omega) ?_
    refine wp_iload_n dX12_insert_126 rfl ?_
    refine wp_if_ne (tgt := 152) dX12_insert_127 rfl (fun q => absurd q (by decide)) (fun _ => ?_)
    refine wp_aload_n dX12_insert_130 rfl ?_
    refine wp_iload_n dX12_insert_131 rfl ?_
    refine wp_bipush dX12_insert_132 ?_
    refine wp_iload dX12_insert_134 rfl ?_
    refine wp_iadd dX12_insert_136 ⟨by omega, by omega⟩ ?_
    refine wp_iconst dX12_insert_137 ?_
    refine wp_callV (as := [_, _, _]) (ls0 := [_, _, _, _]) (kc := 0) (ks := 0) (bc' := 0) (bs' := 0) dX12_insert_138 vX12_141 rfl rfl rfl (Nat.le_of_ble_eq_true rfl) (Nat.le_of_ble_eq_true rfl) (by omega) (by omega) ?_
    refine s_set (by omega) (by omega) ?_
    refine wp_aload_n dX12_insert_141 rfl ?_
    refine wp_iload_n dX12_insert_142 rfl ?_
    refine wp_bipush dX12_insert_143 ?_
    refine wp_iload dX12_insert_145 rfl ?_
    refine wp_iadd dX12_insert_147 ⟨by omega, by omega⟩ ?_
    refine wp_iconst dX12_insert_148 ?_
    refine wp_callV (as := [_, _, _]) (ls0 := [_, _, _, _]) (kc := 0) (ks := 0) (bc' := 0) (bs' := 0) dX12_insert_149 vX12_141 rfl rfl rfl (Nat.le_of_ble_eq_true rfl) (Nat.le_of_ble_eq_true rfl) (by omega) (by omega) ?_
    refine s_set (by omega) (by omega) ?_
    refine wp_aload_n dX12_insert_152 rfl ?_
    refine wp_iload_n dX12_insert_153 rfl ?_
    refine wp_iload_n dX12_insert_154 rfl ?_
    refine wp_if_ne (tgt := 163) dX12_insert_155 rfl (fun q => absurd q (by decide)) (fun _ => ?_)
    refine wp_bipush dX12_insert_158 ?_
    refine wp_goto (tgt := 165) dX12_insert_160 rfl ?_
    refine wp_iload dX12_insert_165 rfl ?_
    refine wp_iconst dX12_insert_167 ?_
    refine wp_iadd dX12_insert_168 ⟨by omega, by omega⟩ ?_
    refine wp_callV (as := [_, _, _]) (ls0 := [_, _, _, _]) (kc := 0) (ks := 0) (bc' := 0) (bs' := 0) dX12_insert_169 vX12_141 rfl rfl rfl (Nat.le_of_ble_eq_true rfl) (Nat.le_of_ble_eq_true rfl) (by omega) (by omega) ?_
    refine s_set (by omega) (by omega) ?_
    refine wp_return dX12_insert_172 rfl ?_
    exact k
  | succ m ih =>
    intro i N hi hin k
    refine wp_iload dX12_insert_31 rfl ?_
    refine wp_if_le (tgt := 107) dX12_insert_33 rfl (fun h33 => by exfalso; omega) (fun h33 => ?_)
    refine wp_aload_n dX12_insert_36 rfl ?_
    refine wp_iload_n dX12_insert_37 rfl ?_
    refine wp_iload_n dX12_insert_38 rfl ?_
    refine wp_iload dX12_insert_39 rfl ?_
    refine wp_iconst dX12_insert_41 ?_
    refine wp_isub dX12_insert_42 ⟨by omega, by omega⟩ ?_
    refine wp_callV (as := [_, _, _]) (ls0 := [_, _, _, _]) (kc := 0) (ks := 0) (bc' := 0) (bs' := 0) dX12_insert_43 vX12_167 rfl rfl rfl (Nat.le_of_ble_eq_true rfl) (Nat.le_of_ble_eq_true rfl) (by omega) (by omega) ?_
    refine s_cellOf (by omega) (by omega) (by omega) ?_
    refine wp_iload_n dX12_insert_46 rfl ?_
    refine wp_icmp_le (tgt := 107) dX12_insert_47 rfl (fun h47 => ?_) (fun h47 => ?_)
    · refine wp_aload_n dX12_insert_107 rfl ?_
      refine wp_iload_n dX12_insert_108 rfl ?_
      refine wp_iload_n dX12_insert_109 rfl ?_
      refine wp_if_ne (tgt := 117) dX12_insert_110 rfl (fun q => absurd q (by decide)) (fun _ => ?_)
      refine wp_iconst dX12_insert_113 ?_
      refine wp_goto (tgt := 119) dX12_insert_114 rfl ?_
      refine wp_iload dX12_insert_119 rfl ?_
      refine wp_iadd dX12_insert_121 ⟨by omega, by omega⟩ ?_
      refine wp_iload_n dX12_insert_122 rfl ?_
      refine wp_callV (as := [_, _, _]) (ls0 := [_, _, _, _]) (kc := 0) (ks := 0) (bc' := 0) (bs' := 0) dX12_insert_123 vX12_141 rfl rfl rfl (Nat.le_of_ble_eq_true rfl) (Nat.le_of_ble_eq_true rfl) (by omega) (by omega) ?_
      refine s_set (by omega) (by omega) ?_
      refine wp_iload_n dX12_insert_126 rfl ?_
      refine wp_if_ne (tgt := 152) dX12_insert_127 rfl (fun q => absurd q (by decide)) (fun _ => ?_)
      refine wp_aload_n dX12_insert_130 rfl ?_
      refine wp_iload_n dX12_insert_131 rfl ?_
      refine wp_bipush dX12_insert_132 ?_
      refine wp_iload dX12_insert_134 rfl ?_
      refine wp_iadd dX12_insert_136 ⟨by omega, by omega⟩ ?_
      refine wp_iconst dX12_insert_137 ?_
      refine wp_callV (as := [_, _, _]) (ls0 := [_, _, _, _]) (kc := 0) (ks := 0) (bc' := 0) (bs' := 0) dX12_insert_138 vX12_141 rfl rfl rfl (Nat.le_of_ble_eq_true rfl) (Nat.le_of_ble_eq_true rfl) (by omega) (by omega) ?_
      refine s_set (by omega) (by omega) ?_
      refine wp_aload_n dX12_insert_141 rfl ?_
      refine wp_iload_n dX12_insert_142 rfl ?_
      refine wp_bipush dX12_insert_143 ?_
      refine wp_iload dX12_insert_145 rfl ?_
      refine wp_iadd dX12_insert_147 ⟨by omega, by omega⟩ ?_
      refine wp_iconst dX12_insert_148 ?_
      refine wp_callV (as := [_, _, _]) (ls0 := [_, _, _, _]) (kc := 0) (ks := 0) (bc' := 0) (bs' := 0) dX12_insert_149 vX12_141 rfl rfl rfl (Nat.le_of_ble_eq_true rfl) (Nat.le_of_ble_eq_true rfl) (by omega) (by omega) ?_
      refine s_set (by omega) (by omega) ?_
      refine wp_aload_n dX12_insert_152 rfl ?_
      refine wp_iload_n dX12_insert_153 rfl ?_
      refine wp_iload_n dX12_insert_154 rfl ?_
      refine wp_if_ne (tgt := 163) dX12_insert_155 rfl (fun q => absurd q (by decide)) (fun _ => ?_)
      refine wp_bipush dX12_insert_158 ?_
      refine wp_goto (tgt := 165) dX12_insert_160 rfl ?_
      refine wp_iload dX12_insert_165 rfl ?_
      refine wp_iconst dX12_insert_167 ?_
      refine wp_iadd dX12_insert_168 ⟨by omega, by omega⟩ ?_
      refine wp_callV (as := [_, _, _]) (ls0 := [_, _, _, _]) (kc := 0) (ks := 0) (bc' := 0) (bs' := 0) dX12_insert_169 vX12_141 rfl rfl rfl (Nat.le_of_ble_eq_true rfl) (Nat.le_of_ble_eq_true rfl) (by omega) (by omega) ?_
      refine s_set (by omega) (by omega) ?_
      refine wp_return dX12_insert_172 rfl ?_
      rw [insL, if_pos (by assumption)] at k; exact k
    · refine wp_aload_n dX12_insert_50 rfl ?_
      refine wp_iload_n dX12_insert_51 rfl ?_
      refine wp_iload_n dX12_insert_52 rfl ?_
      refine wp_if_ne (tgt := 60) dX12_insert_53 rfl (fun q => absurd q (by decide)) (fun _ => ?_)
      refine wp_iconst dX12_insert_56 ?_
      refine wp_goto (tgt := 62) dX12_insert_57 rfl ?_
      refine wp_iload dX12_insert_62 rfl ?_
      refine wp_iconst dX12_insert_64 ?_
      refine wp_isub dX12_insert_65 ⟨by omega, by omega⟩ ?_
      refine wp_iload dX12_insert_66 rfl ?_
      refine wp_callV (as := [_, _, _, _]) (ls0 := [_, _, _, _, _]) (kc := 0) (ks := 0) (bc' := 0) (bs' := 0) dX12_insert_68 vX12_174 rfl rfl rfl (Nat.le_of_ble_eq_true rfl) (Nat.le_of_ble_eq_true rfl) (by omega) (by omega) ?_
      refine s_shift (by omega) (by omega) (by omega) (by omega) ?_
      refine wp_iload_n dX12_insert_71 rfl ?_
      refine wp_if_ne (tgt := 101) dX12_insert_72 rfl (fun q => absurd q (by decide)) (fun _ => ?_)
      refine wp_aload_n dX12_insert_75 rfl ?_
      refine wp_iload_n dX12_insert_76 rfl ?_
      refine wp_bipush dX12_insert_77 ?_
      refine wp_iload dX12_insert_79 rfl ?_
      refine wp_iconst dX12_insert_81 ?_
      refine wp_isub dX12_insert_82 ⟨by omega, by omega⟩ ?_
      refine wp_iload dX12_insert_83 rfl ?_
      refine wp_callV (as := [_, _, _, _]) (ls0 := [_, _, _, _, _]) (kc := 0) (ks := 0) (bc' := 0) (bs' := 0) dX12_insert_85 vX12_174 rfl rfl rfl (Nat.le_of_ble_eq_true rfl) (Nat.le_of_ble_eq_true rfl) (by omega) (by omega) ?_
      refine s_shift (by omega) (by omega) (by omega) (by omega) ?_
      refine wp_aload_n dX12_insert_88 rfl ?_
      refine wp_iload_n dX12_insert_89 rfl ?_
      refine wp_bipush dX12_insert_90 ?_
      refine wp_iload dX12_insert_92 rfl ?_
      refine wp_iconst dX12_insert_94 ?_
      refine wp_isub dX12_insert_95 ⟨by omega, by omega⟩ ?_
      refine wp_iload dX12_insert_96 rfl ?_
      refine wp_callV (as := [_, _, _, _]) (ls0 := [_, _, _, _, _]) (kc := 0) (ks := 0) (bc' := 0) (bs' := 0) dX12_insert_98 vX12_174 rfl rfl rfl (Nat.le_of_ble_eq_true rfl) (Nat.le_of_ble_eq_true rfl) (by omega) (by omega) ?_
      refine s_shift (by omega) (by omega) (by omega) (by omega) ?_
      refine wp_iinc (ls' := [_, _, _, _, _, _]) dX12_insert_101 (by decide) rfl rfl ⟨by omega, by omega⟩ rfl ?_
      refine wp_goto (tgt := 31) dX12_insert_104 rfl ?_
      exact ih _ _ (by omega) (by omega) (by rw [insL, if_neg (by assumption)] at k; exact k)
theorem l_ins1 {p c n : Int} (hp : 0 ≤ p ∧ p < 6) (hn : 0 ≤ n ∧ n < 6) (m : Nat) : ∀ (i : Int) (N : Int → Int), i = m → i ≤ n → R none SHR (ST iv F (insL p 1 c n m i N) G O T S) lw RVR → wp (d + 3) mX12_insert 31 [some (aR 0), some (aI p), some (aI 1), some (aI c), some (aI n), some (aI i)] [] SHR (ST iv F N G O T S) lw RVR 0 0 R := by
  induction m with
  | zero =>
    intro i N hi hin k
    refine wp_iload dX12_insert_31 rfl ?_
    refine wp_if_le (tgt := 107) dX12_insert_33 rfl (fun h33 => ?_) (fun h33 => by exfalso; omega)
    refine wp_aload_n dX12_insert_107 rfl ?_
    refine wp_iload_n dX12_insert_108 rfl ?_
    refine wp_iload_n dX12_insert_109 rfl ?_
    refine wp_if_ne (tgt := 117) dX12_insert_110 rfl (fun _ => ?_) (fun q => absurd q (by decide))
    refine wp_bipush dX12_insert_117 ?_
    refine wp_iload dX12_insert_119 rfl ?_
    refine wp_iadd dX12_insert_121 ⟨by omega, by omega⟩ ?_
    refine wp_iload_n dX12_insert_122 rfl ?_
    refine wp_callV (as := [_, _, _]) (ls0 := [_, _, _, _]) (kc := 0) (ks := 0) (bc' := 0) (bs' := 0) dX12_insert_123 vX12_141 rfl rfl rfl (Nat.le_of_ble_eq_true rfl) (Nat.le_of_ble_eq_true rfl) (by omega) (by omega) ?_
    refine s_set (by omega) (by omega) ?_
    refine wp_iload_n dX12_insert_126 rfl ?_
    refine wp_if_ne (tgt := 152) dX12_insert_127 rfl (fun _ => ?_) (fun q => absurd q (by decide))
    refine wp_aload_n dX12_insert_152 rfl ?_
    refine wp_iload_n dX12_insert_153 rfl ?_
    refine wp_iload_n dX12_insert_154 rfl ?_
    refine wp_if_ne (tgt := 163) dX12_insert_155 rfl (fun _ => ?_) (fun q => absurd q (by decide))
    refine wp_bipush dX12_insert_163 ?_
    refine wp_iload dX12_insert_165 rfl ?_
    refine wp_iconst dX12_insert_167 ?_
    refine wp_iadd dX12_insert_168 ⟨by omega, by omega⟩ ?_
    refine wp_callV (as := [_, _, _]) (ls0 := [_, _, _, _]) (kc := 0) (ks := 0) (bc' := 0) (bs' := 0) dX12_insert_169 vX12_141 rfl rfl rfl (Nat.le_of_ble_eq_true rfl) (Nat.le_of_ble_eq_true rfl) (by omega) (by omega) ?_
    refine s_set (by omega) (by omega) ?_
    refine wp_return dX12_insert_172 rfl ?_
    exact k
  | succ m ih =>
    intro i N hi hin k
    refine wp_iload dX12_insert_31 rfl ?_
    refine wp_if_le (tgt := 107) dX12_insert_33 rfl (fun h33 => by exfalso; omega) (fun h33 => ?_)
    refine wp_aload_n dX12_insert_36 rfl ?_
    refine wp_iload_n dX12_insert_37 rfl ?_
    refine wp_iload_n dX12_insert_38 rfl ?_
    refine wp_iload dX12_insert_39 rfl ?_
    refine wp_iconst dX12_insert_41 ?_
    refine wp_isub dX12_insert_42 ⟨by omega, by omega⟩ ?_
    refine wp_callV (as := [_, _, _]) (ls0 := [_, _, _, _]) (kc := 0) (ks := 0) (bc' := 0) (bs' := 0) dX12_insert_43 vX12_167 rfl rfl rfl (Nat.le_of_ble_eq_true rfl) (Nat.le_of_ble_eq_true rfl) (by omega) (by omega) ?_
    refine s_cellOf (by omega) (by omega) (by omega) ?_
    refine wp_iload_n dX12_insert_46 rfl ?_
    refine wp_icmp_le (tgt := 107) dX12_insert_47 rfl (fun h47 => ?_) (fun h47 => ?_)
    · refine wp_aload_n dX12_insert_107 rfl ?_
      refine wp_iload_n dX12_insert_108 rfl ?_
      refine wp_iload_n dX12_insert_109 rfl ?_
      refine wp_if_ne (tgt := 117) dX12_insert_110 rfl (fun _ => ?_) (fun q => absurd q (by decide))
      refine wp_bipush dX12_insert_117 ?_
      refine wp_iload dX12_insert_119 rfl ?_
      refine wp_iadd dX12_insert_121 ⟨by omega, by omega⟩ ?_
      refine wp_iload_n dX12_insert_122 rfl ?_
      refine wp_callV (as := [_, _, _]) (ls0 := [_, _, _, _]) (kc := 0) (ks := 0) (bc' := 0) (bs' := 0) dX12_insert_123 vX12_141 rfl rfl rfl (Nat.le_of_ble_eq_true rfl) (Nat.le_of_ble_eq_true rfl) (by omega) (by omega) ?_
      refine s_set (by omega) (by omega) ?_
      refine wp_iload_n dX12_insert_126 rfl ?_
      refine wp_if_ne (tgt := 152) dX12_insert_127 rfl (fun _ => ?_) (fun q => absurd q (by decide))
      refine wp_aload_n dX12_insert_152 rfl ?_
      refine wp_iload_n dX12_insert_153 rfl ?_
      refine wp_iload_n dX12_insert_154 rfl ?_
      refine wp_if_ne (tgt := 163) dX12_insert_155 rfl (fun _ => ?_) (fun q => absurd q (by decide))
      refine wp_bipush dX12_insert_163 ?_
      refine wp_iload dX12_insert_165 rfl ?_
      refine wp_iconst dX12_insert_167 ?_
      refine wp_iadd dX12_insert_168 ⟨by omega, by omega⟩ ?_
      refine wp_callV (as := [_, _, _]) (ls0 := [_, _, _, _]) (kc := 0) (ks := 0) (bc' := 0) (bs' := 0) dX12_insert_169 vX12_141 rfl rfl rfl (Nat.le_of_ble_eq_true rfl) (Nat.le_of_ble_eq_true rfl) (by omega) (by omega) ?_
      refine s_set (by omega) (by omega) ?_
      refine wp_return dX12_insert_172 rfl ?_
      rw [insL, if_pos (by assumption)] at k; exact k
    · refine wp_aload_n dX12_insert_50 rfl ?_
      refine wp_iload_n dX12_insert_51 rfl ?_
      refine wp_iload_n dX12_insert_52 rfl ?_
      refine wp_if_ne (tgt := 60) dX12_insert_53 rfl (fun _ => ?_) (fun q => absurd q (by decide))
      refine wp_bipush dX12_insert_60 ?_
      refine wp_iload dX12_insert_62 rfl ?_
      refine wp_iconst dX12_insert_64 ?_
      refine wp_isub dX12_insert_65 ⟨by omega, by omega⟩ ?_
      refine wp_iload dX12_insert_66 rfl ?_
      refine wp_callV (as := [_, _, _, _]) (ls0 := [_, _, _, _, _]) (kc := 0) (ks := 0) (bc' := 0) (bs' := 0) dX12_insert_68 vX12_174 rfl rfl rfl (Nat.le_of_ble_eq_true rfl) (Nat.le_of_ble_eq_true rfl) (by omega) (by omega) ?_
      refine s_shift (by omega) (by omega) (by omega) (by omega) ?_
      refine wp_iload_n dX12_insert_71 rfl ?_
      refine wp_if_ne (tgt := 101) dX12_insert_72 rfl (fun _ => ?_) (fun q => absurd q (by decide))
      refine wp_iinc (ls' := [_, _, _, _, _, _]) dX12_insert_101 (by decide) rfl rfl ⟨by omega, by omega⟩ rfl ?_
      refine wp_goto (tgt := 31) dX12_insert_104 rfl ?_
      exact ih _ _ (by omega) (by omega) (by rw [insL, if_neg (by assumption)] at k; exact k)
theorem s_insert {p q c : Int} (hp : 0 ≤ p ∧ p < 6) (hq : q = 0 ∨ q = 1) (hm : 0 ≤ N (61 * p + mq q) ∧ N (61 * p + mq q) ≤ 6) (k : R none SHR (ST iv F (insF N p q c) G O T S) lw RVR) : wp (d + 3) mX12_insert 0 [some (aR 0), some (aI p), some (aI q), some (aI c), none, none] [] SHR (ST iv F N G O T S) lw RVR 0 0 R := by
  rcases hq with rfl | rfl
  · have hq : (0 : Int) = 0 ∨ (0 : Int) = 1 := Or.inl rfl
    refine wp_aload_n dX12_insert_0 rfl ?_
    refine wp_iload_n dX12_insert_1 rfl ?_
    refine wp_iload_n dX12_insert_2 rfl ?_
    refine wp_callV (as := [_, _]) (ls0 := [_, _, _]) (kc := 0) (ks := 0) (bc' := 0) (bs' := 0) dX12_insert_3 vX12_164 rfl rfl rfl (Nat.le_of_ble_eq_true rfl) (Nat.le_of_ble_eq_true rfl) (by omega) (by omega) ?_
    refine s_manyOf (by omega) (by omega) ?_
    refine wp_istore (ls' := [_, _, _, _, _, _]) dX12_insert_6 (by decide) rfl rfl ?_
    refine wp_iload dX12_insert_8 rfl ?_
    refine wp_bipush dX12_insert_10 ?_
    refine wp_icmp_eq (tgt := 26) dX12_insert_12 rfl (fun h12 => ?_) (fun h12 => ?_)
    · rw [insF, if_pos (Or.inl h12)] at k
      refine wp_return dX12_insert_26 rfl ?_
      first | exact k | (rw [insF, if_pos (Or.inr h23)] at k; exact k)
    · refine wp_aload_n dX12_insert_15 rfl ?_
      refine wp_iload_n dX12_insert_16 rfl ?_
      refine wp_iload_n dX12_insert_17 rfl ?_
      refine wp_iload_n dX12_insert_18 rfl ?_
      refine wp_callV (as := [_, _, _]) (ls0 := [_, _, _, _, _]) (kc := 0) (ks := 0) (bc' := 0) (bs' := 0) dX12_insert_19 vX12_171 rfl rfl rfl (Nat.le_of_ble_eq_true rfl) (Nat.le_of_ble_eq_true rfl) (by omega) (by omega) ?_
      refine s_placeIn (by omega) (by omega) (by omega) ?_
      refine wp_iconst dX12_insert_22 ?_
      refine wp_icmp_eq (tgt := 27) dX12_insert_23 rfl (fun h23 => ?_) (fun h23 => ?_)
      · refine wp_iload dX12_insert_27 rfl ?_
        refine wp_istore (ls' := [_, _, _, _, _, _]) dX12_insert_29 (by decide) rfl rfl ?_
        exact l_ins0 hp (by omega) (N (61 * p + mq 0)).toNat _ _ (by omega) (by omega) (by rw [insF, if_neg (fun q => by rcases q with q | q <;> first | exact h12 q | exact q h23)] at k; exact k)
      · refine wp_return dX12_insert_26 rfl ?_
        first | exact k | (rw [insF, if_pos (Or.inr h23)] at k; exact k)
  · have hq : (1 : Int) = 0 ∨ (1 : Int) = 1 := Or.inr rfl
    refine wp_aload_n dX12_insert_0 rfl ?_
    refine wp_iload_n dX12_insert_1 rfl ?_
    refine wp_iload_n dX12_insert_2 rfl ?_
    refine wp_callV (as := [_, _]) (ls0 := [_, _, _]) (kc := 0) (ks := 0) (bc' := 0) (bs' := 0) dX12_insert_3 vX12_164 rfl rfl rfl (Nat.le_of_ble_eq_true rfl) (Nat.le_of_ble_eq_true rfl) (by omega) (by omega) ?_
    refine s_manyOf (by omega) (by omega) ?_
    refine wp_istore (ls' := [_, _, _, _, _, _]) dX12_insert_6 (by decide) rfl rfl ?_
    refine wp_iload dX12_insert_8 rfl ?_
    refine wp_bipush dX12_insert_10 ?_
    refine wp_icmp_eq (tgt := 26) dX12_insert_12 rfl (fun h12 => ?_) (fun h12 => ?_)
    · rw [insF, if_pos (Or.inl h12)] at k
      refine wp_return dX12_insert_26 rfl ?_
      first | exact k | (rw [insF, if_pos (Or.inr h23)] at k; exact k)
    · refine wp_aload_n dX12_insert_15 rfl ?_
      refine wp_iload_n dX12_insert_16 rfl ?_
      refine wp_iload_n dX12_insert_17 rfl ?_
      refine wp_iload_n dX12_insert_18 rfl ?_
      refine wp_callV (as := [_, _, _]) (ls0 := [_, _, _, _, _]) (kc := 0) (ks := 0) (bc' := 0) (bs' := 0) dX12_insert_19 vX12_171 rfl rfl rfl (Nat.le_of_ble_eq_true rfl) (Nat.le_of_ble_eq_true rfl) (by omega) (by omega) ?_
      refine s_placeIn (by omega) (by omega) (by omega) ?_
      refine wp_iconst dX12_insert_22 ?_
      refine wp_icmp_eq (tgt := 27) dX12_insert_23 rfl (fun h23 => ?_) (fun h23 => ?_)
      · refine wp_iload dX12_insert_27 rfl ?_
        refine wp_istore (ls' := [_, _, _, _, _, _]) dX12_insert_29 (by decide) rfl rfl ?_
        exact l_ins1 hp (by omega) (N (61 * p + mq 1)).toNat _ _ (by omega) (by omega) (by rw [insF, if_neg (fun q => by rcases q with q | q <;> first | exact h12 q | exact q h23)] at k; exact k)
      · refine wp_return dX12_insert_26 rfl ?_
        first | exact k | (rw [insF, if_pos (Or.inr h23)] at k; exact k)
theorem l_rem0 {p c z n : Int} (hp : 0 ≤ p ∧ p < 6) (hn : 0 ≤ n ∧ n ≤ 6) (m : Nat) : ∀ (i : Int) (N : Int → Int), 1 ≤ i → i + m = n → N (61 * p + mq 0) = n → R none SHR (ST iv F (up (remL p 0 m i N) (61 * p + mq 0) (remL p 0 m i N (61 * p + mq 0) - 1)) G O T S) lw RVR → wp (d + 3) mX12_remove 22 [some (aR 0), some (aI p), some (aI 0), some (aI c), some (aI z), some (aI i)] [] SHR (ST iv F N G O T S) lw RVR 0 0 R := by
  induction m with
  | zero =>
    intro i N h1 hi hN k
    refine wp_iload dX12_remove_22 rfl ?_
    refine wp_aload_n dX12_remove_24 rfl ?_
    refine wp_iload_n dX12_remove_25 rfl ?_
    refine wp_iload_n dX12_remove_26 rfl ?_
    refine wp_callV (as := [_, _]) (ls0 := [_, _, _]) (kc := 0) (ks := 0) (bc' := 0) (bs' := 0) dX12_remove_27 vX12_164 rfl rfl rfl (Nat.le_of_ble_eq_true rfl) (Nat.le_of_ble_eq_true rfl) (by omega) (by omega) ?_
    refine s_manyOf (by omega) (by omega) ?_
    refine wp_icmp_ge (tgt := 90) dX12_remove_30 rfl (fun h30 => ?_) (fun h30 => by exfalso; omega)
    refine wp_aload_n dX12_remove_90 rfl ?_
    refine wp_iload_n dX12_remove_91 rfl ?_
    refine wp_iload_n dX12_remove_92 rfl ?_
    refine wp_if_ne (tgt := 101) dX12_remove_93 rfl (fun q => absurd q (by decide)) (fun _ => ?_)
    refine wp_bipush dX12_remove_96 ?_
    refine wp_goto (tgt := 103) dX12_remove_98 rfl ?_
    refine wp_aload_n dX12_remove_103 rfl ?_
    refine wp_iload_n dX12_remove_104 rfl ?_
    refine wp_iload_n dX12_remove_105 rfl ?_
    refine wp_callV (as := [_, _]) (ls0 := [_, _, _]) (kc := 0) (ks := 0) (bc' := 0) (bs' := 0) dX12_remove_106 vX12_164 rfl rfl rfl (Nat.le_of_ble_eq_true rfl) (Nat.le_of_ble_eq_true rfl) (by omega) (by omega) ?_
    refine s_manyOf (by omega) (by omega) ?_
    refine wp_iconst dX12_remove_109 ?_
    refine wp_isub dX12_remove_110 ⟨by omega, by omega⟩ ?_
    refine wp_callV (as := [_, _, _]) (ls0 := [_, _, _, _]) (kc := 0) (ks := 0) (bc' := 0) (bs' := 0) dX12_remove_111 vX12_141 rfl rfl rfl (Nat.le_of_ble_eq_true rfl) (Nat.le_of_ble_eq_true rfl) (by omega) (by omega) ?_
    refine s_set (by omega) (by omega) ?_
    refine wp_return dX12_remove_114 rfl ?_
    exact k
  | succ m ih =>
    intro i N h1 hi hN k
    refine wp_iload dX12_remove_22 rfl ?_
    refine wp_aload_n dX12_remove_24 rfl ?_
    refine wp_iload_n dX12_remove_25 rfl ?_
    refine wp_iload_n dX12_remove_26 rfl ?_
    refine wp_callV (as := [_, _]) (ls0 := [_, _, _]) (kc := 0) (ks := 0) (bc' := 0) (bs' := 0) dX12_remove_27 vX12_164 rfl rfl rfl (Nat.le_of_ble_eq_true rfl) (Nat.le_of_ble_eq_true rfl) (by omega) (by omega) ?_
    refine s_manyOf (by omega) (by omega) ?_
    refine wp_icmp_ge (tgt := 90) dX12_remove_30 rfl (fun h30 => by exfalso; omega) (fun h30 => ?_)
    refine wp_aload_n dX12_remove_33 rfl ?_
    refine wp_iload_n dX12_remove_34 rfl ?_
    refine wp_iload_n dX12_remove_35 rfl ?_
    refine wp_if_ne (tgt := 43) dX12_remove_36 rfl (fun q => absurd q (by decide)) (fun _ => ?_)
    refine wp_iconst dX12_remove_39 ?_
    refine wp_goto (tgt := 45) dX12_remove_40 rfl ?_
    refine wp_iload dX12_remove_45 rfl ?_
    refine wp_iload dX12_remove_47 rfl ?_
    refine wp_iconst dX12_remove_49 ?_
    refine wp_isub dX12_remove_50 ⟨by omega, by omega⟩ ?_
    refine wp_callV (as := [_, _, _, _]) (ls0 := [_, _, _, _, _]) (kc := 0) (ks := 0) (bc' := 0) (bs' := 0) dX12_remove_51 vX12_174 rfl rfl rfl (Nat.le_of_ble_eq_true rfl) (Nat.le_of_ble_eq_true rfl) (by omega) (by omega) ?_
    refine s_shift (by omega) (by omega) (by omega) (by omega) ?_
    refine wp_iload_n dX12_remove_54 rfl ?_
    refine wp_if_ne (tgt := 84) dX12_remove_55 rfl (fun q => absurd q (by decide)) (fun _ => ?_)
    refine wp_aload_n dX12_remove_58 rfl ?_
    refine wp_iload_n dX12_remove_59 rfl ?_
    refine wp_bipush dX12_remove_60 ?_
    refine wp_iload dX12_remove_62 rfl ?_
    refine wp_iload dX12_remove_64 rfl ?_
    refine wp_iconst dX12_remove_66 ?_
    refine wp_isub dX12_remove_67 ⟨by omega, by omega⟩ ?_
    refine wp_callV (as := [_, _, _, _]) (ls0 := [_, _, _, _, _]) (kc := 0) (ks := 0) (bc' := 0) (bs' := 0) dX12_remove_68 vX12_174 rfl rfl rfl (Nat.le_of_ble_eq_true rfl) (Nat.le_of_ble_eq_true rfl) (by omega) (by omega) ?_
    refine s_shift (by omega) (by omega) (by omega) (by omega) ?_
    refine wp_aload_n dX12_remove_71 rfl ?_
    refine wp_iload_n dX12_remove_72 rfl ?_
    refine wp_bipush dX12_remove_73 ?_
    refine wp_iload dX12_remove_75 rfl ?_
    refine wp_iload dX12_remove_77 rfl ?_
    refine wp_iconst dX12_remove_79 ?_
    refine wp_isub dX12_remove_80 ⟨by omega, by omega⟩ ?_
    refine wp_callV (as := [_, _, _, _]) (ls0 := [_, _, _, _, _]) (kc := 0) (ks := 0) (bc' := 0) (bs' := 0) dX12_remove_81 vX12_174 rfl rfl rfl (Nat.le_of_ble_eq_true rfl) (Nat.le_of_ble_eq_true rfl) (by omega) (by omega) ?_
    refine s_shift (by omega) (by omega) (by omega) (by omega) ?_
    refine wp_iinc (ls' := [_, _, _, _, _, _]) dX12_remove_84 (by decide) rfl rfl ⟨by omega, by omega⟩ rfl ?_
    refine wp_goto (tgt := 22) dX12_remove_87 rfl ?_
    exact ih _ (sh3 N p 0 i (i - 1)) (by omega) (by omega) (by rw [sh3_m (by decide) (by omega) (by decide)]; exact hN) k
theorem l_rem1 {p c z n : Int} (hp : 0 ≤ p ∧ p < 6) (hn : 0 ≤ n ∧ n ≤ 6) (m : Nat) : ∀ (i : Int) (N : Int → Int), 1 ≤ i → i + m = n → N (61 * p + mq 1) = n → R none SHR (ST iv F (up (remL p 1 m i N) (61 * p + mq 1) (remL p 1 m i N (61 * p + mq 1) - 1)) G O T S) lw RVR → wp (d + 3) mX12_remove 22 [some (aR 0), some (aI p), some (aI 1), some (aI c), some (aI z), some (aI i)] [] SHR (ST iv F N G O T S) lw RVR 0 0 R := by
  induction m with
  | zero =>
    intro i N h1 hi hN k
    refine wp_iload dX12_remove_22 rfl ?_
    refine wp_aload_n dX12_remove_24 rfl ?_
    refine wp_iload_n dX12_remove_25 rfl ?_
    refine wp_iload_n dX12_remove_26 rfl ?_
    refine wp_callV (as := [_, _]) (ls0 := [_, _, _]) (kc := 0) (ks := 0) (bc' := 0) (bs' := 0) dX12_remove_27 vX12_164 rfl rfl rfl (Nat.le_of_ble_eq_true rfl) (Nat.le_of_ble_eq_true rfl) (by omega) (by omega) ?_
    refine s_manyOf (by omega) (by omega) ?_
    refine wp_icmp_ge (tgt := 90) dX12_remove_30 rfl (fun h30 => ?_) (fun h30 => by exfalso; omega)
    refine wp_aload_n dX12_remove_90 rfl ?_
    refine wp_iload_n dX12_remove_91 rfl ?_
    refine wp_iload_n dX12_remove_92 rfl ?_
    refine wp_if_ne (tgt := 101) dX12_remove_93 rfl (fun _ => ?_) (fun q => absurd q (by decide))
    refine wp_bipush dX12_remove_101 ?_
    refine wp_aload_n dX12_remove_103 rfl ?_
    refine wp_iload_n dX12_remove_104 rfl ?_
    refine wp_iload_n dX12_remove_105 rfl ?_
    refine wp_callV (as := [_, _]) (ls0 := [_, _, _]) (kc := 0) (ks := 0) (bc' := 0) (bs' := 0) dX12_remove_106 vX12_164 rfl rfl rfl (Nat.le_of_ble_eq_true rfl) (Nat.le_of_ble_eq_true rfl) (by omega) (by omega) ?_
    refine s_manyOf (by omega) (by omega) ?_
    refine wp_iconst dX12_remove_109 ?_
    refine wp_isub dX12_remove_110 ⟨by omega, by omega⟩ ?_
    refine wp_callV (as := [_, _, _]) (ls0 := [_, _, _, _]) (kc := 0) (ks := 0) (bc' := 0) (bs' := 0) dX12_remove_111 vX12_141 rfl rfl rfl (Nat.le_of_ble_eq_true rfl) (Nat.le_of_ble_eq_true rfl) (by omega) (by omega) ?_
    refine s_set (by omega) (by omega) ?_
    refine wp_return dX12_remove_114 rfl ?_
    exact k
  | succ m ih =>
    intro i N h1 hi hN k
    refine wp_iload dX12_remove_22 rfl ?_
    refine wp_aload_n dX12_remove_24 rfl ?_
    refine wp_iload_n dX12_remove_25 rfl ?_
    refine wp_iload_n dX12_remove_26 rfl ?_
    refine wp_callV (as := [_, _]) (ls0 := [_, _, _]) (kc := 0) (ks := 0) (bc' := 0) (bs' := 0) dX12_remove_27 vX12_164 rfl rfl rfl (Nat.le_of_ble_eq_true rfl) (Nat.le_of_ble_eq_true rfl) (by omega) (by omega) ?_
    refine s_manyOf (by omega) (by omega) ?_
    refine wp_icmp_ge (tgt := 90) dX12_remove_30 rfl (fun h30 => by exfalso; omega) (fun h30 => ?_)
    refine wp_aload_n dX12_remove_33 rfl ?_
    refine wp_iload_n dX12_remove_34 rfl ?_
    refine wp_iload_n dX12_remove_35 rfl ?_
    refine wp_if_ne (tgt := 43) dX12_remove_36 rfl (fun _ => ?_) (fun q => absurd q (by decide))
    refine wp_bipush dX12_remove_43 ?_
    refine wp_iload dX12_remove_45 rfl ?_
    refine wp_iload dX12_remove_47 rfl ?_
    refine wp_iconst dX12_remove_49 ?_
    refine wp_isub dX12_remove_50 ⟨by omega, by omega⟩ ?_
    refine wp_callV (as := [_, _, _, _]) (ls0 := [_, _, _, _, _]) (kc := 0) (ks := 0) (bc' := 0) (bs' := 0) dX12_remove_51 vX12_174 rfl rfl rfl (Nat.le_of_ble_eq_true rfl) (Nat.le_of_ble_eq_true rfl) (by omega) (by omega) ?_
    refine s_shift (by omega) (by omega) (by omega) (by omega) ?_
    refine wp_iload_n dX12_remove_54 rfl ?_
    refine wp_if_ne (tgt := 84) dX12_remove_55 rfl (fun _ => ?_) (fun q => absurd q (by decide))
    refine wp_iinc (ls' := [_, _, _, _, _, _]) dX12_remove_84 (by decide) rfl rfl ⟨by omega, by omega⟩ rfl ?_
    refine wp_goto (tgt := 22) dX12_remove_87 rfl ?_
    exact ih _ (sh3 N p 1 i (i - 1)) (by omega) (by omega) (by rw [sh3_m (by decide) (by omega) (by decide)]; exact hN) k
theorem fnd_r {f : Int → Int} {p b c : Int} (n : Nat) : ∀ i : Int, fnd f p b c n i = -1 ∨ (i ≤ fnd f p b c n i ∧ fnd f p b c n i < i + n ∧ f (61 * p + (b + fnd f p b c n i)) = c) := by
  induction n with
  | zero => intro i; left; rfl
  | succ n ih =>
    intro i
    rw [fnd]
    by_cases h : f (61 * p + (b + i)) = c
    · rw [if_pos h]; right; exact ⟨Int.le_refl _, by omega, h⟩
    · rw [if_neg h]
      rcases ih (i + 1) with h1 | ⟨h1, h2, h3⟩
      · left; exact h1
      · right; exact ⟨by omega, by omega, h3⟩
theorem plc_r {p q c : Int} (hm : 0 ≤ N (61 * p + mq q)) : plc N p q c = -1 ∨ (0 ≤ plc N p q c ∧ plc N p q c < N (61 * p + mq q) ∧ N (61 * p + (bq q + plc N p q c)) = c) := by
  have := fnd_r (f := N) (p := p) (b := bq q) (c := c) (N (61 * p + mq q)).toNat 0
  rcases this with h | ⟨h1, h2, h3⟩
  · left; exact h
  · right; exact ⟨h1, by unfold plc; omega, h3⟩
theorem s_remove {p q c : Int} (hp : 0 ≤ p ∧ p < 6) (hq : q = 0 ∨ q = 1) (hm : 0 ≤ N (61 * p + mq q) ∧ N (61 * p + mq q) ≤ 6) (k : R none SHR (ST iv F (remF N p q c) G O T S) lw RVR) : wp (d + 3) mX12_remove 0 [some (aR 0), some (aI p), some (aI q), some (aI c), none, none] [] SHR (ST iv F N G O T S) lw RVR 0 0 R := by
  have hpl := plc_r (N := N) (p := p) (q := q) (c := c) hm.1
  rcases hq with rfl | rfl
  · have hq : (0 : Int) = 0 ∨ (0 : Int) = 1 := Or.inl rfl
    refine wp_aload_n dX12_remove_0 rfl ?_
    refine wp_iload_n dX12_remove_1 rfl ?_
    refine wp_iload_n dX12_remove_2 rfl ?_
    refine wp_iload_n dX12_remove_3 rfl ?_
    refine wp_callV (as := [_, _, _]) (ls0 := [_, _, _, _, _]) (kc := 0) (ks := 0) (bc' := 0) (bs' := 0) dX12_remove_4 vX12_171 rfl rfl rfl (Nat.le_of_ble_eq_true rfl) (Nat.le_of_ble_eq_true rfl) (by omega) (by omega) ?_
    refine s_placeIn (by omega) (by omega) (by omega) ?_
    refine wp_istore (ls' := [_, _, _, _, _, _]) dX12_remove_7 (by decide) rfl rfl ?_
    refine wp_iload dX12_remove_9 rfl ?_
    refine wp_iconst dX12_remove_11 ?_
    refine wp_icmp_ne (tgt := 16) dX12_remove_12 rfl (fun h12 => ?_) (fun h12 => ?_)
    · refine wp_iload dX12_remove_16 rfl ?_
      refine wp_iconst dX12_remove_18 ?_
      refine wp_iadd dX12_remove_19 ⟨by omega, by omega⟩ ?_
      refine wp_istore (ls' := [_, _, _, _, _, _]) dX12_remove_20 (by decide) rfl rfl ?_
      exact l_rem0 hp hm (N (61 * p + mq 0) - (plc N p 0 c + 1)).toNat _ _ (by omega) (by omega) rfl (by rw [remF, if_neg h12] at k; exact k)
    · refine wp_return dX12_remove_15 rfl ?_
      rw [remF, if_pos h12] at k; exact k
  · have hq : (1 : Int) = 0 ∨ (1 : Int) = 1 := Or.inr rfl
    refine wp_aload_n dX12_remove_0 rfl ?_
    refine wp_iload_n dX12_remove_1 rfl ?_
    refine wp_iload_n dX12_remove_2 rfl ?_
    refine wp_iload_n dX12_remove_3 rfl ?_
    refine wp_callV (as := [_, _, _]) (ls0 := [_, _, _, _, _]) (kc := 0) (ks := 0) (bc' := 0) (bs' := 0) dX12_remove_4 vX12_171 rfl rfl rfl (Nat.le_of_ble_eq_true rfl) (Nat.le_of_ble_eq_true rfl) (by omega) (by omega) ?_
    refine s_placeIn (by omega) (by omega) (by omega) ?_
    refine wp_istore (ls' := [_, _, _, _, _, _]) dX12_remove_7 (by decide) rfl rfl ?_
    refine wp_iload dX12_remove_9 rfl ?_
    refine wp_iconst dX12_remove_11 ?_
    refine wp_icmp_ne (tgt := 16) dX12_remove_12 rfl (fun h12 => ?_) (fun h12 => ?_)
    · refine wp_iload dX12_remove_16 rfl ?_
      refine wp_iconst dX12_remove_18 ?_
      refine wp_iadd dX12_remove_19 ⟨by omega, by omega⟩ ?_
      refine wp_istore (ls' := [_, _, _, _, _, _]) dX12_remove_20 (by decide) rfl rfl ?_
      exact l_rem1 hp hm (N (61 * p + mq 1) - (plc N p 1 c + 1)).toNat _ _ (by omega) (by omega) rfl (by rw [remF, if_neg h12] at k; exact k)
    · refine wp_return dX12_remove_15 rfl ?_
      rw [remF, if_pos h12] at k; exact k
theorem s_emptyTable {p q : Int} (hp : 0 ≤ p ∧ p < 6) (hq : q = 0 ∨ q = 1) (k : R none SHR (ST iv F (clrF N p q) G O T S) lw RVR) : wp (d + 1) mX12_emptyTable 0 [some (aR 0), some (aI p), some (aI q)] [] SHR (ST iv F N G O T S) lw RVR 0 0 R := by
  refine wp_aload_n dX12_emptyTable_0 rfl ?_
  refine wp_iload_n dX12_emptyTable_1 rfl ?_
  refine wp_iload_n dX12_emptyTable_2 rfl ?_
  refine wp_if_ne (tgt := 11) dX12_emptyTable_3 rfl (fun h3 => ?_) (fun h3 => ?_)
  · refine wp_bipush dX12_emptyTable_11 ?_
    refine wp_iconst dX12_emptyTable_13 ?_
    refine wp_callV (as := [_, _, _]) (ls0 := [_, _, _, _]) (kc := 0) (ks := 0) (bc' := 0) (bs' := 0) dX12_emptyTable_14 vX12_141 rfl rfl rfl (Nat.le_of_ble_eq_true rfl) (Nat.le_of_ble_eq_true rfl) (by omega) (by omega) ?_
    refine s_set (by omega) (by omega) ?_
    refine wp_aload_n dX12_emptyTable_17 rfl ?_
    refine wp_iload_n dX12_emptyTable_18 rfl ?_
    refine wp_bipush dX12_emptyTable_19 ?_
    refine wp_iload_n dX12_emptyTable_21 rfl ?_
    refine wp_iadd dX12_emptyTable_22 ⟨by omega, by omega⟩ ?_
    refine wp_iconst dX12_emptyTable_23 ?_
    refine wp_callV (as := [_, _, _]) (ls0 := [_, _, _, _]) (kc := 0) (ks := 0) (bc' := 0) (bs' := 0) dX12_emptyTable_24 vX12_141 rfl rfl rfl (Nat.le_of_ble_eq_true rfl) (Nat.le_of_ble_eq_true rfl) (by omega) (by omega) ?_
    refine s_set (by omega) (by omega) ?_
    refine wp_return dX12_emptyTable_27 rfl ?_
    rcases hq with rfl | rfl <;> first | exact k | omega
  · refine wp_bipush dX12_emptyTable_6 ?_
    refine wp_goto (tgt := 13) dX12_emptyTable_8 rfl ?_
    refine wp_iconst dX12_emptyTable_13 ?_
    refine wp_callV (as := [_, _, _]) (ls0 := [_, _, _, _]) (kc := 0) (ks := 0) (bc' := 0) (bs' := 0) dX12_emptyTable_14 vX12_141 rfl rfl rfl (Nat.le_of_ble_eq_true rfl) (Nat.le_of_ble_eq_true rfl) (by omega) (by omega) ?_
    refine s_set (by omega) (by omega) ?_
    refine wp_aload_n dX12_emptyTable_17 rfl ?_
    refine wp_iload_n dX12_emptyTable_18 rfl ?_
    refine wp_bipush dX12_emptyTable_19 ?_
    refine wp_iload_n dX12_emptyTable_21 rfl ?_
    refine wp_iadd dX12_emptyTable_22 ⟨by omega, by omega⟩ ?_
    refine wp_iconst dX12_emptyTable_23 ?_
    refine wp_callV (as := [_, _, _]) (ls0 := [_, _, _, _]) (kc := 0) (ks := 0) (bc' := 0) (bs' := 0) dX12_emptyTable_24 vX12_141 rfl rfl rfl (Nat.le_of_ble_eq_true rfl) (Nat.le_of_ble_eq_true rfl) (by omega) (by omega) ?_
    refine s_set (by omega) (by omega) ?_
    refine wp_return dX12_emptyTable_27 rfl ?_
    rcases hq with rfl | rfl <;> first | exact k | omega
theorem s_waitFor {p q : Int} (hp : 0 ≤ p ∧ p < 6) (hq : q = 0 ∨ q = 1) (k : R none SHR (ST iv F (waiF N p q) G O T S) lw RVR) : wp (d + 1) mX12_waitFor 0 [some (aR 0), some (aI p), some (aI q)] [] SHR (ST iv F N G O T S) lw RVR 0 0 R := by
  have hk : up N (61 * p + (28 + q)) 1 368 = N 368 := up_n (by omega)
  refine wp_aload_n dX12_waitFor_0 rfl ?_
  refine wp_iload_n dX12_waitFor_1 rfl ?_
  refine wp_bipush dX12_waitFor_2 ?_
  refine wp_iload_n dX12_waitFor_4 rfl ?_
  refine wp_iadd dX12_waitFor_5 ⟨by omega, by omega⟩ ?_
  refine wp_iconst dX12_waitFor_6 ?_
  refine wp_callV (as := [_, _, _]) (ls0 := [_, _, _, _]) (kc := 0) (ks := 0) (bc' := 0) (bs' := 0) dX12_waitFor_7 vX12_141 rfl rfl rfl (Nat.le_of_ble_eq_true rfl) (Nat.le_of_ble_eq_true rfl) (by omega) (by omega) ?_
  refine s_set (by omega) (by omega) ?_
  refine wp_aload_n dX12_waitFor_10 rfl ?_
  refine wp_iload_n dX12_waitFor_11 rfl ?_
  refine wp_bipush dX12_waitFor_12 ?_
  refine wp_iload_n dX12_waitFor_14 rfl ?_
  refine wp_iadd dX12_waitFor_15 ⟨by omega, by omega⟩ ?_
  refine wp_aload_n dX12_waitFor_16 rfl ?_
  refine wp_getR rfl dX12_waitFor_17 fX12_31 rfl ?_
  refine wp_sipush dX12_waitFor_20 ?_
  refine wp_iald dX12_waitFor_23 rfl (by omega) (by omega) ?_
  try simp only [ST0, ST5, ST6, ST7, ST8, ST10, ST11, ST12, ST13]
  refine wp_callV (as := [_, _, _]) (ls0 := [_, _, _, _]) (kc := 0) (ks := 0) (bc' := 0) (bs' := 0) dX12_waitFor_24 vX12_141 rfl rfl rfl (Nat.le_of_ble_eq_true rfl) (Nat.le_of_ble_eq_true rfl) (by omega) (by omega) ?_
  refine s_set (by omega) (by omega) ?_
  refine wp_return dX12_waitFor_27 rfl ?_
  unfold waiF at k; rw [hk]; exact k
theorem s_waitNoMore {p q : Int} (hp : 0 ≤ p ∧ p < 6) (hq : q = 0 ∨ q = 1) (k : R none SHR (ST iv F (stoF N p q) G O T S) lw RVR) : wp (d + 1) mX12_waitNoMore 0 [some (aR 0), some (aI p), some (aI q)] [] SHR (ST iv F N G O T S) lw RVR 0 0 R := by
  refine wp_aload_n dX12_waitNoMore_0 rfl ?_
  refine wp_iload_n dX12_waitNoMore_1 rfl ?_
  refine wp_bipush dX12_waitNoMore_2 ?_
  refine wp_iload_n dX12_waitNoMore_4 rfl ?_
  refine wp_iadd dX12_waitNoMore_5 ⟨by omega, by omega⟩ ?_
  refine wp_iconst dX12_waitNoMore_6 ?_
  refine wp_callV (as := [_, _, _]) (ls0 := [_, _, _, _]) (kc := 0) (ks := 0) (bc' := 0) (bs' := 0) dX12_waitNoMore_7 vX12_141 rfl rfl rfl (Nat.le_of_ble_eq_true rfl) (Nat.le_of_ble_eq_true rfl) (by omega) (by omega) ?_
  refine s_set (by omega) (by omega) ?_
  refine wp_aload_n dX12_waitNoMore_10 rfl ?_
  refine wp_iload_n dX12_waitNoMore_11 rfl ?_
  refine wp_bipush dX12_waitNoMore_12 ?_
  refine wp_iload_n dX12_waitNoMore_14 rfl ?_
  refine wp_iadd dX12_waitNoMore_15 ⟨by omega, by omega⟩ ?_
  refine wp_iconst dX12_waitNoMore_16 ?_
  refine wp_callV (as := [_, _, _]) (ls0 := [_, _, _, _]) (kc := 0) (ks := 0) (bc' := 0) (bs' := 0) dX12_waitNoMore_17 vX12_141 rfl rfl rfl (Nat.le_of_ble_eq_true rfl) (Nat.le_of_ble_eq_true rfl) (by omega) (by omega) ?_
  refine s_set (by omega) (by omega) ?_
  refine wp_return dX12_waitNoMore_20 rfl ?_
  exact k
theorem s_write {p so ki re as : Int} (hp : 0 ≤ p ∧ p < 6) (k : R none SHR (ST iv F (wriF N p so ki re as) G O T S) lw RVR) : wp (d + 1) mX12_write 0 [some (aR 0), some (aI p), some (aI so), some (aI ki), some (aI re), some (aI as)] [] SHR (ST iv F N G O T S) lw RVR 0 0 R := by
  refine wp_aload_n dX12_write_0 rfl ?_
  refine wp_iload_n dX12_write_1 rfl ?_
  refine wp_bipush dX12_write_2 ?_
  refine wp_iconst dX12_write_4 ?_
  refine wp_callV (as := [_, _, _]) (ls0 := [_, _, _, _]) (kc := 0) (ks := 0) (bc' := 0) (bs' := 0) dX12_write_5 vX12_141 rfl rfl rfl (Nat.le_of_ble_eq_true rfl) (Nat.le_of_ble_eq_true rfl) (by omega) (by omega) ?_
  refine s_set (by omega) (by omega) ?_
  refine wp_aload_n dX12_write_8 rfl ?_
  refine wp_iload_n dX12_write_9 rfl ?_
  refine wp_bipush dX12_write_10 ?_
  refine wp_iload_n dX12_write_12 rfl ?_
  refine wp_callV (as := [_, _, _]) (ls0 := [_, _, _, _]) (kc := 0) (ks := 0) (bc' := 0) (bs' := 0) dX12_write_13 vX12_141 rfl rfl rfl (Nat.le_of_ble_eq_true rfl) (Nat.le_of_ble_eq_true rfl) (by omega) (by omega) ?_
  refine s_set (by omega) (by omega) ?_
  refine wp_aload_n dX12_write_16 rfl ?_
  refine wp_iload_n dX12_write_17 rfl ?_
  refine wp_bipush dX12_write_18 ?_
  refine wp_iload_n dX12_write_20 rfl ?_
  refine wp_callV (as := [_, _, _]) (ls0 := [_, _, _, _]) (kc := 0) (ks := 0) (bc' := 0) (bs' := 0) dX12_write_21 vX12_141 rfl rfl rfl (Nat.le_of_ble_eq_true rfl) (Nat.le_of_ble_eq_true rfl) (by omega) (by omega) ?_
  refine s_set (by omega) (by omega) ?_
  refine wp_aload_n dX12_write_24 rfl ?_
  refine wp_iload_n dX12_write_25 rfl ?_
  refine wp_bipush dX12_write_26 ?_
  refine wp_iload dX12_write_28 rfl ?_
  refine wp_callV (as := [_, _, _]) (ls0 := [_, _, _, _]) (kc := 0) (ks := 0) (bc' := 0) (bs' := 0) dX12_write_30 vX12_141 rfl rfl rfl (Nat.le_of_ble_eq_true rfl) (Nat.le_of_ble_eq_true rfl) (by omega) (by omega) ?_
  refine s_set (by omega) (by omega) ?_
  refine wp_aload_n dX12_write_33 rfl ?_
  refine wp_iload_n dX12_write_34 rfl ?_
  refine wp_bipush dX12_write_35 ?_
  refine wp_iload_n dX12_write_37 rfl ?_
  refine wp_if_ne (tgt := 51) dX12_write_38 rfl (fun h38 => ?_) (fun h38 => ?_)
  · refine wp_iconst dX12_write_51 ?_
    refine wp_callV (as := [_, _, _]) (ls0 := [_, _, _, _]) (kc := 0) (ks := 0) (bc' := 0) (bs' := 0) dX12_write_52 vX12_141 rfl rfl rfl (Nat.le_of_ble_eq_true rfl) (Nat.le_of_ble_eq_true rfl) (by omega) (by omega) ?_
    refine s_set (by omega) (by omega) ?_
    refine wp_aload_n dX12_write_55 rfl ?_
    refine wp_iload_n dX12_write_56 rfl ?_
    refine wp_bipush dX12_write_57 ?_
    refine wp_iload dX12_write_59 rfl ?_
    refine wp_callV (as := [_, _, _]) (ls0 := [_, _, _, _]) (kc := 0) (ks := 0) (bc' := 0) (bs' := 0) dX12_write_61 vX12_141 rfl rfl rfl (Nat.le_of_ble_eq_true rfl) (Nat.le_of_ble_eq_true rfl) (by omega) (by omega) ?_
    refine s_set (by omega) (by omega) ?_
    refine wp_aload_n dX12_write_64 rfl ?_
    refine wp_iload_n dX12_write_65 rfl ?_
    refine wp_bipush dX12_write_66 ?_
    refine wp_iconst dX12_write_68 ?_
    refine wp_callV (as := [_, _, _]) (ls0 := [_, _, _, _]) (kc := 0) (ks := 0) (bc' := 0) (bs' := 0) dX12_write_69 vX12_141 rfl rfl rfl (Nat.le_of_ble_eq_true rfl) (Nat.le_of_ble_eq_true rfl) (by omega) (by omega) ?_
    refine s_set (by omega) (by omega) ?_
    refine wp_return dX12_write_72 rfl ?_
    unfold wriF at k; first | (rw [if_neg (by assumption)] at k; exact k) | (rw [if_pos (by assumption)] at k; rw [up_n (by omega), up_n (by omega), up_n (by omega), up_n (by omega)]; exact k)
  · refine wp_aload_n dX12_write_41 rfl ?_
    refine wp_iload_n dX12_write_42 rfl ?_
    refine wp_bipush dX12_write_43 ?_
    refine wp_callV (as := [_, _]) (ls0 := [_, _, _]) (kc := 0) (ks := 0) (bc' := 0) (bs' := 0) dX12_write_45 vX12_161 rfl rfl rfl (Nat.le_of_ble_eq_true rfl) (Nat.le_of_ble_eq_true rfl) (by omega) (by omega) ?_
    refine s_of (by omega) (by omega) ?_
    refine wp_goto (tgt := 52) dX12_write_48 rfl ?_
    refine wp_callV (as := [_, _, _]) (ls0 := [_, _, _, _]) (kc := 0) (ks := 0) (bc' := 0) (bs' := 0) dX12_write_52 vX12_141 rfl rfl rfl (Nat.le_of_ble_eq_true rfl) (Nat.le_of_ble_eq_true rfl) (by omega) (by omega) ?_
    refine s_set (by omega) (by omega) ?_
    refine wp_aload_n dX12_write_55 rfl ?_
    refine wp_iload_n dX12_write_56 rfl ?_
    refine wp_bipush dX12_write_57 ?_
    refine wp_iload dX12_write_59 rfl ?_
    refine wp_callV (as := [_, _, _]) (ls0 := [_, _, _, _]) (kc := 0) (ks := 0) (bc' := 0) (bs' := 0) dX12_write_61 vX12_141 rfl rfl rfl (Nat.le_of_ble_eq_true rfl) (Nat.le_of_ble_eq_true rfl) (by omega) (by omega) ?_
    refine s_set (by omega) (by omega) ?_
    refine wp_aload_n dX12_write_64 rfl ?_
    refine wp_iload_n dX12_write_65 rfl ?_
    refine wp_bipush dX12_write_66 ?_
    refine wp_iconst dX12_write_68 ?_
    refine wp_callV (as := [_, _, _]) (ls0 := [_, _, _, _]) (kc := 0) (ks := 0) (bc' := 0) (bs' := 0) dX12_write_69 vX12_141 rfl rfl rfl (Nat.le_of_ble_eq_true rfl) (Nat.le_of_ble_eq_true rfl) (by omega) (by omega) ?_
    refine s_set (by omega) (by omega) ?_
    refine wp_return dX12_write_72 rfl ?_
    unfold wriF at k; first | (rw [if_neg (by assumption)] at k; exact k) | (rw [if_pos (by assumption)] at k; rw [up_n (by omega), up_n (by omega), up_n (by omega), up_n (by omega)]; exact k)
theorem s_writeCell {p c : Int} (hp : 0 ≤ p ∧ p < 6) (hm : 0 ≤ N (61 * p + 48) ∧ N (61 * p + 48) < 7) (k : R none SHR (ST iv F (encF N p c) G O T S) lw RVR) : wp (d + 1) mX12_writeCell 0 [some (aR 0), some (aI p), some (aI c)] [] SHR (ST iv F N G O T S) lw RVR 0 0 R := by
  have hk : up N (61 * p + (50 + N (61 * p + 48))) c (61 * p + 48) = N (61 * p + 48) := up_n (by omega)
  refine wp_aload_n dX12_writeCell_0 rfl ?_
  refine wp_iload_n dX12_writeCell_1 rfl ?_
  refine wp_bipush dX12_writeCell_2 ?_
  refine wp_aload_n dX12_writeCell_4 rfl ?_
  refine wp_iload_n dX12_writeCell_5 rfl ?_
  refine wp_bipush dX12_writeCell_6 ?_
  refine wp_callV (as := [_, _]) (ls0 := [_, _, _]) (kc := 0) (ks := 0) (bc' := 0) (bs' := 0) dX12_writeCell_8 vX12_161 rfl rfl rfl (Nat.le_of_ble_eq_true rfl) (Nat.le_of_ble_eq_true rfl) (by omega) (by omega) ?_
  refine s_of (by omega) (by omega) ?_
  refine wp_iadd dX12_writeCell_11 ⟨by omega, by omega⟩ ?_
  refine wp_iload_n dX12_writeCell_12 rfl ?_
  refine wp_callV (as := [_, _, _]) (ls0 := [_, _, _, _]) (kc := 0) (ks := 0) (bc' := 0) (bs' := 0) dX12_writeCell_13 vX12_141 rfl rfl rfl (Nat.le_of_ble_eq_true rfl) (Nat.le_of_ble_eq_true rfl) (by omega) (by omega) ?_
  refine s_set (by omega) (by omega) ?_
  refine wp_aload_n dX12_writeCell_16 rfl ?_
  refine wp_iload_n dX12_writeCell_17 rfl ?_
  refine wp_bipush dX12_writeCell_18 ?_
  refine wp_aload_n dX12_writeCell_20 rfl ?_
  refine wp_iload_n dX12_writeCell_21 rfl ?_
  refine wp_bipush dX12_writeCell_22 ?_
  refine wp_callV (as := [_, _]) (ls0 := [_, _, _]) (kc := 0) (ks := 0) (bc' := 0) (bs' := 0) dX12_writeCell_24 vX12_161 rfl rfl rfl (Nat.le_of_ble_eq_true rfl) (Nat.le_of_ble_eq_true rfl) (by omega) (by omega) ?_
  refine s_of (by omega) (by omega) ?_
  rw [hk]
  refine wp_iconst dX12_writeCell_27 ?_
  refine wp_iadd dX12_writeCell_28 ⟨by omega, by omega⟩ ?_
  refine wp_callV (as := [_, _, _]) (ls0 := [_, _, _, _]) (kc := 0) (ks := 0) (bc' := 0) (bs' := 0) dX12_writeCell_29 vX12_141 rfl rfl rfl (Nat.le_of_ble_eq_true rfl) (Nat.le_of_ble_eq_true rfl) (by omega) (by omega) ?_
  refine s_set (by omega) (by omega) ?_
  refine wp_return dX12_writeCell_32 rfl ?_
  exact k
theorem encF_48 {N : Int → Int} {p c : Int} : encF N p c (61 * p + 48) = N (61 * p + 48) + 1 := by unfold encF; exact up_s
theorem l_writeOffers {p n : Int} (hp : 0 ≤ p ∧ p < 6) (hn : 0 ≤ n ∧ n ≤ 4) (m : Nat) : ∀ (i : Int) (N : Int → Int), 0 ≤ i → i + m = n → N (61 * p + 48) + m ≤ 7 → 0 ≤ N (61 * p + 48) → R none SHR (ST iv F (encL p O m i N) G O T S) lw RVR → wp (d + 2) mX12_writeOffers 2 [some (aR 0), some (aI p), some (aI n), some (aI i)] [] SHR (ST iv F N G O T S) lw RVR 0 0 R := by
  induction m with
  | zero =>
    intro i N h1 h2 h3 h4 k
    refine wp_iload_n dX12_writeOffers_2 rfl ?_
    refine wp_iload_n dX12_writeOffers_3 rfl ?_
    refine wp_icmp_ge (tgt := 24) dX12_writeOffers_4 rfl (fun h4 => ?_) (fun h4 => by exfalso; omega)
    refine wp_return dX12_writeOffers_24 rfl ?_
    exact k
  | succ m ih =>
    intro i N h1 h2 h3 h4 k
    refine wp_iload_n dX12_writeOffers_2 rfl ?_
    refine wp_iload_n dX12_writeOffers_3 rfl ?_
    refine wp_icmp_ge (tgt := 24) dX12_writeOffers_4 rfl (fun h4 => by exfalso; omega) (fun h4 => ?_)
    refine wp_aload_n dX12_writeOffers_7 rfl ?_
    refine wp_iload_n dX12_writeOffers_8 rfl ?_
    refine wp_aload_n dX12_writeOffers_9 rfl ?_
    refine wp_getR rfl dX12_writeOffers_10 fX12_44 rfl ?_
    refine wp_iload_n dX12_writeOffers_13 rfl ?_
    refine wp_iald dX12_writeOffers_14 rfl (by omega) (by omega) ?_
    try simp only [ST0, ST5, ST6, ST7, ST8, ST10, ST11, ST12, ST13]
    refine wp_callV (as := [_, _]) (ls0 := [_, _, _]) (kc := 0) (ks := 0) (bc' := 0) (bs' := 0) dX12_writeOffers_15 vX12_184 rfl rfl rfl (Nat.le_of_ble_eq_true rfl) (Nat.le_of_ble_eq_true rfl) (by omega) (by omega) ?_
    refine s_writeCell (by omega) (by omega) ?_
    refine wp_iinc (ls' := [_, _, _, _]) dX12_writeOffers_18 (by decide) rfl rfl ⟨by omega, by omega⟩ rfl ?_
    refine wp_goto (tgt := 2) dX12_writeOffers_21 rfl ?_
    exact ih _ _ (by omega) (by omega) (by rw [encF_48]; omega) (by rw [encF_48]; omega) k
theorem s_writeOffers {p n : Int} (hp : 0 ≤ p ∧ p < 6) (hn : 0 ≤ n ∧ n ≤ 4) (h3 : 0 ≤ N (61 * p + 48) ∧ N (61 * p + 48) + n ≤ 7) (k : R none SHR (ST iv F (encL p O n.toNat 0 N) G O T S) lw RVR) : wp (d + 2) mX12_writeOffers 0 [some (aR 0), some (aI p), some (aI n), none] [] SHR (ST iv F N G O T S) lw RVR 0 0 R := by
  refine wp_iconst dX12_writeOffers_0 ?_
  refine wp_istore_n (ls' := [_, _, _, _]) dX12_writeOffers_1 (by decide) rfl rfl ?_
  exact l_writeOffers hp hn _ _ _ (by omega) (by omega) (by omega) (by omega) k
theorem l_promise {p q n : Int} (hp : 0 ≤ p ∧ p < 6) (hq : q = 0 ∨ q = 1) (hn : 0 ≤ n ∧ n ≤ 4) (m : Nat) : ∀ (i : Int) (N : Int → Int), 0 ≤ i → i + m = n → R none SHR (ST iv F (prmL p q O m i N) G O T S) lw RVR → wp (d + 1) mX12_promise 13 [some (aR 0), some (aI p), some (aI q), some (aI n), some (aI i)] [] SHR (ST iv F N G O T S) lw RVR 0 0 R := by
  induction m with
  | zero =>
    intro i N h1 h2 k
    refine wp_iload dX12_promise_13 rfl ?_
    refine wp_iload_n dX12_promise_15 rfl ?_
    refine wp_icmp_ge (tgt := 46) dX12_promise_16 rfl (fun h16 => ?_) (fun h16 => by exfalso; omega)
    refine wp_return dX12_promise_46 rfl ?_
    exact k
  | succ m ih =>
    intro i N h1 h2 k
    refine wp_iload dX12_promise_13 rfl ?_
    refine wp_iload_n dX12_promise_15 rfl ?_
    refine wp_icmp_ge (tgt := 46) dX12_promise_16 rfl (fun h16 => by exfalso; omega) (fun h16 => ?_)
    refine wp_aload_n dX12_promise_19 rfl ?_
    refine wp_iload_n dX12_promise_20 rfl ?_
    refine wp_bipush dX12_promise_21 ?_
    refine wp_iconst dX12_promise_23 ?_
    refine wp_iload_n dX12_promise_24 rfl ?_
    refine wp_imul dX12_promise_25 ⟨by omega, by omega⟩ ?_
    refine wp_iadd dX12_promise_26 ⟨by omega, by omega⟩ ?_
    refine wp_iload dX12_promise_27 rfl ?_
    refine wp_iadd dX12_promise_29 ⟨by omega, by omega⟩ ?_
    refine wp_aload_n dX12_promise_30 rfl ?_
    refine wp_getR rfl dX12_promise_31 fX12_44 rfl ?_
    refine wp_iload dX12_promise_34 rfl ?_
    refine wp_iald dX12_promise_36 rfl (by omega) (by omega) ?_
    try simp only [ST0, ST5, ST6, ST7, ST8, ST10, ST11, ST12, ST13]
    refine wp_callV (as := [_, _, _]) (ls0 := [_, _, _, _]) (kc := 0) (ks := 0) (bc' := 0) (bs' := 0) dX12_promise_37 vX12_141 rfl rfl rfl (Nat.le_of_ble_eq_true rfl) (Nat.le_of_ble_eq_true rfl) (by omega) (by omega) ?_
    refine s_set (by omega) (by omega) ?_
    refine wp_iinc (ls' := [_, _, _, _, _]) dX12_promise_40 (by decide) rfl rfl ⟨by omega, by omega⟩ rfl ?_
    refine wp_goto (tgt := 13) dX12_promise_43 rfl ?_
    exact ih _ _ (by omega) (by omega) k
theorem s_promise {p q n : Int} (hp : 0 ≤ p ∧ p < 6) (hq : q = 0 ∨ q = 1) (hn : 0 ≤ n ∧ n ≤ 4) (k : R none SHR (ST iv F (prmF N p q n O) G O T S) lw RVR) : wp (d + 1) mX12_promise 0 [some (aR 0), some (aI p), some (aI q), some (aI n), none] [] SHR (ST iv F N G O T S) lw RVR 0 0 R := by
  refine wp_aload_n dX12_promise_0 rfl ?_
  refine wp_iload_n dX12_promise_1 rfl ?_
  refine wp_bipush dX12_promise_2 ?_
  refine wp_iload_n dX12_promise_4 rfl ?_
  refine wp_iadd dX12_promise_5 ⟨by omega, by omega⟩ ?_
  refine wp_iload_n dX12_promise_6 rfl ?_
  refine wp_callV (as := [_, _, _]) (ls0 := [_, _, _, _]) (kc := 0) (ks := 0) (bc' := 0) (bs' := 0) dX12_promise_7 vX12_141 rfl rfl rfl (Nat.le_of_ble_eq_true rfl) (Nat.le_of_ble_eq_true rfl) (by omega) (by omega) ?_
  refine s_set (by omega) (by omega) ?_
  refine wp_iconst dX12_promise_10 ?_
  refine wp_istore (ls' := [_, _, _, _, _]) dX12_promise_11 (by decide) rfl rfl ?_
  exact l_promise hp hq hn _ _ _ (by omega) (by omega) k
theorem s_canDeal {p : Int} (hp : 0 ≤ p ∧ p < 6) (kt : N (61 * p + 28) = 0 ∧ N (61 * p + 43) = 0 → R (some (aI 1)) SHR (ST iv F N G O T S) lw RVR) (kf : ¬ (N (61 * p + 28) = 0 ∧ N (61 * p + 43) = 0) → R (some (aI 0)) SHR (ST iv F N G O T S) lw RVR) : wp (d + 1) mX12_canDeal 0 [some (aR 0), some (aI p)] [] SHR (ST iv F N G O T S) lw RVR 0 0 R := by
  refine wp_aload_n dX12_canDeal_0 rfl ?_
  refine wp_iload_n dX12_canDeal_1 rfl ?_
  refine wp_bipush dX12_canDeal_2 ?_
  refine wp_callV (as := [_, _]) (ls0 := [_, _, _]) (kc := 0) (ks := 0) (bc' := 0) (bs' := 0) dX12_canDeal_4 vX12_161 rfl rfl rfl (Nat.le_of_ble_eq_true rfl) (Nat.le_of_ble_eq_true rfl) (by omega) (by omega) ?_
  refine s_of (by omega) (by omega) ?_
  refine wp_if_ne (tgt := 24) dX12_canDeal_7 rfl (fun h7 => ?_) (fun h7 => ?_)
  · refine wp_iconst dX12_canDeal_24 ?_
    refine wp_zreturn dX12_canDeal_25 rfl (Or.inl rfl) ?_
    exact kf (by omega)
  · refine wp_aload_n dX12_canDeal_10 rfl ?_
    refine wp_iload_n dX12_canDeal_11 rfl ?_
    refine wp_bipush dX12_canDeal_12 ?_
    refine wp_callV (as := [_, _]) (ls0 := [_, _, _]) (kc := 0) (ks := 0) (bc' := 0) (bs' := 0) dX12_canDeal_14 vX12_161 rfl rfl rfl (Nat.le_of_ble_eq_true rfl) (Nat.le_of_ble_eq_true rfl) (by omega) (by omega) ?_
    refine s_of (by omega) (by omega) ?_
    refine wp_if_ne (tgt := 24) dX12_canDeal_17 rfl (fun h17 => ?_) (fun h17 => ?_)
    · refine wp_iconst dX12_canDeal_24 ?_
      refine wp_zreturn dX12_canDeal_25 rfl (Or.inl rfl) ?_
      exact kf (by omega)
    · refine wp_iconst dX12_canDeal_20 ?_
      refine wp_goto (tgt := 25) dX12_canDeal_21 rfl ?_
      refine wp_zreturn dX12_canDeal_25 rfl (Or.inr rfl) ?_
      exact kt (by omega)
end R2
