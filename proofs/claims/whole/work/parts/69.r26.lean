/-! ===== a tape of signs ===== -/
def sg (t : Int → Int) (n i : Int) : Int := if 0 ≤ i ∧ i < n then t i else -1
def skF (t : Int → Int) (n : Int) : Nat → Int → Int
  | 0, i => i
  | m + 1, i => if sg t n i = 32 then skF t n m (i + 1) else i
/-- the place behind blanks -/
def skp (t : Int → Int) (n i : Int) : Int := skF t n (n - i).toNat i
def dg (s : Int) : Prop := 48 ≤ s ∧ s ≤ 57
/-- a number of one or two digits at j: what is wrong, what it is, what stands behind it -/
def nv2 (t : Int → Int) (n j : Int) : Int := 10 * (sg t n j - 48) + (sg t n (j + 1) - 48)
noncomputable def nmw (t : Int → Int) (n j lo hi : Int) : Int := @ite _ (¬ dg (sg t n j)) (Classical.propDecidable _) j (@ite _ (¬ dg (sg t n (j + 1))) (Classical.propDecidable _) (if lo ≤ sg t n j - 48 ∧ sg t n j - 48 ≤ hi then -1 else j) (@ite _ (dg (sg t n (j + 2))) (Classical.propDecidable _) (j + 2) (if lo ≤ nv2 t n j ∧ nv2 t n j ≤ hi then -1 else j + 1)))
noncomputable def nmv (t : Int → Int) (n j : Int) : Int := @ite _ (¬ dg (sg t n (j + 1))) (Classical.propDecidable _) (sg t n j - 48) (nv2 t n j)
noncomputable def nma (t : Int → Int) (n j : Int) : Int := @ite _ (¬ dg (sg t n (j + 1))) (Classical.propDecidable _) (j + 1) (j + 2)
def itF (cl c : Int) : Int := if cl = 115 then (if c = 119 then 0 else if c = 99 then 1 else if c = 116 then 2 else if c = 109 then 3 else if c = 117 then 4 else -1) else (if c = 97 then 0 else if c = 98 then 1 else if c = 107 then 2 else if c = 108 then 3 else -1)
def loF (cl k : Int) : Int := if cl = 115 then (if k = 0 then 4 else if k = 1 then 1 else if k = 4 then 0 else 2) else (if k = 2 then 2 else 0)
def hiF (cl k : Int) : Int := if cl = 115 then (if k = 0 then 16 else if k = 1 then 4 else if k = 4 then 1 else 9) else (if k = 2 then 3 else if k = 3 then 9 else 5)
def usF (cl k : Int) : Int := if cl = 115 then (if k = 0 then 10 else if k = 1 then 2 else if k = 2 then 3 else if k = 3 then 4 else 1) else (if k = 0 then 0 else if k = 2 then 2 else 1)
def orB (g k : Int) : Int := ((g.toNat ||| (1 * 2 ^ k.toNat : Int).toNat : Nat) : Int)
/-- items from i on: what is wrong, the place behind, the row -/
noncomputable def itL (t : Int → Int) (n cl fr : Int) : Nat → Int → Int → (Int → Int) → Int × Int × (Int → Int)
  | 0, i, _, X => (skp t n i, skp t n i, X)
  | m + 1, i, g, X => @ite _ (itF cl (sg t n (skp t n i)) = -1 ∨ bt g (itF cl (sg t n (skp t n i)))) (Classical.propDecidable _) (-1, skp t n i, X)
      (if nmw t n (skp t n (skp t n i + 1)) (loF cl (itF cl (sg t n (skp t n i)))) (hiF cl (itF cl (sg t n (skp t n i)))) = -1
        then itL t n cl fr m (nma t n (skp t n (skp t n i + 1))) (orB g (itF cl (sg t n (skp t n i)))) (up X (fr + itF cl (sg t n (skp t n i))) (nmv t n (skp t n (skp t n i + 1))))
        else (nmw t n (skp t n (skp t n i + 1)) (loF cl (itF cl (sg t n (skp t n i)))) (hiF cl (itF cl (sg t n (skp t n i)))), 0, X))
section R26a
variable {t : Int → Int} {n i : Int}
theorem sg_n (h : n ≤ i) : sg t n i = -1 := by unfold sg; rw [if_neg (by omega)]
theorem skp_s (h0 : 0 ≤ i) (h : sg t n i = 32) : skp t n i = skp t n (i + 1) := by
  have hl : i < n := Classical.byContradiction (fun q => by rw [sg_n (by omega)] at h; omega)
  unfold skp
  rw [show (n - i).toNat = (n - (i + 1)).toNat + 1 by omega, skF, if_pos h]
theorem skp_n (h : ¬ sg t n i = 32) : skp t n i = i := by
  unfold skp
  cases hm : (n - i).toNat with
  | zero => rfl
  | succ m => rw [skF, if_neg h]
theorem skF_r (m : Nat) : ∀ i : Int, 0 ≤ i → i + m = n → i ≤ skF t n m i ∧ skF t n m i ≤ n ∧ ¬ sg t n (skF t n m i) = 32 := by
  induction m with
  | zero => intro i h0 hm; rw [skF, sg_n (by omega)]; omega
  | succ m ih =>
    intro i h0 hm
    rw [skF]
    by_cases e : sg t n i = 32
    · rw [if_pos e]; have := ih (i + 1) (by omega) (by omega); omega
    · rw [if_neg e]; exact ⟨by omega, by omega, e⟩
theorem skp_r (h0 : 0 ≤ i) (h1 : i ≤ n) : i ≤ skp t n i ∧ skp t n i ≤ n ∧ ¬ sg t n (skp t n i) = 32 := skF_r _ _ h0 (by omega)
theorem sg_lt (h : ¬ sg t n i = -1) : 0 ≤ i ∧ i < n := Classical.byContradiction (fun q => h (by unfold sg; rw [if_neg q]))
theorem dg_lt {j : Int} (h : dg (sg t n j)) : 0 ≤ j ∧ j < n := sg_lt (fun e => by rw [e] at h; unfold dg at h; omega)
theorem nma_r {j : Int} (hw : dg (sg t n j)) : j < nma t n j ∧ nma t n j ≤ n := by
  have h1 := dg_lt hw
  unfold nma
  by_cases e : dg (sg t n (j + 1))
  · have := dg_lt e; rw [if_neg (fun z => z e)]; omega
  · rw [if_pos e]; omega
theorem nmw_d {j lo hi : Int} (h : nmw t n j lo hi = -1) (hj : 0 ≤ j) : dg (sg t n j) := Classical.byContradiction (fun q => by unfold nmw at h; rw [if_pos q] at h; omega)
theorem itF_r {cl c : Int} : -1 ≤ itF cl c ∧ itF cl c ≤ 4 ∧ (¬ cl = 115 → itF cl c ≤ 3) := by
  unfold itF
  by_cases h : cl = 115
  · rw [if_pos h]; refine ⟨?_, ?_, fun q => absurd h q⟩ <;> (repeat' split) <;> omega
  · rw [if_neg h]; refine ⟨?_, ?_, fun _ => ?_⟩ <;> (repeat' split) <;> omega
theorem itF_n {cl : Int} : itF cl (-1) = -1 ∧ itF cl 59 = -1 := by unfold itF; split <;> exact ⟨rfl, rfl⟩
theorem pop_d : ∀ g : Fin 32, ∀ k : Fin 5, popc g.val ≤ 5 ∧ (g.val < 16 → popc g.val ≤ 4) ∧ (g.val.testBit k.val = false → popc (g.val ||| 2 ^ k.val) = popc g.val + 1 ∧ g.val ||| 2 ^ k.val < 32 ∧ (g.val < 16 → k.val < 4 → g.val ||| 2 ^ k.val < 16)) ∧ (popc g.val = 5 → g.val.testBit k.val = true) ∧ (g.val < 16 → k.val < 4 → popc g.val = 4 → g.val.testBit k.val = true) := by decide +kernel
theorem pop_s {g k : Int} (hg : 0 ≤ g ∧ g < 32) (hk : 0 ≤ k ∧ k < 5) (hb : ¬ bt g k) : popc (orB g k).toNat = popc g.toNat + 1 ∧ (0 ≤ orB g k ∧ orB g k < 32) ∧ (g < 16 → k < 4 → orB g k < 16) := by
  have h := (pop_d ⟨g.toNat, by omega⟩ ⟨k.toNat, by omega⟩).2.2.1
  have h2 := p2_r (k := k) (by omega)
  have hf : g.toNat.testBit k.toNat = false := by
    cases hh : g.toNat.testBit k.toNat with
    | false => rfl
    | true => exact absurd ((bt_tb hg.1).mpr hh) hb
  have h3 := h hf
  simp only [] at h3
  unfold orB
  rw [h2.2.2, Int.toNat_natCast]
  exact ⟨h3.1, ⟨by omega, by omega⟩, fun a b => by have := h3.2.2 (by omega) (by omega); omega⟩
theorem pop_f {g k : Int} (hg : 0 ≤ g ∧ g < 32) (hk : 0 ≤ k ∧ k < 5) : (popc g.toNat = 5 → bt g k) ∧ (g < 16 → k < 4 → popc g.toNat = 4 → bt g k) ∧ popc g.toNat ≤ 5 ∧ (g < 16 → popc g.toNat ≤ 4) := by
  have h := pop_d ⟨g.toNat, by omega⟩ ⟨k.toNat, by omega⟩
  simp only [] at h
  exact ⟨fun e => (bt_tb hg.1).mpr (h.2.2.2.1 e), fun a b e => (bt_tb hg.1).mpr (h.2.2.2.2 (by omega) (by omega) e), h.1, fun a => h.2.1 (by omega)⟩
end R26a
/-- the reference while it reads: at, what is wrong, pairs, hops; drafts -/
def RF (F : Int → Int) (a w p h : Int) : Int → Int := up (up (up (up F 3 a) 4 w) 8 p) 9 h
def RE (iv : aF) (X Y Z : Int → Int) : aF := uA (uA (uA iv 2 X) 3 Y) 4 Z
section R26b
variable {iv : aF} {F X Y Z : Int → Int} {a w p h v : Int}
theorem RF_id : RF F (F 3) (F 4) (F 8) (F 9) = F := by
  funext j; unfold RF up
  split
  · rename_i h; rw [h]
  · split
    · rename_i h; rw [h]
    · split
      · rename_i h; rw [h]
      · split
        · rename_i h; rw [h]
        · rfl
theorem RFn {j : Int} (h1 : ¬ j = 3) (h2 : ¬ j = 4) (h3 : ¬ j = 8) (h4 : ¬ j = 9) : RF F a w p h j = F j := by unfold RF; rw [up_n h4, up_n h3, up_n h2, up_n h1]
theorem RF2 : RF F a w p h 2 = F 2 := RFn (by decide) (by decide) (by decide) (by decide)
theorem RF13 : RF F a w p h 13 = F 13 := RFn (by decide) (by decide) (by decide) (by decide)
theorem RF14 : RF F a w p h 14 = F 14 := RFn (by decide) (by decide) (by decide) (by decide)
theorem RF3 : RF F a w p h 3 = a := by unfold RF; rw [up_n (by decide), up_n (by decide), up_n (by decide), up_s]
theorem RF4 : RF F a w p h 4 = w := by unfold RF; rw [up_n (by decide), up_n (by decide), up_s]
theorem RF8 : RF F a w p h 8 = p := by unfold RF; rw [up_n (by decide), up_s]
theorem RF9 : RF F a w p h 9 = h := by unfold RF; rw [up_s]
theorem up_uu {f : Int → Int} {k a b : Int} : up (up f k a) k b = up f k b := by funext j; unfold up; split <;> rfl
theorem RFu3 : up (RF F a w p h) 3 v = RF F v w p h := by unfold RF; rw [up_comm (by decide : ¬ (9 : Int) = 3), up_comm (by decide : ¬ (8 : Int) = 3), up_comm (by decide : ¬ (4 : Int) = 3), up_uu]
theorem RFu4 : up (RF F a w p h) 4 v = RF F a v p h := by unfold RF; rw [up_comm (by decide : ¬ (9 : Int) = 4), up_comm (by decide : ¬ (8 : Int) = 4), up_uu]
theorem RFu8 : up (RF F a w p h) 8 v = RF F a w v h := by unfold RF; rw [up_comm (by decide : ¬ (9 : Int) = 8), up_uu]
theorem RFu9 : up (RF F a w p h) 9 v = RF F a w p v := by unfold RF; rw [up_uu]
theorem RE1 : RE iv X Y Z 1 = iv 1 := by unfold RE; rw [uA_n (by decide), uA_n (by decide), uA_n (by decide)]
theorem RE2 : RE iv X Y Z 2 = X := by unfold RE; rw [uA_n (by decide), uA_n (by decide), uA_s]
theorem RE3 : RE iv X Y Z 3 = Y := by unfold RE; rw [uA_n (by decide), uA_s]
theorem RE4 : RE iv X Y Z 4 = Z := by unfold RE; rw [uA_s]
theorem REu2 {f : Int → Int} : uA (RE iv X Y Z) 2 f = RE iv f Y Z := by unfold RE; rw [uA_c (show (2 : Nat) ≠ 4 by decide), uA_c (show (2 : Nat) ≠ 3 by decide), uA_uA]
theorem REu3 {f : Int → Int} : uA (RE iv X Y Z) 3 f = RE iv X f Z := by unfold RE; rw [uA_c (show (3 : Nat) ≠ 4 by decide), uA_uA]
theorem REu4 {f : Int → Int} : uA (RE iv X Y Z) 4 f = RE iv X Y f := by unfold RE; rw [uA_uA]
theorem RE_id : RE iv (iv 2) (iv 3) (iv 4) = iv := by unfold RE; rw [uA_id, uA_id, uA_id]
end R26b
section R26
variable {d : Nat} {iv lw : aF} {F N G O T S X Y Z : Int → Int} {R : aPost} {a w p h : Int}
theorem s_here (hn : 0 ≤ F 2 ∧ F 2 ≤ 240) (ha : 0 ≤ a) (k : R (some (aI (sg (iv 1) (F 2) a))) SHR (ST (RE iv X Y Z) (RF F (a) (w) (p) (h)) N G O T S) lw RVR) : wp (d) mX12_here 0 [some (aR 0)] [] SHR (ST (RE iv X Y Z) (RF F (a) (w) (p) (h)) N G O T S) lw RVR 0 0 R := by
  unfold sg at k
  refine wp_aload_n dX12_here_0 rfl ?_
  refine wp_getI dX12_here_1 fX12_79 rfl ?_
  try simp only [ST0, ST5, ST6, ST7, ST8, ST10, ST11, ST12, ST13, ST1, ST2, ST3, ST4, RE1, RE2, RE3, RE4, RF2, RF3, RF4, RF8, RF9, RF13, RF14]
  refine wp_aload_n dX12_here_4 rfl ?_
  refine wp_getI dX12_here_5 fX12_72 rfl ?_
  try simp only [ST0, ST5, ST6, ST7, ST8, ST10, ST11, ST12, ST13, ST1, ST2, ST3, ST4, RE1, RE2, RE3, RE4, RF2, RF3, RF4, RF8, RF9, RF13, RF14]
  refine wp_icmp_ge (tgt := 23) dX12_here_8 rfl (fun h8 => ?_) (fun h8 => ?_)
  · refine wp_iconst dX12_here_23 ?_
    refine wp_ireturn dX12_here_24 rfl ?_
    first | (rw [if_pos (by omega)] at k; exact k) | (rw [if_neg (by omega)] at k; exact k)
  · refine wp_aload_n dX12_here_11 rfl ?_
    refine wp_getR rfl dX12_here_12 fX12_9 rfl ?_
    refine wp_aload_n dX12_here_15 rfl ?_
    refine wp_getI dX12_here_16 fX12_79 rfl ?_
    try simp only [ST0, ST5, ST6, ST7, ST8, ST10, ST11, ST12, ST13, ST1, ST2, ST3, ST4, RE1, RE2, RE3, RE4, RF2, RF3, RF4, RF8, RF9, RF13, RF14]
    refine wp_iald dX12_here_19 rfl (by omega) (by omega) ?_
    try simp only [ST0, ST5, ST6, ST7, ST8, ST10, ST11, ST12, ST13, ST1, ST2, ST3, ST4, RE1, RE2, RE3, RE4, RF2, RF3, RF4, RF8, RF9, RF13, RF14]
    refine wp_goto (tgt := 24) dX12_here_20 rfl ?_
    refine wp_ireturn dX12_here_24 rfl ?_
    first | (rw [if_pos (by omega)] at k; exact k) | (rw [if_neg (by omega)] at k; exact k)
theorem l_ahead (hn : 0 ≤ F 2 ∧ F 2 ≤ 240) (m : Nat) : ∀ a : Int, 0 ≤ a → a + m = F 2 → R (some (aI (sg (iv 1) (F 2) (skp (iv 1) (F 2) a)))) SHR (ST (RE iv X Y Z) (RF F (skp (iv 1) (F 2) a) (w) (p) (h)) N G O T S) lw RVR → wp (d + 1) mX12_ahead 0 [some (aR 0)] [] SHR (ST (RE iv X Y Z) (RF F (a) (w) (p) (h)) N G O T S) lw RVR 0 0 R := by
  induction m with
  | zero =>
    intro a h0 hm k
    have hs := sg_n (t := iv 1) (n := F 2) (i := a) (by omega)
    rw [skp_n (by omega)] at k
    refine wp_aload_n dX12_ahead_0 rfl ?_
    refine wp_callV (as := []) (ls0 := [_]) (kc := 0) (ks := 0) (bc' := 0) (bs' := 0) dX12_ahead_1 vX12_82 rfl rfl rfl (Nat.le_of_ble_eq_true rfl) (Nat.le_of_ble_eq_true rfl) (by omega) (by omega) ?_
    refine s_here hn (by omega) ?_
    refine wp_bipush dX12_ahead_4 ?_
    refine wp_icmp_ne (tgt := 22) dX12_ahead_6 rfl (fun h6 => ?_) (fun h6 => by exfalso; omega)
    refine wp_aload_n dX12_ahead_22 rfl ?_
    refine wp_callV (as := []) (ls0 := [_]) (kc := 0) (ks := 0) (bc' := 0) (bs' := 0) dX12_ahead_23 vX12_82 rfl rfl rfl (Nat.le_of_ble_eq_true rfl) (Nat.le_of_ble_eq_true rfl) (by omega) (by omega) ?_
    refine s_here hn (by omega) ?_
    refine wp_ireturn dX12_ahead_26 rfl ?_
    exact k
  | succ m ih =>
    intro a h0 hm k
    refine wp_aload_n dX12_ahead_0 rfl ?_
    refine wp_callV (as := []) (ls0 := [_]) (kc := 0) (ks := 0) (bc' := 0) (bs' := 0) dX12_ahead_1 vX12_82 rfl rfl rfl (Nat.le_of_ble_eq_true rfl) (Nat.le_of_ble_eq_true rfl) (by omega) (by omega) ?_
    refine s_here hn (by omega) ?_
    refine wp_bipush dX12_ahead_4 ?_
    refine wp_icmp_ne (tgt := 22) dX12_ahead_6 rfl (fun h6 => ?_) (fun h6 => ?_)
    · rw [skp_n h6] at k
      refine wp_aload_n dX12_ahead_22 rfl ?_
      refine wp_callV (as := []) (ls0 := [_]) (kc := 0) (ks := 0) (bc' := 0) (bs' := 0) dX12_ahead_23 vX12_82 rfl rfl rfl (Nat.le_of_ble_eq_true rfl) (Nat.le_of_ble_eq_true rfl) (by omega) (by omega) ?_
      refine s_here hn (by omega) ?_
      refine wp_ireturn dX12_ahead_26 rfl ?_
      exact k
    · rw [skp_s h0 h6] at k
      refine wp_aload_n dX12_ahead_9 rfl ?_
      refine wp_dup dX12_ahead_10 rfl ?_
      refine wp_getI dX12_ahead_11 fX12_79 rfl ?_
      try simp only [ST0, ST5, ST6, ST7, ST8, ST10, ST11, ST12, ST13, ST1, ST2, ST3, ST4, RE1, RE2, RE3, RE4, RF2, RF3, RF4, RF8, RF9, RF13, RF14]
      refine wp_iconst dX12_ahead_14 ?_
      refine wp_iadd dX12_ahead_15 ⟨by omega, by omega⟩ ?_
      refine wp_putI dX12_ahead_16 fX12_79 rfl ?_
      try simp only [STu0, STu8, STu10, STu11, STu12, STu13, STu2, STu3, STu4, RE2, RE3, RE4, REu2, REu3, REu4, RFu3, RFu4, RFu8, RFu9]
      refine wp_goto (tgt := 0) dX12_ahead_19 rfl ?_
      exact ih _ (by omega) (by omega) k
theorem s_ahead (hn : 0 ≤ F 2 ∧ F 2 ≤ 240) (ha : 0 ≤ a ∧ a ≤ F 2) (k : R (some (aI (sg (iv 1) (F 2) (skp (iv 1) (F 2) a)))) SHR (ST (RE iv X Y Z) (RF F (skp (iv 1) (F 2) a) (w) (p) (h)) N G O T S) lw RVR) : wp (d + 1) mX12_ahead 0 [some (aR 0)] [] SHR (ST (RE iv X Y Z) (RF F (a) (w) (p) (h)) N G O T S) lw RVR 0 0 R := l_ahead hn (F 2 - a).toNat a ha.1 (by omega) k
theorem s_isDigit {c : Int} {sh : aSh} {rv : aP} (kt : dg c → R (some (aI 1)) sh iv lw rv) (kf : ¬ dg c → R (some (aI 0)) sh iv lw rv) : wp d mX12_isDigit 0 [some (aI c)] [] sh iv lw rv 0 0 R := by
  refine wp_iload_n dX12_isDigit_0 rfl ?_
  refine wp_bipush dX12_isDigit_1 ?_
  refine wp_icmp_lt (tgt := 16) dX12_isDigit_3 rfl (fun h3 => ?_) (fun h3 => ?_)
  · refine wp_iconst dX12_isDigit_16 ?_
    refine wp_zreturn dX12_isDigit_17 rfl (Or.inl rfl) ?_
    exact kf (by unfold dg; omega)
  · refine wp_iload_n dX12_isDigit_6 rfl ?_
    refine wp_bipush dX12_isDigit_7 ?_
    refine wp_icmp_gt (tgt := 16) dX12_isDigit_9 rfl (fun h9 => ?_) (fun h9 => ?_)
    · refine wp_iconst dX12_isDigit_16 ?_
      refine wp_zreturn dX12_isDigit_17 rfl (Or.inl rfl) ?_
      exact kf (by unfold dg; omega)
    · refine wp_iconst dX12_isDigit_12 ?_
      refine wp_goto (tgt := 17) dX12_isDigit_13 rfl ?_
      refine wp_zreturn dX12_isDigit_17 rfl (Or.inr rfl) ?_
      exact kt (by unfold dg; omega)
theorem s_badN (hw : w = -1) (k : R none SHR (ST (RE iv X Y Z) (RF F (a) (a) (p) (h)) N G O T S) lw RVR) : wp (d) mX12_bad 0 [some (aR 0)] [] SHR (ST (RE iv X Y Z) (RF F (a) (w) (p) (h)) N G O T S) lw RVR 0 0 R := by
  refine wp_aload_n dX12_bad_0 rfl ?_
  refine wp_aload_n dX12_bad_1 rfl ?_
  refine wp_getI dX12_bad_2 fX12_86 rfl ?_
  try simp only [ST0, ST5, ST6, ST7, ST8, ST10, ST11, ST12, ST13, ST1, ST2, ST3, ST4, RE1, RE2, RE3, RE4, RF2, RF3, RF4, RF8, RF9, RF13, RF14]
  refine wp_iconst dX12_bad_5 ?_
  refine wp_icmp_ne (tgt := 16) dX12_bad_6 rfl (fun h6 => by exfalso; omega) (fun h6 => ?_)
  refine wp_aload_n dX12_bad_9 rfl ?_
  refine wp_getI dX12_bad_10 fX12_79 rfl ?_
  try simp only [ST0, ST5, ST6, ST7, ST8, ST10, ST11, ST12, ST13, ST1, ST2, ST3, ST4, RE1, RE2, RE3, RE4, RF2, RF3, RF4, RF8, RF9, RF13, RF14]
  refine wp_goto (tgt := 20) dX12_bad_13 rfl ?_
  refine wp_putI dX12_bad_20 fX12_86 rfl ?_
  try simp only [STu0, STu8, STu10, STu11, STu12, STu13, STu2, STu3, STu4, RE2, RE3, RE4, REu2, REu3, REu4, RFu3, RFu4, RFu8, RFu9]
  refine wp_return dX12_bad_23 rfl ?_
  exact k
theorem s_itemOf {cl c : Int} {sh : aSh} {rv : aP} (k : R (some (aI (itF cl c))) sh iv lw rv) : wp d mX12_itemOf 0 [some (aI cl), some (aI c)] [] sh iv lw rv 0 0 R := by
  refine wp_iload_n dX12_itemOf_0 rfl ?_
  refine wp_bipush dX12_itemOf_1 ?_
  refine wp_icmp_ne (tgt := 58) dX12_itemOf_3 rfl (fun h3 => ?_) (fun h3 => ?_)
  · refine wp_iload_n dX12_itemOf_58 rfl ?_
    refine wp_bipush dX12_itemOf_59 ?_
    refine wp_icmp_ne (tgt := 68) dX12_itemOf_61 rfl (fun h61 => ?_) (fun h61 => ?_)
    · refine wp_iload_n dX12_itemOf_68 rfl ?_
      refine wp_bipush dX12_itemOf_69 ?_
      refine wp_icmp_ne (tgt := 78) dX12_itemOf_71 rfl (fun h71 => ?_) (fun h71 => ?_)
      · refine wp_iload_n dX12_itemOf_78 rfl ?_
        refine wp_bipush dX12_itemOf_79 ?_
        refine wp_icmp_ne (tgt := 88) dX12_itemOf_81 rfl (fun h81 => ?_) (fun h81 => ?_)
        · refine wp_iload_n dX12_itemOf_88 rfl ?_
          refine wp_bipush dX12_itemOf_89 ?_
          refine wp_icmp_ne (tgt := 98) dX12_itemOf_91 rfl (fun h91 => ?_) (fun h91 => ?_)
          · refine wp_iconst dX12_itemOf_98 ?_
            refine wp_ireturn dX12_itemOf_99 rfl ?_
            unfold itF at k; (repeat' split at k) <;> first | exact k | (exfalso; omega)
          · refine wp_iconst dX12_itemOf_94 ?_
            refine wp_goto (tgt := 99) dX12_itemOf_95 rfl ?_
            refine wp_ireturn dX12_itemOf_99 rfl ?_
            unfold itF at k; (repeat' split at k) <;> first | exact k | (exfalso; omega)
        · refine wp_iconst dX12_itemOf_84 ?_
          refine wp_goto (tgt := 99) dX12_itemOf_85 rfl ?_
          refine wp_ireturn dX12_itemOf_99 rfl ?_
          unfold itF at k; (repeat' split at k) <;> first | exact k | (exfalso; omega)
      · refine wp_iconst dX12_itemOf_74 ?_
        refine wp_goto (tgt := 99) dX12_itemOf_75 rfl ?_
        refine wp_ireturn dX12_itemOf_99 rfl ?_
        unfold itF at k; (repeat' split at k) <;> first | exact k | (exfalso; omega)
    · refine wp_iconst dX12_itemOf_64 ?_
      refine wp_goto (tgt := 99) dX12_itemOf_65 rfl ?_
      refine wp_ireturn dX12_itemOf_99 rfl ?_
      unfold itF at k; (repeat' split at k) <;> first | exact k | (exfalso; omega)
  · refine wp_iload_n dX12_itemOf_6 rfl ?_
    refine wp_bipush dX12_itemOf_7 ?_
    refine wp_icmp_ne (tgt := 16) dX12_itemOf_9 rfl (fun h9 => ?_) (fun h9 => ?_)
    · refine wp_iload_n dX12_itemOf_16 rfl ?_
      refine wp_bipush dX12_itemOf_17 ?_
      refine wp_icmp_ne (tgt := 26) dX12_itemOf_19 rfl (fun h19 => ?_) (fun h19 => ?_)
      · refine wp_iload_n dX12_itemOf_26 rfl ?_
        refine wp_bipush dX12_itemOf_27 ?_
        refine wp_icmp_ne (tgt := 36) dX12_itemOf_29 rfl (fun h29 => ?_) (fun h29 => ?_)
        · refine wp_iload_n dX12_itemOf_36 rfl ?_
          refine wp_bipush dX12_itemOf_37 ?_
          refine wp_icmp_ne (tgt := 46) dX12_itemOf_39 rfl (fun h39 => ?_) (fun h39 => ?_)
          · refine wp_iload_n dX12_itemOf_46 rfl ?_
            refine wp_bipush dX12_itemOf_47 ?_
            refine wp_icmp_ne (tgt := 56) dX12_itemOf_49 rfl (fun h49 => ?_) (fun h49 => ?_)
            · refine wp_iconst dX12_itemOf_56 ?_
              refine wp_ireturn dX12_itemOf_57 rfl ?_
              unfold itF at k; (repeat' split at k) <;> first | exact k | (exfalso; omega)
            · refine wp_iconst dX12_itemOf_52 ?_
              refine wp_goto (tgt := 57) dX12_itemOf_53 rfl ?_
              refine wp_ireturn dX12_itemOf_57 rfl ?_
              unfold itF at k; (repeat' split at k) <;> first | exact k | (exfalso; omega)
          · refine wp_iconst dX12_itemOf_42 ?_
            refine wp_goto (tgt := 57) dX12_itemOf_43 rfl ?_
            refine wp_ireturn dX12_itemOf_57 rfl ?_
            unfold itF at k; (repeat' split at k) <;> first | exact k | (exfalso; omega)
        · refine wp_iconst dX12_itemOf_32 ?_
          refine wp_goto (tgt := 57) dX12_itemOf_33 rfl ?_
          refine wp_ireturn dX12_itemOf_57 rfl ?_
          unfold itF at k; (repeat' split at k) <;> first | exact k | (exfalso; omega)
      · refine wp_iconst dX12_itemOf_22 ?_
        refine wp_goto (tgt := 57) dX12_itemOf_23 rfl ?_
        refine wp_ireturn dX12_itemOf_57 rfl ?_
        unfold itF at k; (repeat' split at k) <;> first | exact k | (exfalso; omega)
    · refine wp_iconst dX12_itemOf_12 ?_
      refine wp_goto (tgt := 57) dX12_itemOf_13 rfl ?_
      refine wp_ireturn dX12_itemOf_57 rfl ?_
      unfold itF at k; (repeat' split at k) <;> first | exact k | (exfalso; omega)
theorem s_lowest {cl c : Int} {sh : aSh} {rv : aP} (k : R (some (aI (loF cl c))) sh iv lw rv) : wp d mX12_lowest 0 [some (aI cl), some (aI c)] [] sh iv lw rv 0 0 R := by
  refine wp_iload_n dX12_lowest_0 rfl ?_
  refine wp_bipush dX12_lowest_1 ?_
  refine wp_icmp_ne (tgt := 34) dX12_lowest_3 rfl (fun h3 => ?_) (fun h3 => ?_)
  · refine wp_iload_n dX12_lowest_34 rfl ?_
    refine wp_iconst dX12_lowest_35 ?_
    refine wp_icmp_ne (tgt := 43) dX12_lowest_36 rfl (fun h36 => ?_) (fun h36 => ?_)
    · refine wp_iconst dX12_lowest_43 ?_
      refine wp_ireturn dX12_lowest_44 rfl ?_
      unfold loF at k; (repeat' split at k) <;> first | exact k | (exfalso; omega)
    · refine wp_iconst dX12_lowest_39 ?_
      refine wp_goto (tgt := 44) dX12_lowest_40 rfl ?_
      refine wp_ireturn dX12_lowest_44 rfl ?_
      unfold loF at k; (repeat' split at k) <;> first | exact k | (exfalso; omega)
  · refine wp_iload_n dX12_lowest_6 rfl ?_
    refine wp_if_ne (tgt := 14) dX12_lowest_7 rfl (fun h7 => ?_) (fun h7 => ?_)
    · refine wp_iload_n dX12_lowest_14 rfl ?_
      refine wp_iconst dX12_lowest_15 ?_
      refine wp_icmp_ne (tgt := 23) dX12_lowest_16 rfl (fun h16 => ?_) (fun h16 => ?_)
      · refine wp_iload_n dX12_lowest_23 rfl ?_
        refine wp_iconst dX12_lowest_24 ?_
        refine wp_icmp_ne (tgt := 32) dX12_lowest_25 rfl (fun h25 => ?_) (fun h25 => ?_)
        · refine wp_iconst dX12_lowest_32 ?_
          refine wp_ireturn dX12_lowest_33 rfl ?_
          unfold loF at k; (repeat' split at k) <;> first | exact k | (exfalso; omega)
        · refine wp_iconst dX12_lowest_28 ?_
          refine wp_goto (tgt := 33) dX12_lowest_29 rfl ?_
          refine wp_ireturn dX12_lowest_33 rfl ?_
          unfold loF at k; (repeat' split at k) <;> first | exact k | (exfalso; omega)
      · refine wp_iconst dX12_lowest_19 ?_
        refine wp_goto (tgt := 33) dX12_lowest_20 rfl ?_
        refine wp_ireturn dX12_lowest_33 rfl ?_
        unfold loF at k; (repeat' split at k) <;> first | exact k | (exfalso; omega)
    · refine wp_iconst dX12_lowest_10 ?_
      refine wp_goto (tgt := 33) dX12_lowest_11 rfl ?_
      refine wp_ireturn dX12_lowest_33 rfl ?_
      unfold loF at k; (repeat' split at k) <;> first | exact k | (exfalso; omega)
theorem s_highest {cl c : Int} {sh : aSh} {rv : aP} (k : R (some (aI (hiF cl c))) sh iv lw rv) : wp d mX12_highest 0 [some (aI cl), some (aI c)] [] sh iv lw rv 0 0 R := by
  refine wp_iload_n dX12_highest_0 rfl ?_
  refine wp_bipush dX12_highest_1 ?_
  refine wp_icmp_ne (tgt := 36) dX12_highest_3 rfl (fun h3 => ?_) (fun h3 => ?_)
  · refine wp_iload_n dX12_highest_36 rfl ?_
    refine wp_iconst dX12_highest_37 ?_
    refine wp_icmp_ne (tgt := 45) dX12_highest_38 rfl (fun h38 => ?_) (fun h38 => ?_)
    · refine wp_iload_n dX12_highest_45 rfl ?_
      refine wp_iconst dX12_highest_46 ?_
      refine wp_icmp_ne (tgt := 55) dX12_highest_47 rfl (fun h47 => ?_) (fun h47 => ?_)
      · refine wp_iconst dX12_highest_55 ?_
        refine wp_ireturn dX12_highest_56 rfl ?_
        unfold hiF at k; (repeat' split at k) <;> first | exact k | (exfalso; omega)
      · refine wp_bipush dX12_highest_50 ?_
        refine wp_goto (tgt := 56) dX12_highest_52 rfl ?_
        refine wp_ireturn dX12_highest_56 rfl ?_
        unfold hiF at k; (repeat' split at k) <;> first | exact k | (exfalso; omega)
    · refine wp_iconst dX12_highest_41 ?_
      refine wp_goto (tgt := 56) dX12_highest_42 rfl ?_
      refine wp_ireturn dX12_highest_56 rfl ?_
      unfold hiF at k; (repeat' split at k) <;> first | exact k | (exfalso; omega)
  · refine wp_iload_n dX12_highest_6 rfl ?_
    refine wp_if_ne (tgt := 15) dX12_highest_7 rfl (fun h7 => ?_) (fun h7 => ?_)
    · refine wp_iload_n dX12_highest_15 rfl ?_
      refine wp_iconst dX12_highest_16 ?_
      refine wp_icmp_ne (tgt := 24) dX12_highest_17 rfl (fun h17 => ?_) (fun h17 => ?_)
      · refine wp_iload_n dX12_highest_24 rfl ?_
        refine wp_iconst dX12_highest_25 ?_
        refine wp_icmp_ne (tgt := 33) dX12_highest_26 rfl (fun h26 => ?_) (fun h26 => ?_)
        · refine wp_bipush dX12_highest_33 ?_
          refine wp_ireturn dX12_highest_35 rfl ?_
          unfold hiF at k; (repeat' split at k) <;> first | exact k | (exfalso; omega)
        · refine wp_iconst dX12_highest_29 ?_
          refine wp_goto (tgt := 35) dX12_highest_30 rfl ?_
          refine wp_ireturn dX12_highest_35 rfl ?_
          unfold hiF at k; (repeat' split at k) <;> first | exact k | (exfalso; omega)
      · refine wp_iconst dX12_highest_20 ?_
        refine wp_goto (tgt := 35) dX12_highest_21 rfl ?_
        refine wp_ireturn dX12_highest_35 rfl ?_
        unfold hiF at k; (repeat' split at k) <;> first | exact k | (exfalso; omega)
    · refine wp_bipush dX12_highest_10 ?_
      refine wp_goto (tgt := 35) dX12_highest_12 rfl ?_
      refine wp_ireturn dX12_highest_35 rfl ?_
      unfold hiF at k; (repeat' split at k) <;> first | exact k | (exfalso; omega)
theorem s_usual {cl c : Int} {sh : aSh} {rv : aP} (k : R (some (aI (usF cl c))) sh iv lw rv) : wp d mX12_usual 0 [some (aI cl), some (aI c)] [] sh iv lw rv 0 0 R := by
  refine wp_iload_n dX12_usual_0 rfl ?_
  refine wp_bipush dX12_usual_1 ?_
  refine wp_icmp_ne (tgt := 44) dX12_usual_3 rfl (fun h3 => ?_) (fun h3 => ?_)
  · refine wp_iload_n dX12_usual_44 rfl ?_
    refine wp_if_ne (tgt := 52) dX12_usual_45 rfl (fun h45 => ?_) (fun h45 => ?_)
    · refine wp_iload_n dX12_usual_52 rfl ?_
      refine wp_iconst dX12_usual_53 ?_
      refine wp_icmp_ne (tgt := 61) dX12_usual_54 rfl (fun h54 => ?_) (fun h54 => ?_)
      · refine wp_iconst dX12_usual_61 ?_
        refine wp_ireturn dX12_usual_62 rfl ?_
        unfold usF at k; (repeat' split at k) <;> first | exact k | (exfalso; omega)
      · refine wp_iconst dX12_usual_57 ?_
        refine wp_goto (tgt := 62) dX12_usual_58 rfl ?_
        refine wp_ireturn dX12_usual_62 rfl ?_
        unfold usF at k; (repeat' split at k) <;> first | exact k | (exfalso; omega)
    · refine wp_iconst dX12_usual_48 ?_
      refine wp_goto (tgt := 62) dX12_usual_49 rfl ?_
      refine wp_ireturn dX12_usual_62 rfl ?_
      unfold usF at k; (repeat' split at k) <;> first | exact k | (exfalso; omega)
  · refine wp_iload_n dX12_usual_6 rfl ?_
    refine wp_if_ne (tgt := 15) dX12_usual_7 rfl (fun h7 => ?_) (fun h7 => ?_)
    · refine wp_iload_n dX12_usual_15 rfl ?_
      refine wp_iconst dX12_usual_16 ?_
      refine wp_icmp_ne (tgt := 24) dX12_usual_17 rfl (fun h17 => ?_) (fun h17 => ?_)
      · refine wp_iload_n dX12_usual_24 rfl ?_
        refine wp_iconst dX12_usual_25 ?_
        refine wp_icmp_ne (tgt := 33) dX12_usual_26 rfl (fun h26 => ?_) (fun h26 => ?_)
        · refine wp_iload_n dX12_usual_33 rfl ?_
          refine wp_iconst dX12_usual_34 ?_
          refine wp_icmp_ne (tgt := 42) dX12_usual_35 rfl (fun h35 => ?_) (fun h35 => ?_)
          · refine wp_iconst dX12_usual_42 ?_
            refine wp_ireturn dX12_usual_43 rfl ?_
            unfold usF at k; (repeat' split at k) <;> first | exact k | (exfalso; omega)
          · refine wp_iconst dX12_usual_38 ?_
            refine wp_goto (tgt := 43) dX12_usual_39 rfl ?_
            refine wp_ireturn dX12_usual_43 rfl ?_
            unfold usF at k; (repeat' split at k) <;> first | exact k | (exfalso; omega)
        · refine wp_iconst dX12_usual_29 ?_
          refine wp_goto (tgt := 43) dX12_usual_30 rfl ?_
          refine wp_ireturn dX12_usual_43 rfl ?_
          unfold usF at k; (repeat' split at k) <;> first | exact k | (exfalso; omega)
      · refine wp_iconst dX12_usual_20 ?_
        refine wp_goto (tgt := 43) dX12_usual_21 rfl ?_
        refine wp_ireturn dX12_usual_43 rfl ?_
        unfold usF at k; (repeat' split at k) <;> first | exact k | (exfalso; omega)
    · refine wp_bipush dX12_usual_10 ?_
      refine wp_goto (tgt := 43) dX12_usual_12 rfl ?_
      refine wp_ireturn dX12_usual_43 rfl ?_
      unfold usF at k; (repeat' split at k) <;> first | exact k | (exfalso; omega)
theorem s_number {lo hi : Int} (hn : 0 ≤ F 2 ∧ F 2 ≤ 240) (ha : 0 ≤ a ∧ a ≤ F 2) (kt : nmw (iv 1) (F 2) (skp (iv 1) (F 2) a) lo hi = -1 → R (some (aI (nmv (iv 1) (F 2) (skp (iv 1) (F 2) a)))) SHR (ST (RE iv X Y Z) (RF F (nma (iv 1) (F 2) (skp (iv 1) (F 2) a)) (-1) (p) (h)) N G O T S) lw RVR) (kf : ¬ nmw (iv 1) (F 2) (skp (iv 1) (F 2) a) lo hi = -1 → ∀ v a', (0 ≤ a' ∧ a' ≤ 300) → R (some (aI v)) SHR (ST (RE iv X Y Z) (RF F (a') (nmw (iv 1) (F 2) (skp (iv 1) (F 2) a) lo hi) (p) (h)) N G O T S) lw RVR) : wp (d + 2) mX12_number 0 [some (aR 0), some (aI lo), some (aI hi), none] [] SHR (ST (RE iv X Y Z) (RF F (a) (-1) (p) (h)) N G O T S) lw RVR 0 0 R := by
  have hs := skp_r (t := iv 1) ha.1 ha.2
  generalize hj : skp (iv 1) (F 2) a = j at *
  refine wp_aload_n dX12_number_0 rfl ?_
  refine wp_callV (as := []) (ls0 := [_]) (kc := 0) (ks := 0) (bc' := 0) (bs' := 0) dX12_number_1 vX12_89 rfl rfl rfl (Nat.le_of_ble_eq_true rfl) (Nat.le_of_ble_eq_true rfl) (by omega) (by omega) ?_
  refine s_ahead hn ha ?_
  rw [hj]
  refine wp_callS (as := [_]) (ls0 := [_]) (kc := 0) (ks := 0) (bc' := 0) (bs' := 0) dX12_number_4 vX12_92 rfl rfl (Nat.le_of_ble_eq_true rfl) (Nat.le_of_ble_eq_true rfl) (by omega) (by omega) ?_
  refine s_isDigit (fun h4 => ?_) (fun h4 => ?_)
  · have d1 := h4
    have l1 := dg_lt h4
    unfold dg at h4
    refine wp_if_ne (tgt := 16) dX12_number_7 rfl (fun _ => ?_) (fun q => absurd q (by decide))
    refine wp_aload_n dX12_number_16 rfl ?_
    refine wp_callV (as := []) (ls0 := [_]) (kc := 0) (ks := 0) (bc' := 0) (bs' := 0) dX12_number_17 vX12_82 rfl rfl rfl (Nat.le_of_ble_eq_true rfl) (Nat.le_of_ble_eq_true rfl) (by omega) (by omega) ?_
    refine s_here hn (by omega) ?_
    refine wp_bipush dX12_number_20 ?_
    refine wp_isub dX12_number_22 ⟨by omega, by omega⟩ ?_
    refine wp_istore_n (ls' := [_, _, _, _]) dX12_number_23 (by decide) rfl rfl ?_
    refine wp_aload_n dX12_number_24 rfl ?_
    refine wp_dup dX12_number_25 rfl ?_
    refine wp_getI dX12_number_26 fX12_79 rfl ?_
    try simp only [ST0, ST5, ST6, ST7, ST8, ST10, ST11, ST12, ST13, ST1, ST2, ST3, ST4, RE1, RE2, RE3, RE4, RF2, RF3, RF4, RF8, RF9, RF13, RF14]
    refine wp_iconst dX12_number_29 ?_
    refine wp_iadd dX12_number_30 ⟨by omega, by omega⟩ ?_
    refine wp_putI dX12_number_31 fX12_79 rfl ?_
    try simp only [STu0, STu8, STu10, STu11, STu12, STu13, STu2, STu3, STu4, RE2, RE3, RE4, REu2, REu3, REu4, RFu3, RFu4, RFu8, RFu9]
    refine wp_aload_n dX12_number_34 rfl ?_
    refine wp_callV (as := []) (ls0 := [_]) (kc := 0) (ks := 0) (bc' := 0) (bs' := 0) dX12_number_35 vX12_82 rfl rfl rfl (Nat.le_of_ble_eq_true rfl) (Nat.le_of_ble_eq_true rfl) (by omega) (by omega) ?_
    refine s_here hn (by omega) ?_
    refine wp_callS (as := [_]) (ls0 := [_]) (kc := 0) (ks := 0) (bc' := 0) (bs' := 0) dX12_number_38 vX12_92 rfl rfl (Nat.le_of_ble_eq_true rfl) (Nat.le_of_ble_eq_true rfl) (by omega) (by omega) ?_
    refine s_isDigit (fun h38 => ?_) (fun h38 => ?_)
    · have d2 := h38
      have l2 := dg_lt h38
      unfold dg at h38
      refine wp_if_eq (tgt := 67) dX12_number_41 rfl (fun q => absurd q (by decide)) (fun _ => ?_)
      refine wp_bipush dX12_number_44 ?_
      refine wp_iload_n dX12_number_46 rfl ?_
      refine wp_imul dX12_number_47 ⟨by omega, by omega⟩ ?_
      refine wp_aload_n dX12_number_48 rfl ?_
      refine wp_callV (as := []) (ls0 := [_]) (kc := 0) (ks := 0) (bc' := 0) (bs' := 0) dX12_number_49 vX12_82 rfl rfl rfl (Nat.le_of_ble_eq_true rfl) (Nat.le_of_ble_eq_true rfl) (by omega) (by omega) ?_
      refine s_here hn (by omega) ?_
      refine wp_iadd dX12_number_52 ⟨by omega, by omega⟩ ?_
      refine wp_bipush dX12_number_53 ?_
      refine wp_isub dX12_number_55 ⟨by omega, by omega⟩ ?_
      refine wp_istore_n (ls' := [_, _, _, _]) dX12_number_56 (by decide) rfl rfl ?_
      refine wp_aload_n dX12_number_57 rfl ?_
      refine wp_dup dX12_number_58 rfl ?_
      refine wp_getI dX12_number_59 fX12_79 rfl ?_
      try simp only [ST0, ST5, ST6, ST7, ST8, ST10, ST11, ST12, ST13, ST1, ST2, ST3, ST4, RE1, RE2, RE3, RE4, RF2, RF3, RF4, RF8, RF9, RF13, RF14]
      refine wp_iconst dX12_number_62 ?_
      refine wp_iadd dX12_number_63 ⟨by omega, by omega⟩ ?_
      refine wp_putI dX12_number_64 fX12_79 rfl ?_
      try simp only [STu0, STu8, STu10, STu11, STu12, STu13, STu2, STu3, STu4, RE2, RE3, RE4, REu2, REu3, REu4, RFu3, RFu4, RFu8, RFu9]
      refine wp_aload_n dX12_number_67 rfl ?_
      refine wp_callV (as := []) (ls0 := [_]) (kc := 0) (ks := 0) (bc' := 0) (bs' := 0) dX12_number_68 vX12_82 rfl rfl rfl (Nat.le_of_ble_eq_true rfl) (Nat.le_of_ble_eq_true rfl) (by omega) (by omega) ?_
      refine s_here hn (by omega) ?_
      refine wp_callS (as := [_]) (ls0 := [_]) (kc := 0) (ks := 0) (bc' := 0) (bs' := 0) dX12_number_71 vX12_92 rfl rfl (Nat.le_of_ble_eq_true rfl) (Nat.le_of_ble_eq_true rfl) (by omega) (by omega) ?_
      refine s_isDigit (fun h71 => ?_) (fun h71 => ?_)
      · have ew : nmw (iv 1) (F 2) j lo hi = j + 2 := by
          unfold nmw
          first
          | (rw [if_neg (fun z => z d1), if_neg (fun z => z d2), if_pos (show dg (sg (iv 1) (F 2) (j + 2)) from by rw [show j + 2 = j + 1 + 1 by omega]; exact h71)])
          | exact absurd h71 h38
        have hk := fun v => kf (by rw [ew]; omega) v (j + 2) (by omega)
        rw [ew, show j + 2 = j + 1 + 1 by omega] at hk
        refine wp_if_eq (tgt := 84) dX12_number_74 rfl (fun q => absurd q (by decide)) (fun _ => ?_)
        refine wp_aload_n dX12_number_77 rfl ?_
        refine wp_callV (as := []) (ls0 := [_]) (kc := 0) (ks := 0) (bc' := 0) (bs' := 0) dX12_number_78 vX12_96 rfl rfl rfl (Nat.le_of_ble_eq_true rfl) (Nat.le_of_ble_eq_true rfl) (by omega) (by omega) ?_
        refine s_badN rfl ?_
        refine wp_goto (tgt := 107) dX12_number_81 rfl ?_
        refine wp_iload_n dX12_number_107 rfl ?_
        refine wp_ireturn dX12_number_108 rfl ?_
        first
        | exact absurd h71 h38
        | exact hk _
        | (have hk := kt ew
           rw [ev, ea] at hk
           unfold nv2 at hk
           rw [show 10 * (sg (iv 1) (F 2) j - 48) + sg (iv 1) (F 2) (j + 1) - 48 = 10 * (sg (iv 1) (F 2) j - 48) + (sg (iv 1) (F 2) (j + 1) - 48) by omega]
           exact hk)
        | (have hk := kt ew
           rw [ev, ea] at hk
           exact hk)
        | (have hk := kf (by rw [ew]; omega)
           rw [ew] at hk
           first
           | exact hk _ _ (by omega)
           | (rw [show j + 1 + 1 - 1 = j + 1 by omega]; exact hk _ _ (by omega))
           | (rw [show j + 1 - 1 = j by omega]; exact hk _ _ (by omega)))
      · first
        | (have n2 : ¬ dg (sg (iv 1) (F 2) (j + 1)) := h38
           have ev : nmv (iv 1) (F 2) j = sg (iv 1) (F 2) j - 48 := by unfold nmv; rw [if_pos n2]
           have ea : nma (iv 1) (F 2) j = j + 1 := by unfold nma; rw [if_pos n2]
           have ew : nmw (iv 1) (F 2) j lo hi = if lo ≤ sg (iv 1) (F 2) j - 48 ∧ sg (iv 1) (F 2) j - 48 ≤ hi then -1 else j := by unfold nmw; rw [if_neg (fun z => z d1), if_pos n2])
        | (have ev : nmv (iv 1) (F 2) j = nv2 (iv 1) (F 2) j := by unfold nmv; rw [if_neg (fun z => z d2)]
           have ea : nma (iv 1) (F 2) j = j + 1 + 1 := by unfold nma; rw [if_neg (fun z => z d2)]; omega
           have ew : nmw (iv 1) (F 2) j lo hi = if lo ≤ nv2 (iv 1) (F 2) j ∧ nv2 (iv 1) (F 2) j ≤ hi then -1 else j + 1 := by
             unfold nmw; rw [if_neg (fun z => z d1), if_neg (fun z => z d2), if_neg (show ¬ dg (sg (iv 1) (F 2) (j + 2)) from by rw [show j + 2 = j + 1 + 1 by omega]; exact h71)])
        refine wp_if_eq (tgt := 84) dX12_number_74 rfl (fun _ => ?_) (fun q => absurd q (by decide))
        refine wp_iload_n dX12_number_84 rfl ?_
        refine wp_iload_n dX12_number_85 rfl ?_
        refine wp_iload_n dX12_number_86 rfl ?_
        refine wp_callS (as := [_, _, _]) (ls0 := [_, _, _]) (kc := 0) (ks := 0) (bc' := 0) (bs' := 0) dX12_number_87 vX12_75 rfl rfl (Nat.le_of_ble_eq_true rfl) (Nat.le_of_ble_eq_true rfl) (by omega) (by omega) ?_
        refine s_in (fun h87 => ?_) (fun h87 => ?_)
        · first | rw [if_pos (by omega)] at ew | rw [if_pos (by unfold nv2; omega)] at ew
          refine wp_if_ne (tgt := 107) dX12_number_90 rfl (fun _ => ?_) (fun q => absurd q (by decide))
          refine wp_iload_n dX12_number_107 rfl ?_
          refine wp_ireturn dX12_number_108 rfl ?_
          first
          | exact absurd h71 h38
          | exact hk _
          | (have hk := kt ew
             rw [ev, ea] at hk
             unfold nv2 at hk
             rw [show 10 * (sg (iv 1) (F 2) j - 48) + sg (iv 1) (F 2) (j + 1) - 48 = 10 * (sg (iv 1) (F 2) j - 48) + (sg (iv 1) (F 2) (j + 1) - 48) by omega]
             exact hk)
          | (have hk := kt ew
             rw [ev, ea] at hk
             exact hk)
          | (have hk := kf (by rw [ew]; omega)
             rw [ew] at hk
             first
             | exact hk _ _ (by omega)
             | (rw [show j + 1 + 1 - 1 = j + 1 by omega]; exact hk _ _ (by omega))
             | (rw [show j + 1 - 1 = j by omega]; exact hk _ _ (by omega)))
        · first | rw [if_neg (by omega)] at ew | rw [if_neg (by unfold nv2; omega)] at ew
          refine wp_if_ne (tgt := 107) dX12_number_90 rfl (fun q => absurd q (by decide)) (fun _ => ?_)
          refine wp_aload_n dX12_number_93 rfl ?_
          refine wp_dup dX12_number_94 rfl ?_
          refine wp_getI dX12_number_95 fX12_79 rfl ?_
          try simp only [ST0, ST5, ST6, ST7, ST8, ST10, ST11, ST12, ST13, ST1, ST2, ST3, ST4, RE1, RE2, RE3, RE4, RF2, RF3, RF4, RF8, RF9, RF13, RF14]
          refine wp_iconst dX12_number_98 ?_
          refine wp_isub dX12_number_99 ⟨by omega, by omega⟩ ?_
          refine wp_putI dX12_number_100 fX12_79 rfl ?_
          try simp only [STu0, STu8, STu10, STu11, STu12, STu13, STu2, STu3, STu4, RE2, RE3, RE4, REu2, REu3, REu4, RFu3, RFu4, RFu8, RFu9]
          refine wp_aload_n dX12_number_103 rfl ?_
          refine wp_callV (as := []) (ls0 := [_]) (kc := 0) (ks := 0) (bc' := 0) (bs' := 0) dX12_number_104 vX12_96 rfl rfl rfl (Nat.le_of_ble_eq_true rfl) (Nat.le_of_ble_eq_true rfl) (by omega) (by omega) ?_
          refine s_badN rfl ?_
          refine wp_iload_n dX12_number_107 rfl ?_
          refine wp_ireturn dX12_number_108 rfl ?_
          first
          | exact absurd h71 h38
          | exact hk _
          | (have hk := kt ew
             rw [ev, ea] at hk
             unfold nv2 at hk
             rw [show 10 * (sg (iv 1) (F 2) j - 48) + sg (iv 1) (F 2) (j + 1) - 48 = 10 * (sg (iv 1) (F 2) j - 48) + (sg (iv 1) (F 2) (j + 1) - 48) by omega]
             exact hk)
          | (have hk := kt ew
             rw [ev, ea] at hk
             exact hk)
          | (have hk := kf (by rw [ew]; omega)
             rw [ew] at hk
             first
             | exact hk _ _ (by omega)
             | (rw [show j + 1 + 1 - 1 = j + 1 by omega]; exact hk _ _ (by omega))
             | (rw [show j + 1 - 1 = j by omega]; exact hk _ _ (by omega)))
    · refine wp_if_eq (tgt := 67) dX12_number_41 rfl (fun _ => ?_) (fun q => absurd q (by decide))
      refine wp_aload_n dX12_number_67 rfl ?_
      refine wp_callV (as := []) (ls0 := [_]) (kc := 0) (ks := 0) (bc' := 0) (bs' := 0) dX12_number_68 vX12_82 rfl rfl rfl (Nat.le_of_ble_eq_true rfl) (Nat.le_of_ble_eq_true rfl) (by omega) (by omega) ?_
      refine s_here hn (by omega) ?_
      refine wp_callS (as := [_]) (ls0 := [_]) (kc := 0) (ks := 0) (bc' := 0) (bs' := 0) dX12_number_71 vX12_92 rfl rfl (Nat.le_of_ble_eq_true rfl) (Nat.le_of_ble_eq_true rfl) (by omega) (by omega) ?_
      refine s_isDigit (fun h71 => ?_) (fun h71 => ?_)
      · have ew : nmw (iv 1) (F 2) j lo hi = j + 2 := by
          unfold nmw
          first
          | (rw [if_neg (fun z => z d1), if_neg (fun z => z d2), if_pos (show dg (sg (iv 1) (F 2) (j + 2)) from by rw [show j + 2 = j + 1 + 1 by omega]; exact h71)])
          | exact absurd h71 h38
        have hk := fun v => kf (by rw [ew]; omega) v (j + 2) (by omega)
        rw [ew, show j + 2 = j + 1 + 1 by omega] at hk
        refine wp_if_eq (tgt := 84) dX12_number_74 rfl (fun q => absurd q (by decide)) (fun _ => ?_)
        refine wp_aload_n dX12_number_77 rfl ?_
        refine wp_callV (as := []) (ls0 := [_]) (kc := 0) (ks := 0) (bc' := 0) (bs' := 0) dX12_number_78 vX12_96 rfl rfl rfl (Nat.le_of_ble_eq_true rfl) (Nat.le_of_ble_eq_true rfl) (by omega) (by omega) ?_
        refine s_badN rfl ?_
        refine wp_goto (tgt := 107) dX12_number_81 rfl ?_
        refine wp_iload_n dX12_number_107 rfl ?_
        refine wp_ireturn dX12_number_108 rfl ?_
        first
        | exact absurd h71 h38
        | exact hk _
        | (have hk := kt ew
           rw [ev, ea] at hk
           unfold nv2 at hk
           rw [show 10 * (sg (iv 1) (F 2) j - 48) + sg (iv 1) (F 2) (j + 1) - 48 = 10 * (sg (iv 1) (F 2) j - 48) + (sg (iv 1) (F 2) (j + 1) - 48) by omega]
           exact hk)
        | (have hk := kt ew
           rw [ev, ea] at hk
           exact hk)
        | (have hk := kf (by rw [ew]; omega)
           rw [ew] at hk
           first
           | exact hk _ _ (by omega)
           | (rw [show j + 1 + 1 - 1 = j + 1 by omega]; exact hk _ _ (by omega))
           | (rw [show j + 1 - 1 = j by omega]; exact hk _ _ (by omega)))
      · first
        | (have n2 : ¬ dg (sg (iv 1) (F 2) (j + 1)) := h38
           have ev : nmv (iv 1) (F 2) j = sg (iv 1) (F 2) j - 48 := by unfold nmv; rw [if_pos n2]
           have ea : nma (iv 1) (F 2) j = j + 1 := by unfold nma; rw [if_pos n2]
           have ew : nmw (iv 1) (F 2) j lo hi = if lo ≤ sg (iv 1) (F 2) j - 48 ∧ sg (iv 1) (F 2) j - 48 ≤ hi then -1 else j := by unfold nmw; rw [if_neg (fun z => z d1), if_pos n2])
        | (have ev : nmv (iv 1) (F 2) j = nv2 (iv 1) (F 2) j := by unfold nmv; rw [if_neg (fun z => z d2)]
           have ea : nma (iv 1) (F 2) j = j + 1 + 1 := by unfold nma; rw [if_neg (fun z => z d2)]; omega
           have ew : nmw (iv 1) (F 2) j lo hi = if lo ≤ nv2 (iv 1) (F 2) j ∧ nv2 (iv 1) (F 2) j ≤ hi then -1 else j + 1 := by
             unfold nmw; rw [if_neg (fun z => z d1), if_neg (fun z => z d2), if_neg (show ¬ dg (sg (iv 1) (F 2) (j + 2)) from by rw [show j + 2 = j + 1 + 1 by omega]; exact h71)])
        refine wp_if_eq (tgt := 84) dX12_number_74 rfl (fun _ => ?_) (fun q => absurd q (by decide))
        refine wp_iload_n dX12_number_84 rfl ?_
        refine wp_iload_n dX12_number_85 rfl ?_
        refine wp_iload_n dX12_number_86 rfl ?_
        refine wp_callS (as := [_, _, _]) (ls0 := [_, _, _]) (kc := 0) (ks := 0) (bc' := 0) (bs' := 0) dX12_number_87 vX12_75 rfl rfl (Nat.le_of_ble_eq_true rfl) (Nat.le_of_ble_eq_true rfl) (by omega) (by omega) ?_
        refine s_in (fun h87 => ?_) (fun h87 => ?_)
        · first | rw [if_pos (by omega)] at ew | rw [if_pos (by unfold nv2; omega)] at ew
          refine wp_if_ne (tgt := 107) dX12_number_90 rfl (fun _ => ?_) (fun q => absurd q (by decide))
          refine wp_iload_n dX12_number_107 rfl ?_
          refine wp_ireturn dX12_number_108 rfl ?_
          first
          | exact absurd h71 h38
          | exact hk _
          | (have hk := kt ew
             rw [ev, ea] at hk
             unfold nv2 at hk
             rw [show 10 * (sg (iv 1) (F 2) j - 48) + sg (iv 1) (F 2) (j + 1) - 48 = 10 * (sg (iv 1) (F 2) j - 48) + (sg (iv 1) (F 2) (j + 1) - 48) by omega]
             exact hk)
          | (have hk := kt ew
             rw [ev, ea] at hk
             exact hk)
          | (have hk := kf (by rw [ew]; omega)
             rw [ew] at hk
             first
             | exact hk _ _ (by omega)
             | (rw [show j + 1 + 1 - 1 = j + 1 by omega]; exact hk _ _ (by omega))
             | (rw [show j + 1 - 1 = j by omega]; exact hk _ _ (by omega)))
        · first | rw [if_neg (by omega)] at ew | rw [if_neg (by unfold nv2; omega)] at ew
          refine wp_if_ne (tgt := 107) dX12_number_90 rfl (fun q => absurd q (by decide)) (fun _ => ?_)
          refine wp_aload_n dX12_number_93 rfl ?_
          refine wp_dup dX12_number_94 rfl ?_
          refine wp_getI dX12_number_95 fX12_79 rfl ?_
          try simp only [ST0, ST5, ST6, ST7, ST8, ST10, ST11, ST12, ST13, ST1, ST2, ST3, ST4, RE1, RE2, RE3, RE4, RF2, RF3, RF4, RF8, RF9, RF13, RF14]
          refine wp_iconst dX12_number_98 ?_
          refine wp_isub dX12_number_99 ⟨by omega, by omega⟩ ?_
          refine wp_putI dX12_number_100 fX12_79 rfl ?_
          try simp only [STu0, STu8, STu10, STu11, STu12, STu13, STu2, STu3, STu4, RE2, RE3, RE4, REu2, REu3, REu4, RFu3, RFu4, RFu8, RFu9]
          refine wp_aload_n dX12_number_103 rfl ?_
          refine wp_callV (as := []) (ls0 := [_]) (kc := 0) (ks := 0) (bc' := 0) (bs' := 0) dX12_number_104 vX12_96 rfl rfl rfl (Nat.le_of_ble_eq_true rfl) (Nat.le_of_ble_eq_true rfl) (by omega) (by omega) ?_
          refine s_badN rfl ?_
          refine wp_iload_n dX12_number_107 rfl ?_
          refine wp_ireturn dX12_number_108 rfl ?_
          first
          | exact absurd h71 h38
          | exact hk _
          | (have hk := kt ew
             rw [ev, ea] at hk
             unfold nv2 at hk
             rw [show 10 * (sg (iv 1) (F 2) j - 48) + sg (iv 1) (F 2) (j + 1) - 48 = 10 * (sg (iv 1) (F 2) j - 48) + (sg (iv 1) (F 2) (j + 1) - 48) by omega]
             exact hk)
          | (have hk := kt ew
             rw [ev, ea] at hk
             exact hk)
          | (have hk := kf (by rw [ew]; omega)
             rw [ew] at hk
             first
             | exact hk _ _ (by omega)
             | (rw [show j + 1 + 1 - 1 = j + 1 by omega]; exact hk _ _ (by omega))
             | (rw [show j + 1 - 1 = j by omega]; exact hk _ _ (by omega)))
  · have ew : nmw (iv 1) (F 2) j lo hi = j := by unfold nmw; rw [if_pos h4]
    have hk := kf (by rw [ew]; omega) lo j (by omega)
    rw [ew] at hk
    refine wp_if_ne (tgt := 16) dX12_number_7 rfl (fun q => absurd q (by decide)) (fun _ => ?_)
    refine wp_aload_n dX12_number_10 rfl ?_
    refine wp_callV (as := []) (ls0 := [_]) (kc := 0) (ks := 0) (bc' := 0) (bs' := 0) dX12_number_11 vX12_96 rfl rfl rfl (Nat.le_of_ble_eq_true rfl) (Nat.le_of_ble_eq_true rfl) (by omega) (by omega) ?_
    refine s_badN rfl ?_
    refine wp_iload_n dX12_number_14 rfl ?_
    refine wp_ireturn dX12_number_15 rfl ?_
    exact hk
end R26
