/-! ===== rows copied ===== -/
def cpR (M K : Int → Int) (off c : Int) : Int → Int := fun k => if 0 ≤ k ∧ k < c then K (off + k) else M k
def cpW (D N : Int → Int) (off c : Int) : Int → Int := fun z => if off ≤ z ∧ z < off + c then N (z - off) else D z
def shK (K : Int → Int) (c : Int) : Int → Int := fun z => if 0 ≤ z ∧ z < c then K (z + 550) else K z
def shG (N : Int → Int) (c : Int) : Int → Int := fun j => if 370 ≤ j ∧ j < 370 + c then N (j + 3) else N j
section R18a
variable {M K D N : Int → Int} {off c : Int}
theorem cpR_0 : cpR M K off 0 = M := by funext k; unfold cpR; rw [if_neg (by omega)]
theorem cpW_0 : cpW D N off 0 = D := by funext k; unfold cpW; rw [if_neg (by omega)]
theorem shK_0 : shK K 0 = K := by funext k; unfold shK; rw [if_neg (by omega)]
theorem shG_0 : shG N 0 = N := by funext k; unfold shG; rw [if_neg (by omega)]
theorem cpR_s (h : 0 ≤ c) : up (cpR M K off c) c (K (off + c)) = cpR M K off (c + 1) := by
  funext k
  by_cases e : k = c
  · subst e; rw [up_s]; unfold cpR; rw [if_pos (by omega)]
  · rw [up_n e]; unfold cpR
    by_cases e2 : 0 ≤ k ∧ k < c
    · rw [if_pos e2, if_pos (by omega)]
    · rw [if_neg e2, if_neg (by omega)]
theorem cpW_s (h : 0 ≤ c) : up (cpW D N off c) (off + c) (N c) = cpW D N off (c + 1) := by
  funext k
  by_cases e : k = off + c
  · subst e; rw [up_s]; unfold cpW; rw [if_pos (by omega), show off + c - off = c by omega]
  · rw [up_n e]; unfold cpW
    by_cases e2 : off ≤ k ∧ k < off + c
    · rw [if_pos e2, if_pos (by omega)]
    · rw [if_neg e2, if_neg (by omega)]
theorem shK_s (h : 0 ≤ c) : up (shK K c) c (shK K c (c + 550)) = shK K (c + 1) := by
  funext k
  by_cases e : k = c
  · subst e; rw [up_s]; unfold shK; rw [if_neg (by omega), if_pos (by omega)]
  · rw [up_n e]; unfold shK
    by_cases e2 : 0 ≤ k ∧ k < c
    · rw [if_pos e2, if_pos (by omega)]
    · rw [if_neg e2, if_neg (by omega)]
theorem shG_s (h : 0 ≤ c) : up (shG N c) (370 + c) (shG N c (370 + (c + 3))) = shG N (c + 1) := by
  funext k
  by_cases e : k = 370 + c
  · subst e; rw [up_s]; unfold shG; rw [if_neg (by omega), if_pos (by omega), show 370 + (c + 3) = 370 + c + 3 by omega]
  · rw [up_n e]; unfold shG
    by_cases e2 : 370 ≤ k ∧ k < 370 + c
    · rw [if_pos e2, if_pos (by omega)]
    · rw [if_neg e2, if_neg (by omega)]
end R18a
/-- the log with one more -/
def lgt (N : Int → Int) : Int := if N 369 = 60 then 59 else N 369
def lgb (N : Int → Int) : Int → Int := if N 369 = 60 then up (shG N 177) 369 59 else N
def lgF (N : Int → Int) (a b c : Int) : Int → Int := up (up (up (up (lgb N) (370 + 3 * lgt N) a) (370 + 3 * lgt N + 1) b) (370 + 3 * lgt N + 2) c) 369 (lgt N + 1)
noncomputable def pasF (iv : aF) (F N : Int → Int) : Int → Int := lgF (livF iv F N) (cntP (LtP (livF iv F N)) (F 13).toNat) (shA (livF iv F N) (F 13).toNat) (gtA iv F (preF iv F N) (F 13).toNat 0)
/-- the acts kept, with one more -/
def kpa (a : Int) : Int := if a = 40 then 39 else a
def kpF (K N : Int → Int) (a : Int) : Int → Int := cpW (if a = 40 then shK K 21450 else K) N (550 * kpa a) 550
theorem fnd_cg {f g : Int → Int} {p b c : Int} (n : Nat) : ∀ i : Int, (∀ j : Int, i ≤ j → j < i + n → f (61 * p + (b + j)) = g (61 * p + (b + j))) → fnd f p b c n i = fnd g p b c n i := by
  induction n with
  | zero => intro i h; rfl
  | succ n ih => intro i h; rw [fnd, fnd, h i (by omega) (by omega), ih (i + 1) (fun j a b => h j (by omega) (by omega))]
theorem plc_cg {N N1 : Int → Int} {p q c : Int} (hq : q = 0 ∨ q = 1) (hm : N (61 * p + mq q) ≤ 6) (e : ∀ k : Int, 0 ≤ k → k < 26 → N1 (61 * p + k) = N (61 * p + k)) : plc N1 p q c = plc N p q c := by
  have h1 := bq_r hq
  have h2 := mq_r hq
  unfold plc
  rw [e (mq q) (by omega) (by omega)]
  exact fnd_cg _ _ (fun j a b => e _ (by omega) (by omega))
theorem shP_c {N N1 : Int → Int} {p W Of : Int} (hB : Bok W Of N) (hp : 0 ≤ p ∧ p < 6) (e : ∀ k : Int, 0 ≤ k → k < 26 → N1 (61 * p + k) = N (61 * p + k)) : shP N1 p = shP N p := by
  have h18 := hB.v18 hp
  unfold shP
  rw [e 18 (by omega) (by omega)]
  exact cntP_c _ (fun a a0 a1 => by
    show ¬ plc N1 p 1 (N1 (61 * p + (0 + a))) = -1 ↔ ¬ plc N p 1 (N (61 * p + (0 + a))) = -1
    rw [e (0 + a) (by omega) (by omega), plc_cg (Or.inr rfl) (hB.mny hp (Or.inr rfl)).2 e])
theorem shA_c {N N1 : Int → Int} {W Of : Int} (hB : Bok W Of N) (m : Nat) (hm : m ≤ 6) (e : ∀ j : Int, j < 366 → N1 j = N j) : shA N1 m = shA N m := by
  induction m with
  | zero => rfl
  | succ m ih => rw [shA, shA, ih (by omega), shP_c hB (by omega) (fun k a b => e _ (by omega))]
section R18
variable {d : Nat} {iv lw : aF} {F N G O T S K : Int → Int} {R : aPost}
theorem l_keep1 (k : ∀ v1, wp (d) mX12_keep 42 [some (aR 0), some v1] [] SHR (ST (uA iv 14 (shK K 21450)) F N G O T S) lw RVR 0 0 R) (m : Nat) : ∀ c : Int, 0 ≤ c → c + m = 21450 → wp (d) mX12_keep 13 [some (aR 0), some (aI (c + 550))] [] SHR (ST (uA iv 14 (shK K c)) F N G O T S) lw RVR 0 0 R := by
  induction m with
  | zero =>
    intro c h0 hm
    refine wp_iload_n dX12_keep_13 rfl ?_
    refine wp_sipush dX12_keep_14 ?_
    refine wp_icmp_ge (tgt := 42) dX12_keep_17 rfl (fun h17 => ?_) (fun h17 => by exfalso; omega)
    rw [show c = 21450 by omega]; exact k _
  | succ m ih =>
    intro c h0 hm
    refine wp_iload_n dX12_keep_13 rfl ?_
    refine wp_sipush dX12_keep_14 ?_
    refine wp_icmp_ge (tgt := 42) dX12_keep_17 rfl (fun h17 => by exfalso; omega) (fun h17 => ?_)
    refine wp_aload_n dX12_keep_20 rfl ?_
    refine wp_getR rfl dX12_keep_21 fX12_53 rfl ?_
    refine wp_iload_n dX12_keep_24 rfl ?_
    refine wp_sipush dX12_keep_25 ?_
    refine wp_isub dX12_keep_28 ⟨by omega, by omega⟩ ?_
    refine wp_aload_n dX12_keep_29 rfl ?_
    refine wp_getR rfl dX12_keep_30 fX12_53 rfl ?_
    refine wp_iload_n dX12_keep_33 rfl ?_
    refine wp_iald dX12_keep_34 rfl (by omega) (by omega) ?_
    try simp only [ST0, ST5, ST6, ST7, ST8, ST10, ST11, ST12, ST13, ST14, ST15, ST16, ST17, uA_s]
    refine wp_iast dX12_keep_35 rfl (by omega) (by omega) ?_
    try simp only [STu0, STu8, STu10, STu11, STu12, STu13, STu14, STu15, STu16, STu17, STu9, uA_s, uA_uA]
    rw [show c + 550 - 550 = c by omega, shK_s h0]
    refine wp_iinc (ls' := [_, _]) dX12_keep_36 (by decide) rfl rfl ⟨by omega, by omega⟩ rfl ?_
    refine wp_goto (tgt := 13) dX12_keep_39 rfl ?_
    rw [show c + 550 + 1 = c + 1 + 550 by omega]; exact ih _ (by omega) (by omega)
theorem l_keep2 (h25 : 0 ≤ F 25 ∧ F 25 < 40) (k : R none SHR (ST (uA iv 14 (cpW K N (550 * F 25) 550)) (up F 25 (F 25 + 1)) N G O T S) lw RVR) (m : Nat) : ∀ c : Int, 0 ≤ c → c + m = 550 → wp (d) mX12_keep 54 [some (aR 0), some (aI c)] [] SHR (ST (uA iv 14 (cpW K N (550 * F 25) c)) F N G O T S) lw RVR 0 0 R := by
  induction m with
  | zero =>
    intro c h0 hm
    refine wp_iload_n dX12_keep_54 rfl ?_
    refine wp_sipush dX12_keep_55 ?_
    refine wp_icmp_ge (tgt := 88) dX12_keep_58 rfl (fun h58 => ?_) (fun h58 => by exfalso; omega)
    refine wp_aload_n dX12_keep_88 rfl ?_
    refine wp_dup dX12_keep_89 rfl ?_
    refine wp_getI dX12_keep_90 fX12_145 rfl ?_
    try simp only [ST0, ST5, ST6, ST7, ST8, ST10, ST11, ST12, ST13, ST14, ST15, ST16, ST17, uA_s]
    refine wp_iconst dX12_keep_93 ?_
    refine wp_iadd dX12_keep_94 ⟨by omega, by omega⟩ ?_
    refine wp_putI dX12_keep_95 fX12_145 rfl ?_
    try simp only [STu0, STu8, STu10, STu11, STu12, STu13, STu14, STu15, STu16, STu17, STu9, uA_s, uA_uA]
    refine wp_return dX12_keep_98 rfl ?_
    rw [show c = 550 by omega]; exact k
  | succ m ih =>
    intro c h0 hm
    refine wp_iload_n dX12_keep_54 rfl ?_
    refine wp_sipush dX12_keep_55 ?_
    refine wp_icmp_ge (tgt := 88) dX12_keep_58 rfl (fun h58 => by exfalso; omega) (fun h58 => ?_)
    refine wp_aload_n dX12_keep_61 rfl ?_
    refine wp_getR rfl dX12_keep_62 fX12_53 rfl ?_
    refine wp_sipush dX12_keep_65 ?_
    refine wp_aload_n dX12_keep_68 rfl ?_
    refine wp_getI dX12_keep_69 fX12_145 rfl ?_
    try simp only [ST0, ST5, ST6, ST7, ST8, ST10, ST11, ST12, ST13, ST14, ST15, ST16, ST17, uA_s]
    refine wp_imul dX12_keep_72 ⟨by omega, by omega⟩ ?_
    refine wp_iload_n dX12_keep_73 rfl ?_
    refine wp_iadd dX12_keep_74 ⟨by omega, by omega⟩ ?_
    refine wp_aload_n dX12_keep_75 rfl ?_
    refine wp_getR rfl dX12_keep_76 fX12_31 rfl ?_
    refine wp_iload_n dX12_keep_79 rfl ?_
    refine wp_iald dX12_keep_80 rfl (by omega) (by omega) ?_
    try simp only [ST0, ST5, ST6, ST7, ST8, ST10, ST11, ST12, ST13, ST14, ST15, ST16, ST17, uA_s]
    refine wp_iast dX12_keep_81 rfl (by omega) (by omega) ?_
    try simp only [STu0, STu8, STu10, STu11, STu12, STu13, STu14, STu15, STu16, STu17, STu9, uA_s, uA_uA]
    rw [cpW_s h0]
    refine wp_iinc (ls' := [_, _]) dX12_keep_82 (by decide) rfl rfl ⟨by omega, by omega⟩ rfl ?_
    refine wp_goto (tgt := 54) dX12_keep_85 rfl ?_
    exact ih _ (by omega) (by omega)
theorem s_keep (h25 : 0 ≤ F 25 ∧ F 25 ≤ 40) (k : R none SHR (ST (uA iv 14 (kpF (iv 14) N (F 25))) (up F 25 (kpa (F 25) + 1)) N G O T S) lw RVR) : wp (d) mX12_keep 0 [some (aR 0), none] [] SHR (ST iv F N G O T S) lw RVR 0 0 R := by
  rw [show ST iv F N G O T S = ST (uA iv 14 (iv 14)) F N G O T S by rw [uA_id]]
  refine wp_aload_n dX12_keep_0 rfl ?_
  refine wp_getI dX12_keep_1 fX12_145 rfl ?_
  try simp only [ST0, ST5, ST6, ST7, ST8, ST10, ST11, ST12, ST13, ST14, ST15, ST16, ST17, uA_s]
  refine wp_bipush dX12_keep_4 ?_
  refine wp_icmp_ne (tgt := 52) dX12_keep_6 rfl (fun h6 => ?_) (fun h6 => ?_)
  · refine wp_iconst dX12_keep_52 ?_
    refine wp_istore_n (ls' := [_, _]) dX12_keep_53 (by decide) rfl rfl ?_
    rw [show uA iv 14 (iv 14) = uA iv 14 (cpW (iv 14) N (550 * F 25) 0) by rw [cpW_0]]
    refine l_keep2 (by omega) ?_ 550 0 (by omega) (by omega)
    unfold kpF kpa at k
    rw [if_neg (by omega), if_neg (by omega)] at k
    exact k
  · refine wp_sipush dX12_keep_9 ?_
    refine wp_istore_n (ls' := [_, _]) dX12_keep_12 (by decide) rfl rfl ?_
    rw [show (550 : Int) = 0 + 550 from rfl, show uA iv 14 (iv 14) = uA iv 14 (shK (iv 14) 0) by rw [shK_0]]
    refine l_keep1 (fun v1 => ?_) 21450 0 (by omega) (by omega)
    refine wp_aload_n dX12_keep_42 rfl ?_
    refine wp_dup dX12_keep_43 rfl ?_
    refine wp_getI dX12_keep_44 fX12_145 rfl ?_
    try simp only [ST0, ST5, ST6, ST7, ST8, ST10, ST11, ST12, ST13, ST14, ST15, ST16, ST17, uA_s]
    refine wp_iconst dX12_keep_47 ?_
    refine wp_isub dX12_keep_48 ⟨by omega, by omega⟩ ?_
    refine wp_putI dX12_keep_49 fX12_145 rfl ?_
    try simp only [STu0, STu8, STu10, STu11, STu12, STu13, STu14, STu15, STu16, STu17, STu9, uA_s, uA_uA]
    refine wp_iconst dX12_keep_52 ?_
    refine wp_istore_n (ls' := [_, _]) dX12_keep_53 (by decide) rfl rfl ?_
    rw [show uA iv 14 (shK (iv 14) 21450) = uA iv 14 (cpW (shK (iv 14) 21450) N (550 * (up F 25 (F 25 - 1)) 25) 0) by rw [cpW_0]]
    refine l_keep2 (by rw [up_s]; omega) ?_ 550 0 (by omega) (by omega)
    unfold kpF kpa at k
    rw [if_pos (by omega), if_pos (by omega)] at k
    rw [up_s, show F 25 - 1 = 39 by omega, show up (up F 25 39) 25 (39 + 1) = up F 25 (39 + 1) by funext j; unfold up; split <;> rfl]
    exact k
theorem l_undo (h25 : 0 ≤ F 25 ∧ F 25 < 40) {M : Int → Int} (k : R (some (aI (F 25))) SHR (ST iv F (cpR M (iv 14) (550 * F 25) 550) G O T S) lw RVR) (m : Nat) : ∀ c : Int, 0 ≤ c → c + m = 550 → wp (d) mX12_undo 21 [some (aR 0), some (aI c)] [] SHR (ST iv F (cpR M (iv 14) (550 * F 25) c) G O T S) lw RVR 0 0 R := by
  induction m with
  | zero =>
    intro c h0 hm
    refine wp_iload_n dX12_undo_21 rfl ?_
    refine wp_sipush dX12_undo_22 ?_
    refine wp_icmp_ge (tgt := 55) dX12_undo_25 rfl (fun h25 => ?_) (fun h25 => by exfalso; omega)
    refine wp_aload_n dX12_undo_55 rfl ?_
    refine wp_getI dX12_undo_56 fX12_145 rfl ?_
    try simp only [ST0, ST5, ST6, ST7, ST8, ST10, ST11, ST12, ST13, ST14, ST15, ST16, ST17, uA_s]
    refine wp_ireturn dX12_undo_59 rfl ?_
    rw [show c = 550 by omega]; exact k
  | succ m ih =>
    intro c h0 hm
    refine wp_iload_n dX12_undo_21 rfl ?_
    refine wp_sipush dX12_undo_22 ?_
    refine wp_icmp_ge (tgt := 55) dX12_undo_25 rfl (fun h25 => by exfalso; omega) (fun h25 => ?_)
    refine wp_aload_n dX12_undo_28 rfl ?_
    refine wp_getR rfl dX12_undo_29 fX12_31 rfl ?_
    refine wp_iload_n dX12_undo_32 rfl ?_
    refine wp_aload_n dX12_undo_33 rfl ?_
    refine wp_getR rfl dX12_undo_34 fX12_53 rfl ?_
    refine wp_sipush dX12_undo_37 ?_
    refine wp_aload_n dX12_undo_40 rfl ?_
    refine wp_getI dX12_undo_41 fX12_145 rfl ?_
    try simp only [ST0, ST5, ST6, ST7, ST8, ST10, ST11, ST12, ST13, ST14, ST15, ST16, ST17, uA_s]
    refine wp_imul dX12_undo_44 ⟨by omega, by omega⟩ ?_
    refine wp_iload_n dX12_undo_45 rfl ?_
    refine wp_iadd dX12_undo_46 ⟨by omega, by omega⟩ ?_
    refine wp_iald dX12_undo_47 rfl (by omega) (by omega) ?_
    try simp only [ST0, ST5, ST6, ST7, ST8, ST10, ST11, ST12, ST13, ST14, ST15, ST16, ST17, uA_s]
    refine wp_iast dX12_undo_48 rfl (by omega) (by omega) ?_
    try simp only [STu0, STu8, STu10, STu11, STu12, STu13, STu14, STu15, STu16, STu17, STu9, uA_s, uA_uA]
    rw [cpR_s h0]
    refine wp_iinc (ls' := [_, _]) dX12_undo_49 (by decide) rfl rfl ⟨by omega, by omega⟩ rfl ?_
    refine wp_goto (tgt := 21) dX12_undo_52 rfl ?_
    exact ih _ (by omega) (by omega)
theorem s_undo (h25 : 0 ≤ F 25 ∧ F 25 ≤ 40) (k0 : F 25 = 0 → R (some (aI (-1))) SHR (ST iv F N G O T S) lw RVR) (k1 : 1 ≤ F 25 → R (some (aI (F 25 - 1))) SHR (ST iv (up F 25 (F 25 - 1)) (cpR N (iv 14) (550 * (F 25 - 1)) 550) G O T S) lw RVR) : wp (d) mX12_undo 0 [some (aR 0), none] [] SHR (ST iv F N G O T S) lw RVR 0 0 R := by
  refine wp_aload_n dX12_undo_0 rfl ?_
  refine wp_getI dX12_undo_1 fX12_145 rfl ?_
  try simp only [ST0, ST5, ST6, ST7, ST8, ST10, ST11, ST12, ST13, ST14, ST15, ST16, ST17, uA_s]
  refine wp_if_ne (tgt := 9) dX12_undo_4 rfl (fun h4 => ?_) (fun h4 => ?_)
  · refine wp_aload_n dX12_undo_9 rfl ?_
    refine wp_dup dX12_undo_10 rfl ?_
    refine wp_getI dX12_undo_11 fX12_145 rfl ?_
    try simp only [ST0, ST5, ST6, ST7, ST8, ST10, ST11, ST12, ST13, ST14, ST15, ST16, ST17, uA_s]
    refine wp_iconst dX12_undo_14 ?_
    refine wp_isub dX12_undo_15 ⟨by omega, by omega⟩ ?_
    refine wp_putI dX12_undo_16 fX12_145 rfl ?_
    try simp only [STu0, STu8, STu10, STu11, STu12, STu13, STu14, STu15, STu16, STu17, STu9, uA_s, uA_uA]
    refine wp_iconst dX12_undo_19 ?_
    refine wp_istore_n (ls' := [_, _]) dX12_undo_20 (by decide) rfl rfl ?_
    have e : ST iv (up F 25 (F 25 - 1)) N G O T S = ST iv (up F 25 (F 25 - 1)) (cpR N (iv 14) (550 * (up F 25 (F 25 - 1)) 25) 0) G O T S := by rw [cpR_0]
    rw [e]
    refine l_undo (F := up F 25 (F 25 - 1)) (M := N) (by rw [up_s]; omega) ?_ 550 0 (by omega) (by omega)
    rw [up_s]; exact k1 (by omega)
  · refine wp_iconst dX12_undo_7 ?_
    refine wp_ireturn dX12_undo_8 rfl ?_
    exact k0 (by omega)
theorem l_image (k : ∀ v1, wp (d) mX12_image 36 [some (aR 0), some v1] [] SHR (ST (uA iv 17 (cpW K N 0 550)) F N G O T S) lw RVR 0 0 R) (m : Nat) : ∀ c : Int, 0 ≤ c → c + m = 550 → wp (d) mX12_image 11 [some (aR 0), some (aI c)] [] SHR (ST (uA iv 17 (cpW K N 0 c)) F N G O T S) lw RVR 0 0 R := by
  induction m with
  | zero =>
    intro c h0 hm
    refine wp_iload_n dX12_image_11 rfl ?_
    refine wp_sipush dX12_image_12 ?_
    refine wp_icmp_ge (tgt := 36) dX12_image_15 rfl (fun h15 => ?_) (fun h15 => by exfalso; omega)
    rw [show c = 550 by omega]; exact k _
  | succ m ih =>
    intro c h0 hm
    have cs := cpW_s (D := K) (N := N) (off := 0) h0
    rw [Int.zero_add] at cs
    refine wp_iload_n dX12_image_11 rfl ?_
    refine wp_sipush dX12_image_12 ?_
    refine wp_icmp_ge (tgt := 36) dX12_image_15 rfl (fun h15 => by exfalso; omega) (fun h15 => ?_)
    refine wp_aload_n dX12_image_18 rfl ?_
    refine wp_getR rfl dX12_image_19 fX12_62 rfl ?_
    refine wp_iload_n dX12_image_22 rfl ?_
    refine wp_aload_n dX12_image_23 rfl ?_
    refine wp_getR rfl dX12_image_24 fX12_31 rfl ?_
    refine wp_iload_n dX12_image_27 rfl ?_
    refine wp_iald dX12_image_28 rfl (by omega) (by omega) ?_
    try simp only [ST0, ST5, ST6, ST7, ST8, ST10, ST11, ST12, ST13, ST14, ST15, ST16, ST17, uA_s]
    refine wp_iast dX12_image_29 rfl (by omega) (by omega) ?_
    try simp only [STu0, STu8, STu10, STu11, STu12, STu13, STu14, STu15, STu16, STu17, STu9, uA_s, uA_uA]
    rw [cs]
    refine wp_iinc (ls' := [_, _]) dX12_image_30 (by decide) rfl rfl ⟨by omega, by omega⟩ rfl ?_
    refine wp_goto (tgt := 11) dX12_image_33 rfl ?_
    exact ih _ (by omega) (by omega)
theorem s_image (k0 : F 13 = 0 → R (some (aI (-1))) SHR (ST iv F N G O T S) lw RVR) (k1 : ¬ F 13 = 0 → R (some (aI (N 368))) SHR (ST (uA iv 17 (cpW (iv 17) N 0 550)) (up F 30 1) N G O T S) lw RVR) : wp (d) mX12_image 0 [some (aR 0), none] [] SHR (ST iv F N G O T S) lw RVR 0 0 R := by
  refine wp_aload_n dX12_image_0 rfl ?_
  refine wp_getI dX12_image_1 fX12_138 rfl ?_
  try simp only [ST0, ST5, ST6, ST7, ST8, ST10, ST11, ST12, ST13, ST14, ST15, ST16, ST17, uA_s]
  refine wp_if_ne (tgt := 9) dX12_image_4 rfl (fun h4 => ?_) (fun h4 => ?_)
  · refine wp_iconst dX12_image_9 ?_
    refine wp_istore_n (ls' := [_, _]) dX12_image_10 (by decide) rfl rfl ?_
    have e : ST iv F N G O T S = ST (uA iv 17 (cpW (iv 17) N 0 0)) F N G O T S := by rw [cpW_0, uA_id]
    rw [e]
    refine l_image (fun v1 => ?_) 550 0 (by omega) (by omega)
    refine wp_aload_n dX12_image_36 rfl ?_
    refine wp_iconst dX12_image_37 ?_
    refine wp_putZ (Or.inr rfl) dX12_image_38 fX12_148 rfl ?_
    try simp only [STu0, STu8, STu10, STu11, STu12, STu13, STu14, STu15, STu16, STu17, STu9, uA_s, uA_uA]
    refine wp_aload_n dX12_image_41 rfl ?_
    refine wp_getR rfl dX12_image_42 fX12_31 rfl ?_
    refine wp_sipush dX12_image_45 ?_
    refine wp_iald dX12_image_48 rfl (by omega) (by omega) ?_
    try simp only [ST0, ST5, ST6, ST7, ST8, ST10, ST11, ST12, ST13, ST14, ST15, ST16, ST17, uA_s]
    refine wp_ireturn dX12_image_49 rfl ?_
    exact k1 h4
  · refine wp_iconst dX12_image_7 ?_
    refine wp_ireturn dX12_image_8 rfl ?_
    exact k0 h4
theorem l_back {M : Int → Int} (k : ∀ v1, wp (d) mX12_back 36 [some (aR 0), some v1] [] SHR (ST iv F (cpR M (iv 17) 0 550) G O T S) lw RVR 0 0 R) (m : Nat) : ∀ c : Int, 0 ≤ c → c + m = 550 → wp (d) mX12_back 11 [some (aR 0), some (aI c)] [] SHR (ST iv F (cpR M (iv 17) 0 c) G O T S) lw RVR 0 0 R := by
  induction m with
  | zero =>
    intro c h0 hm
    refine wp_iload_n dX12_back_11 rfl ?_
    refine wp_sipush dX12_back_12 ?_
    refine wp_icmp_ge (tgt := 36) dX12_back_15 rfl (fun h15 => ?_) (fun h15 => by exfalso; omega)
    rw [show c = 550 by omega]; exact k _
  | succ m ih =>
    intro c h0 hm
    have cs := cpR_s (M := M) (K := iv 17) (off := 0) h0
    rw [Int.zero_add] at cs
    refine wp_iload_n dX12_back_11 rfl ?_
    refine wp_sipush dX12_back_12 ?_
    refine wp_icmp_ge (tgt := 36) dX12_back_15 rfl (fun h15 => by exfalso; omega) (fun h15 => ?_)
    refine wp_aload_n dX12_back_18 rfl ?_
    refine wp_getR rfl dX12_back_19 fX12_31 rfl ?_
    refine wp_iload_n dX12_back_22 rfl ?_
    refine wp_aload_n dX12_back_23 rfl ?_
    refine wp_getR rfl dX12_back_24 fX12_62 rfl ?_
    refine wp_iload_n dX12_back_27 rfl ?_
    refine wp_iald dX12_back_28 rfl (by omega) (by omega) ?_
    try simp only [ST0, ST5, ST6, ST7, ST8, ST10, ST11, ST12, ST13, ST14, ST15, ST16, ST17, uA_s]
    refine wp_iast dX12_back_29 rfl (by omega) (by omega) ?_
    try simp only [STu0, STu8, STu10, STu11, STu12, STu13, STu14, STu15, STu16, STu17, STu9, uA_s, uA_uA]
    rw [cs]
    refine wp_iinc (ls' := [_, _]) dX12_back_30 (by decide) rfl rfl ⟨by omega, by omega⟩ rfl ?_
    refine wp_goto (tgt := 11) dX12_back_33 rfl ?_
    exact ih _ (by omega) (by omega)
theorem s_back (h30 : F 30 = 0 ∨ F 30 = 1) (k0 : F 30 = 0 → R (some (aI (-1))) SHR (ST iv F N G O T S) lw RVR) (k1 : F 30 = 1 → R (some (aI (cpR N (iv 17) 0 550 368))) SHR (ST iv (up F 25 0) (cpR N (iv 17) 0 550) G O T S) lw RVR) : wp (d) mX12_back 0 [some (aR 0), none] [] SHR (ST iv F N G O T S) lw RVR 0 0 R := by
  refine wp_aload_n dX12_back_0 rfl ?_
  refine wp_getZ dX12_back_1 fX12_148 rfl ?_
  try simp only [ST0, ST5, ST6, ST7, ST8, ST10, ST11, ST12, ST13, ST14, ST15, ST16, ST17, uA_s]
  refine wp_if_ne (tgt := 9) dX12_back_4 rfl (fun h4 => ?_) (fun h4 => ?_)
  · refine wp_iconst dX12_back_9 ?_
    refine wp_istore_n (ls' := [_, _]) dX12_back_10 (by decide) rfl rfl ?_
    have e : ST iv F N G O T S = ST iv F (cpR N (iv 17) 0 0) G O T S := by rw [cpR_0]
    rw [e]
    refine l_back (fun v1 => ?_) 550 0 (by omega) (by omega)
    refine wp_aload_n dX12_back_36 rfl ?_
    refine wp_iconst dX12_back_37 ?_
    refine wp_putI dX12_back_38 fX12_145 rfl ?_
    try simp only [STu0, STu8, STu10, STu11, STu12, STu13, STu14, STu15, STu16, STu17, STu9, uA_s, uA_uA]
    refine wp_aload_n dX12_back_41 rfl ?_
    refine wp_getR rfl dX12_back_42 fX12_31 rfl ?_
    refine wp_sipush dX12_back_45 ?_
    refine wp_iald dX12_back_48 rfl (by omega) (by omega) ?_
    try simp only [ST0, ST5, ST6, ST7, ST8, ST10, ST11, ST12, ST13, ST14, ST15, ST16, ST17, uA_s]
    refine wp_ireturn dX12_back_49 rfl ?_
    exact k1 (by omega)
  · refine wp_iconst dX12_back_7 ?_
    refine wp_ireturn dX12_back_8 rfl ?_
    exact k0 h4
theorem l_putAside {p : Int} (hp : 0 ≤ p ∧ p < 9) (k : R none SHR (ST (uA iv 15 (cpW K N (369 * p) 369)) F N G O T S) lw RVR) (m : Nat) : ∀ c : Int, 0 ≤ c → c + m = 369 → wp (d) mX12_putAside 2 [some (aR 0), some (aI p), some (aI c)] [] SHR (ST (uA iv 15 (cpW K N (369 * p) c)) F N G O T S) lw RVR 0 0 R := by
  induction m with
  | zero =>
    intro c h0 hm
    refine wp_iload_n dX12_putAside_2 rfl ?_
    refine wp_sipush dX12_putAside_3 ?_
    refine wp_icmp_ge (tgt := 33) dX12_putAside_6 rfl (fun h6 => ?_) (fun h6 => by exfalso; omega)
    refine wp_return dX12_putAside_33 rfl ?_
    rw [show c = 369 by omega]; exact k
  | succ m ih =>
    intro c h0 hm
    refine wp_iload_n dX12_putAside_2 rfl ?_
    refine wp_sipush dX12_putAside_3 ?_
    refine wp_icmp_ge (tgt := 33) dX12_putAside_6 rfl (fun h6 => by exfalso; omega) (fun h6 => ?_)
    refine wp_aload_n dX12_putAside_9 rfl ?_
    refine wp_getR rfl dX12_putAside_10 fX12_56 rfl ?_
    refine wp_sipush dX12_putAside_13 ?_
    refine wp_iload_n dX12_putAside_16 rfl ?_
    refine wp_imul dX12_putAside_17 ⟨by omega, by omega⟩ ?_
    refine wp_iload_n dX12_putAside_18 rfl ?_
    refine wp_iadd dX12_putAside_19 ⟨by omega, by omega⟩ ?_
    refine wp_aload_n dX12_putAside_20 rfl ?_
    refine wp_getR rfl dX12_putAside_21 fX12_31 rfl ?_
    refine wp_iload_n dX12_putAside_24 rfl ?_
    refine wp_iald dX12_putAside_25 rfl (by omega) (by omega) ?_
    try simp only [ST0, ST5, ST6, ST7, ST8, ST10, ST11, ST12, ST13, ST14, ST15, ST16, ST17, uA_s]
    refine wp_iast dX12_putAside_26 rfl (by omega) (by omega) ?_
    try simp only [STu0, STu8, STu10, STu11, STu12, STu13, STu14, STu15, STu16, STu17, STu9, uA_s, uA_uA]
    rw [cpW_s h0]
    refine wp_iinc (ls' := [_, _, _]) dX12_putAside_27 (by decide) rfl rfl ⟨by omega, by omega⟩ rfl ?_
    refine wp_goto (tgt := 2) dX12_putAside_30 rfl ?_
    exact ih _ (by omega) (by omega)
theorem s_putAside {p : Int} (hp : 0 ≤ p ∧ p < 9) (k : R none SHR (ST (uA iv 15 (cpW (iv 15) N (369 * p) 369)) F N G O T S) lw RVR) : wp (d) mX12_putAside 0 [some (aR 0), some (aI p), none] [] SHR (ST iv F N G O T S) lw RVR 0 0 R := by
  refine wp_iconst dX12_putAside_0 ?_
  refine wp_istore_n (ls' := [_, _, _]) dX12_putAside_1 (by decide) rfl rfl ?_
  have e : ST iv F N G O T S = ST (uA iv 15 (cpW (iv 15) N (369 * p) 0)) F N G O T S := by rw [cpW_0, uA_id]
  rw [e]
  exact l_putAside hp k 369 0 (by omega) (by omega)
theorem l_takeBack {p : Int} {M : Int → Int} (hp : 0 ≤ p ∧ p < 9) (k : R none SHR (ST iv F (cpR M (iv 15) (369 * p) 369) G O T S) lw RVR) (m : Nat) : ∀ c : Int, 0 ≤ c → c + m = 369 → wp (d) mX12_takeBack 2 [some (aR 0), some (aI p), some (aI c)] [] SHR (ST iv F (cpR M (iv 15) (369 * p) c) G O T S) lw RVR 0 0 R := by
  induction m with
  | zero =>
    intro c h0 hm
    refine wp_iload_n dX12_takeBack_2 rfl ?_
    refine wp_sipush dX12_takeBack_3 ?_
    refine wp_icmp_ge (tgt := 33) dX12_takeBack_6 rfl (fun h6 => ?_) (fun h6 => by exfalso; omega)
    refine wp_return dX12_takeBack_33 rfl ?_
    rw [show c = 369 by omega]; exact k
  | succ m ih =>
    intro c h0 hm
    refine wp_iload_n dX12_takeBack_2 rfl ?_
    refine wp_sipush dX12_takeBack_3 ?_
    refine wp_icmp_ge (tgt := 33) dX12_takeBack_6 rfl (fun h6 => by exfalso; omega) (fun h6 => ?_)
    refine wp_aload_n dX12_takeBack_9 rfl ?_
    refine wp_getR rfl dX12_takeBack_10 fX12_31 rfl ?_
    refine wp_iload_n dX12_takeBack_13 rfl ?_
    refine wp_aload_n dX12_takeBack_14 rfl ?_
    refine wp_getR rfl dX12_takeBack_15 fX12_56 rfl ?_
    refine wp_sipush dX12_takeBack_18 ?_
    refine wp_iload_n dX12_takeBack_21 rfl ?_
    refine wp_imul dX12_takeBack_22 ⟨by omega, by omega⟩ ?_
    refine wp_iload_n dX12_takeBack_23 rfl ?_
    refine wp_iadd dX12_takeBack_24 ⟨by omega, by omega⟩ ?_
    refine wp_iald dX12_takeBack_25 rfl (by omega) (by omega) ?_
    try simp only [ST0, ST5, ST6, ST7, ST8, ST10, ST11, ST12, ST13, ST14, ST15, ST16, ST17, uA_s]
    refine wp_iast dX12_takeBack_26 rfl (by omega) (by omega) ?_
    try simp only [STu0, STu8, STu10, STu11, STu12, STu13, STu14, STu15, STu16, STu17, STu9, uA_s, uA_uA]
    rw [cpR_s h0]
    refine wp_iinc (ls' := [_, _, _]) dX12_takeBack_27 (by decide) rfl rfl ⟨by omega, by omega⟩ rfl ?_
    refine wp_goto (tgt := 2) dX12_takeBack_30 rfl ?_
    exact ih _ (by omega) (by omega)
theorem s_takeBack {p : Int} (hp : 0 ≤ p ∧ p < 9) (k : R none SHR (ST iv F (cpR N (iv 15) (369 * p) 369) G O T S) lw RVR) : wp (d) mX12_takeBack 0 [some (aR 0), some (aI p), none] [] SHR (ST iv F N G O T S) lw RVR 0 0 R := by
  refine wp_iconst dX12_takeBack_0 ?_
  refine wp_istore_n (ls' := [_, _, _]) dX12_takeBack_1 (by decide) rfl rfl ?_
  have e : ST iv F N G O T S = ST iv F (cpR N (iv 15) (369 * p) 0) G O T S := by rw [cpR_0]
  rw [e]
  exact l_takeBack hp k 369 0 (by omega) (by omega)
theorem s_isRefused {y : Int} (hy : -1 ≤ y ∧ y ≤ 4) (hc : ∀ z : Int, 0 ≤ z → z < 5 → 0 ≤ iv 9 z ∧ iv 9 z ≤ 100000) (kt : 0 ≤ y → R (some (aI 1)) SHR (ST (uA iv 9 (up (iv 9) y (iv 9 y + 1))) F N G O T S) lw RVR) (kf : y = -1 → R (some (aI 0)) SHR (ST iv F N G O T S) lw RVR) : wp (d) mX12_isRefused 0 [some (aR 0), some (aI y)] [] SHR (ST iv F N G O T S) lw RVR 0 0 R := by
  by_cases e : y = -1
  · subst e
    refine wp_iload_n dX12_isRefused_0 rfl ?_
    refine wp_iconst dX12_isRefused_1 ?_
    refine wp_icmp_eq (tgt := 15) dX12_isRefused_2 rfl (fun _ => ?_) (fun q => absurd q (by decide))
    refine wp_iload_n dX12_isRefused_15 rfl ?_
    refine wp_iconst dX12_isRefused_16 ?_
    refine wp_icmp_eq (tgt := 24) dX12_isRefused_17 rfl (fun _ => ?_) (fun q => absurd q (by decide))
    refine wp_iconst dX12_isRefused_24 ?_
    refine wp_zreturn dX12_isRefused_25 rfl (Or.inl rfl) ?_
    exact kf rfl
  · have hcy := hc y (by omega) (by omega)
    refine wp_iload_n dX12_isRefused_0 rfl ?_
    refine wp_iconst dX12_isRefused_1 ?_
    refine wp_icmp_eq (tgt := 15) dX12_isRefused_2 rfl (fun h2 => by exfalso; omega) (fun h2 => ?_)
    refine wp_aload_n dX12_isRefused_5 rfl ?_
    refine wp_getR rfl dX12_isRefused_6 fX12_34 rfl ?_
    refine wp_iload_n dX12_isRefused_9 rfl ?_
    refine wp_dup2 dX12_isRefused_10 rfl rfl ?_
    refine wp_iald dX12_isRefused_11 rfl (by omega) (by omega) ?_
    try simp only [ST0, ST5, ST6, ST7, ST8, ST10, ST11, ST12, ST13, ST9]
    refine wp_iconst dX12_isRefused_12 ?_
    refine wp_iadd dX12_isRefused_13 ⟨by omega, by omega⟩ ?_
    refine wp_iast dX12_isRefused_14 rfl (by omega) (by omega) ?_
    try simp only [STu0, STu8, STu10, STu11, STu12, STu13, STu9]
    refine wp_iload_n dX12_isRefused_15 rfl ?_
    refine wp_iconst dX12_isRefused_16 ?_
    refine wp_icmp_eq (tgt := 24) dX12_isRefused_17 rfl (fun h17 => by exfalso; omega) (fun h17 => ?_)
    refine wp_iconst dX12_isRefused_20 ?_
    refine wp_goto (tgt := 25) dX12_isRefused_21 rfl ?_
    refine wp_zreturn dX12_isRefused_25 rfl (Or.inr rfl) ?_
    exact kt (by omega)
theorem s_areFrames {n : Int} (h0 : 0 ≤ N 368 ∧ N 368 ≤ 20000) (kt : (1 ≤ n ∧ n ≤ 40) ∧ N 368 + n ≤ 9999 → R (some (aI 1)) SHR (ST iv F N G O T S) lw RVR) (kf : ¬ ((1 ≤ n ∧ n ≤ 40) ∧ N 368 + n ≤ 9999) → R (some (aI 0)) SHR (ST iv F N G O T S) lw RVR) : wp (d + 1) mX12_areFrames 0 [some (aR 0), some (aI n)] [] SHR (ST iv F N G O T S) lw RVR 0 0 R := by
  refine wp_iload_n dX12_areFrames_0 rfl ?_
  refine wp_iconst dX12_areFrames_1 ?_
  refine wp_bipush dX12_areFrames_2 ?_
  refine wp_callS (as := [_, _, _]) (ls0 := [_, _, _]) (kc := 0) (ks := 0) (bc' := 0) (bs' := 0) dX12_areFrames_4 vX12_75 rfl rfl (Nat.le_of_ble_eq_true rfl) (Nat.le_of_ble_eq_true rfl) (by omega) (by omega) ?_
  refine s_in (fun h4 => ?_) (fun h4 => ?_)
  · refine wp_if_eq (tgt := 30) dX12_areFrames_7 rfl (fun q => absurd q (by decide)) (fun _ => ?_)
    refine wp_aload_n dX12_areFrames_10 rfl ?_
    refine wp_getR rfl dX12_areFrames_11 fX12_31 rfl ?_
    refine wp_sipush dX12_areFrames_14 ?_
    refine wp_iald dX12_areFrames_17 rfl (by omega) (by omega) ?_
    try simp only [ST0, ST5, ST6, ST7, ST8, ST10, ST11, ST12, ST13]
    refine wp_iload_n dX12_areFrames_18 rfl ?_
    refine wp_iadd dX12_areFrames_19 ⟨by omega, by omega⟩ ?_
    refine wp_sipush dX12_areFrames_20 ?_
    refine wp_icmp_gt (tgt := 30) dX12_areFrames_23 rfl (fun h23 => ?_) (fun h23 => ?_)
    · refine wp_iconst dX12_areFrames_30 ?_
      refine wp_zreturn dX12_areFrames_31 rfl (Or.inl rfl) ?_
      exact kf (by omega)
    · refine wp_iconst dX12_areFrames_26 ?_
      refine wp_goto (tgt := 31) dX12_areFrames_27 rfl ?_
      refine wp_zreturn dX12_areFrames_31 rfl (Or.inr rfl) ?_
      exact kt ⟨by omega, by omega⟩
  · refine wp_if_eq (tgt := 30) dX12_areFrames_7 rfl (fun _ => ?_) (fun q => absurd q (by decide))
    refine wp_iconst dX12_areFrames_30 ?_
    refine wp_zreturn dX12_areFrames_31 rfl (Or.inl rfl) ?_
    exact kf (by omega)
theorem l_pfr (k : ∀ v1, wp (d + 9) mX12_passFrame 54 [some (aR 0), some v1] [] SHR (ST iv F (shG N 177) G O T S) lw RVR 0 0 R) (m : Nat) : ∀ c : Int, 0 ≤ c → c + m = 177 → wp (d + 9) mX12_passFrame 19 [some (aR 0), some (aI (c + 3))] [] SHR (ST iv F (shG N c) G O T S) lw RVR 0 0 R := by
  induction m with
  | zero =>
    intro c h0 hm
    refine wp_iload_n dX12_passFrame_19 rfl ?_
    refine wp_sipush dX12_passFrame_20 ?_
    refine wp_icmp_ge (tgt := 54) dX12_passFrame_23 rfl (fun h23 => ?_) (fun h23 => by exfalso; omega)
    rw [show c = 177 by omega]; exact k _
  | succ m ih =>
    intro c h0 hm
    refine wp_iload_n dX12_passFrame_19 rfl ?_
    refine wp_sipush dX12_passFrame_20 ?_
    refine wp_icmp_ge (tgt := 54) dX12_passFrame_23 rfl (fun h23 => by exfalso; omega) (fun h23 => ?_)
    refine wp_aload_n dX12_passFrame_26 rfl ?_
    refine wp_getR rfl dX12_passFrame_27 fX12_31 rfl ?_
    refine wp_sipush dX12_passFrame_30 ?_
    refine wp_iload_n dX12_passFrame_33 rfl ?_
    refine wp_iadd dX12_passFrame_34 ⟨by omega, by omega⟩ ?_
    refine wp_iconst dX12_passFrame_35 ?_
    refine wp_isub dX12_passFrame_36 ⟨by omega, by omega⟩ ?_
    refine wp_aload_n dX12_passFrame_37 rfl ?_
    refine wp_getR rfl dX12_passFrame_38 fX12_31 rfl ?_
    refine wp_sipush dX12_passFrame_41 ?_
    refine wp_iload_n dX12_passFrame_44 rfl ?_
    refine wp_iadd dX12_passFrame_45 ⟨by omega, by omega⟩ ?_
    refine wp_iald dX12_passFrame_46 rfl (by omega) (by omega) ?_
    try simp only [ST0, ST5, ST6, ST7, ST8, ST10, ST11, ST12, ST13]
    refine wp_iast dX12_passFrame_47 rfl (by omega) (by omega) ?_
    try simp only [STu0, STu8, STu10, STu11, STu12, STu13]
    rw [show 370 + (c + 3) - 3 = 370 + c by omega, shG_s h0]
    refine wp_iinc (ls' := [_, _]) dX12_passFrame_48 (by decide) rfl rfl ⟨by omega, by omega⟩ rfl ?_
    refine wp_goto (tgt := 19) dX12_passFrame_51 rfl ?_
    rw [show c + 3 + 1 = c + 1 + 3 by omega]; exact ih _ (by omega) (by omega)
theorem lgb_n {j : Int} (h : j < 369) : lgb N j = N j := by
  unfold lgb; split
  · rw [up_n (by omega)]; unfold shG; rw [if_neg (by omega)]
  · rfl
theorem lgb_369 : lgb N 369 = lgt N := by
  unfold lgb lgt; split
  · rw [up_s]
  · rfl
theorem lgF_n {a b c j : Int} (h0 : 0 ≤ N 369) (h : j < 369) : lgF N a b c j = N j := by
  have : 0 ≤ lgt N := by unfold lgt; split <;> omega
  unfold lgF; rw [up_n (by omega), up_n (by omega), up_n (by omega), up_n (by omega), lgb_n h]
theorem s_pfr2 {F3 : Int → Int} (hP : Prm iv F3) (hB : Bok (iv 5 0) (iv 5 1) N) (h9 : 0 ≤ N 369 ∧ N 369 < 60) (k : R none SHR (ST iv F3 (up (up (up (up N (370 + 3 * N 369) (cntP (LtP N) (F3 13).toNat)) (370 + 3 * N 369 + 1) (shA N (F3 13).toNat)) (370 + 3 * N 369 + 2) (F3 19)) 369 (N 369 + 1)) G O T S) lw RVR) (v1 : Option aV) : wp (d + 9) mX12_passFrame 66 [some (aR 0), v1] [] SHR (ST iv F3 N G O T S) lw RVR 0 0 R := by
  obtain ⟨hW1, hW2, hO1, hO2, hT1, hT2, hI1, hI2, hF1, hF2⟩ := id hP
  have hsh : shA (up N (370 + 3 * N 369) (cntP (LtP N) (F3 13).toNat)) (F3 13).toNat = shA N (F3 13).toNat := shA_c hB _ (by omega) (fun j hj => up_n (by omega))
  have hB' : Bok (iv 5 0) (iv 5 1) (up N (370 + 3 * N 369) (cntP (LtP N) (F3 13).toNat)) := hB.far (by omega)
  refine wp_sipush dX12_passFrame_66 ?_
  refine wp_iconst dX12_passFrame_69 ?_
  refine wp_aload_n dX12_passFrame_70 rfl ?_
  refine wp_getR rfl dX12_passFrame_71 fX12_31 rfl ?_
  refine wp_sipush dX12_passFrame_74 ?_
  refine wp_iald dX12_passFrame_77 rfl (by omega) (by omega) ?_
  try simp only [ST0, ST5, ST6, ST7, ST8, ST10, ST11, ST12, ST13]
  refine wp_imul dX12_passFrame_78 ⟨by omega, by omega⟩ ?_
  refine wp_iadd dX12_passFrame_79 ⟨by omega, by omega⟩ ?_
  refine wp_istore_n (ls' := [_, _]) dX12_passFrame_80 (by decide) rfl rfl ?_
  refine wp_aload_n dX12_passFrame_81 rfl ?_
  refine wp_getR rfl dX12_passFrame_82 fX12_31 rfl ?_
  refine wp_iload_n dX12_passFrame_85 rfl ?_
  refine wp_aload_n dX12_passFrame_86 rfl ?_
  refine wp_callV (as := []) (ls0 := [_, _, _]) (kc := 0) (ks := 0) (bc' := 0) (bs' := 0) dX12_passFrame_87 vX12_302 rfl rfl rfl (Nat.le_of_ble_eq_true rfl) (Nat.le_of_ble_eq_true rfl) (by omega) (by omega) ?_
  refine s_letterPairs hP (fun x hx => ?_)
  have hx64 := hx.lt64 (fun s _ h => by unfold Blw at h; omega)
  have hx0 := hx.1
  have hpc := popc_bt hx
  rw [cnt_blw (by omega)] at hpc
  refine wp_callS (as := [_]) (ls0 := [_]) (kc := 0) (ks := 0) (bc' := 0) (bs' := 0) dX12_passFrame_90 vX12_305 rfl rfl (Nat.le_of_ble_eq_true rfl) (Nat.le_of_ble_eq_true rfl) (by omega) (by omega) ?_
  refine s_bitCount (by omega) ?_
  rw [hpc]
  refine wp_iast dX12_passFrame_93 rfl (by omega) (by omega) ?_
  try simp only [STu0, STu8, STu10, STu11, STu12, STu13]
  refine wp_aload_n dX12_passFrame_94 rfl ?_
  refine wp_getR rfl dX12_passFrame_95 fX12_31 rfl ?_
  refine wp_iload_n dX12_passFrame_98 rfl ?_
  refine wp_iconst dX12_passFrame_99 ?_
  refine wp_iadd dX12_passFrame_100 ⟨by omega, by omega⟩ ?_
  refine wp_aload_n dX12_passFrame_101 rfl ?_
  refine wp_callV (as := []) (ls0 := [_, _, _, _]) (kc := 0) (ks := 0) (bc' := 0) (bs' := 0) dX12_passFrame_102 vX12_310 rfl rfl rfl (Nat.le_of_ble_eq_true rfl) (Nat.le_of_ble_eq_true rfl) (by omega) (by omega) ?_
  refine s_sharedCells hP hB' ?_
  rw [hsh]
  refine wp_iast dX12_passFrame_105 rfl (by omega) (by omega) ?_
  try simp only [STu0, STu8, STu10, STu11, STu12, STu13]
  refine wp_aload_n dX12_passFrame_106 rfl ?_
  refine wp_getR rfl dX12_passFrame_107 fX12_31 rfl ?_
  refine wp_iload_n dX12_passFrame_110 rfl ?_
  refine wp_iconst dX12_passFrame_111 ?_
  refine wp_iadd dX12_passFrame_112 ⟨by omega, by omega⟩ ?_
  refine wp_aload_n dX12_passFrame_113 rfl ?_
  refine wp_getI dX12_passFrame_114 fX12_274 rfl ?_
  try simp only [ST0, ST5, ST6, ST7, ST8, ST10, ST11, ST12, ST13]
  refine wp_iast dX12_passFrame_117 rfl (by omega) (by omega) ?_
  try simp only [STu0, STu8, STu10, STu11, STu12, STu13]
  refine wp_aload_n dX12_passFrame_118 rfl ?_
  refine wp_getR rfl dX12_passFrame_119 fX12_31 rfl ?_
  refine wp_sipush dX12_passFrame_122 ?_
  refine wp_dup2 dX12_passFrame_125 rfl rfl ?_
  refine wp_iald dX12_passFrame_126 rfl (by omega) (by omega) ?_
  try simp only [ST0, ST5, ST6, ST7, ST8, ST10, ST11, ST12, ST13]
  rw [up_n (by omega), up_n (by omega), up_n (by omega)]
  refine wp_iconst dX12_passFrame_127 ?_
  refine wp_iadd dX12_passFrame_128 ⟨by omega, by omega⟩ ?_
  refine wp_iast dX12_passFrame_129 rfl (by omega) (by omega) ?_
  try simp only [STu0, STu8, STu10, STu11, STu12, STu13]
  refine wp_return dX12_passFrame_130 rfl ?_
  exact k
theorem Inv.cg {N1 : Int → Int} (hP : Prm iv F) (h : Inv iv F N) (e : ∀ j : Int, j < 369 → N1 j = N j) : Inv iv F N1 := by
  obtain ⟨hW1, hW2, hO1, hO2, hT1, hT2, hI1, hI2, hF1, hF2⟩ := id hP
  obtain ⟨hB, hPI, hj, ha, h0, hU⟩ := h
  refine ⟨fun p k a b x y => ?_, fun a x y => (hPI a x y).cg hB (by omega) (fun k hk => e _ (by omega)), ?_, ?_, ?_, fun a x y => ?_⟩
  · rw [e _ (by omega)]; exact hB p k a b x y
  · rw [e _ (by omega)]; exact hj
  · rw [e _ (by omega)]; exact ha
  · rw [e _ (by omega)]; exact h0
  · rw [e _ (by omega), e _ (by omega), e _ (by omega)]; exact hU a x y
theorem s_passFrame (hP : Prm iv F) (hP2 : Prm2 iv F) (hI : Inv iv F N) (hfr : N 368 ≤ 14000) (h9 : 0 ≤ N 369 ∧ N 369 ≤ 60) (k : ∀ (F3 G' O' T' S' : Int → Int), (∀ j : Int, ¬ j = 19 → ¬ j = 22 → F3 j = F j) → R none SHR (ST iv F3 (pasF iv F N) G' O' T' S') lw RVR) : wp (d + 9) mX12_passFrame 0 [some (aR 0), none] [] SHR (ST iv F N G O T S) lw RVR 0 0 R := by
  obtain ⟨hW1, hW2, hO1, hO2, hT1, hT2, hI1, hI2, hF1, hF2⟩ := id hP
  have hL := Inv.liv hP hI hfr
  have e9 : livF iv F N 369 = N 369 := hL.2.2 369 (by omega) (by omega)
  have hBL := hL.1.1
  obtain ⟨hB, hPI, hj, ha, h0, hU⟩ := hI
  refine wp_aload_n dX12_passFrame_0 rfl ?_
  refine wp_callV (as := []) (ls0 := [_, _]) (kc := 0) (ks := 0) (bc' := 0) (bs' := 0) dX12_passFrame_1 vX12_299 rfl rfl rfl (Nat.le_of_ble_eq_true rfl) (Nat.le_of_ble_eq_true rfl) (by omega) (by omega) ?_
  refine s_live hP hP2 hB (by omega) (by omega) (fun a x y => (hPI a x y).1) (fun a x y => by have := hU a x y; omega) (fun F3 G' O' T' S' f1 f2 f3 => ?_)
  have g13 : F3 13 = F 13 := f1 13 (by omega) (by omega)
  have g19 : F3 19 = gtA iv F (preF iv F N) (F 13).toNat 0 := f2
  have hPc : Prm iv F3 := by unfold Prm at *; rw [g13]; exact hP
  have hk := k F3 G' O' T' S' f1
  unfold pasF lgF at hk
  refine wp_aload_n dX12_passFrame_4 rfl ?_
  refine wp_getR rfl dX12_passFrame_5 fX12_31 rfl ?_
  refine wp_sipush dX12_passFrame_8 ?_
  refine wp_iald dX12_passFrame_11 rfl (by omega) (by omega) ?_
  try simp only [ST0, ST5, ST6, ST7, ST8, ST10, ST11, ST12, ST13]
  refine wp_bipush dX12_passFrame_12 ?_
  rw [e9]
  refine wp_icmp_ne (tgt := 66) dX12_passFrame_14 rfl (fun h14 => ?_) (fun h14 => ?_)
  · have eb : lgb (livF iv F N) = livF iv F N := by unfold lgb; rw [if_neg (by omega)]
    have et : lgt (livF iv F N) = livF iv F N 369 := by unfold lgt; rw [if_neg (by omega)]
    rw [eb, et] at hk
    refine s_pfr2 hPc hBL (by rw [e9]; omega) ?_ _
    rw [g13, g19]
    exact hk
  · refine wp_iconst dX12_passFrame_17 ?_
    refine wp_istore_n (ls' := [_, _]) dX12_passFrame_18 (by decide) rfl rfl ?_
    rw [show (3 : Int) = 0 + 3 from rfl, show livF iv F N = shG (livF iv F N) 0 by rw [shG_0]]
    refine l_pfr (fun v1 => ?_) 177 0 (by omega) (by omega)
    have es : shG (livF iv F N) 177 369 = 60 := by unfold shG; rw [if_neg (by omega), e9]; omega
    refine wp_aload_n dX12_passFrame_54 rfl ?_
    refine wp_getR rfl dX12_passFrame_55 fX12_31 rfl ?_
    refine wp_sipush dX12_passFrame_58 ?_
    refine wp_dup2 dX12_passFrame_61 rfl rfl ?_
    refine wp_iald dX12_passFrame_62 rfl (by omega) (by omega) ?_
    try simp only [ST0, ST5, ST6, ST7, ST8, ST10, ST11, ST12, ST13]
    rw [es]
    refine wp_iconst dX12_passFrame_63 ?_
    refine wp_isub dX12_passFrame_64 ⟨by omega, by omega⟩ ?_
    refine wp_iast dX12_passFrame_65 rfl (by omega) (by omega) ?_
    try simp only [STu0, STu8, STu10, STu11, STu12, STu13]
    rw [show (60 : Int) - 1 = 59 from rfl]
    have eb : lgb (livF iv F N) = up (shG (livF iv F N) 177) 369 59 := by unfold lgb; rw [if_pos (by omega)]
    have et : lgt (livF iv F N) = 59 := by unfold lgt; rw [if_pos (by omega)]
    have eu : up (shG (livF iv F N) 177) 369 59 369 = 59 := up_s
    have hBu : Bok (iv 5 0) (iv 5 1) (up (shG (livF iv F N) 177) 369 59) := (hL.1.cg hP (fun j hj => by rw [up_n (by omega)]; unfold shG; rw [if_neg (by omega)])).1
    rw [eb, et] at hk
    refine s_pfr2 hPc hBu (by rw [eu]; omega) ?_ _
    rw [eu, g13, g19, cntP_c (Q' := LtP (livF iv F N)) _ (fun a a0 a1 => by
      show up (shG (livF iv F N) 177) 369 59 (61 * a + 43) = 1 ↔ livF iv F N (61 * a + 43) = 1
      rw [up_n (by omega)]; unfold shG; rw [if_neg (by omega)]), shA_c hBL _ (by omega) (fun j hj => by rw [up_n (by omega)]; unfold shG; rw [if_neg (by omega)])]
    exact hk
end R18
