theorem sh3_n {N : Int → Int} {p q a b j : Int} (hb : 0 ≤ b ∧ b < 6) (hj : 26 ≤ j) : sh3 N p q a b (61 * p + j) = N (61 * p + j) := by
  unfold sh3 sh1
  split
  · rw [up_n (by omega), up_n (by omega), up_n (by omega)]
  · rw [up_n (by omega)]
theorem insE_n {N : Int → Int} {p q c n i j : Int} (hi : 0 ≤ i ∧ i < 6) (hj : 26 ≤ j) : insE N p q c n i (61 * p + j) = N (61 * p + j) := by
  unfold insE
  split
  · rw [up_n (by omega), up_n (by omega), up_n (by omega), up_n (by omega)]
  · rw [up_n (by omega), up_n (by omega)]
theorem insL_n {p q c n j : Int} (hn : n < 6) (hj : 26 ≤ j) (m : Nat) : ∀ (i : Int) (N : Int → Int), i = m → i ≤ n → insL p q c n m i N (61 * p + j) = N (61 * p + j) := by
  induction m with
  | zero => intro i N h1 h2; exact insE_n (by omega) hj
  | succ m ih =>
    intro i N h1 h2
    rw [insL]
    split
    · exact insE_n (by omega) hj
    · rw [ih _ _ (by omega) (by omega), sh3_n (by omega) hj]
theorem insF_n {N : Int → Int} {p q c j : Int} (hm : 0 ≤ N (61 * p + mq q) ∧ N (61 * p + mq q) ≤ 6) (hj : 26 ≤ j) : insF N p q c (61 * p + j) = N (61 * p + j) := by
  unfold insF
  split
  · rfl
  · rename_i h
    have : ¬ N (61 * p + mq q) = 6 := fun e => h (Or.inl e)
    exact insL_n (by omega) hj _ _ _ (by omega) (by omega)
theorem remL_n {p q j : Int} (hj : 26 ≤ j) (m : Nat) : ∀ (i : Int) (N : Int → Int), 1 ≤ i → i + m ≤ 6 → remL p q m i N (61 * p + j) = N (61 * p + j) := by
  induction m with
  | zero => intro i N h1 h2; rfl
  | succ m ih => intro i N h1 h2; rw [remL, ih _ _ (by omega) (by omega), sh3_n (by omega) hj]
theorem remF_n {N : Int → Int} {p q c j : Int} (hq : q = 0 ∨ q = 1) (hm : 0 ≤ N (61 * p + mq q) ∧ N (61 * p + mq q) ≤ 6) (hj : 26 ≤ j) : remF N p q c (61 * p + j) = N (61 * p + j) := by
  have hpl := plc_r (N := N) (p := p) (q := q) (c := c) hm.1
  have := mq_r hq
  unfold remF
  split
  · rfl
  · rw [up_n (by omega), remL_n hj _ _ _ (by omega) (by omega)]
noncomputable def tkI (pa T : Int → Int) (np p q most : Int) : Nat → Int → Int → (Int → Int) → (Int → Int)
  | 0, _, _, N => N
  | m + 1, i, n, N => if most ≤ n ∨ 6 ≤ N (61 * p + mq q) then N else @ite _ (Tkn N pa np (pa (4 * p + q)) (T i / 10)) (Classical.propDecidable _) (tkI pa T np p q most m (i + 1) n N) (tkI pa T np p q most m (i + 1) (n + 1) (encF (insF N p q (T i)) p (T i)))
noncomputable def mvI (pa T N : Int → Int) (np nd : Int) : Nat → Int → Int
  | 0, i => i
  | m + 1, i => @ite _ (Tkn N pa np nd (T i / 10)) (Classical.propDecidable _) (mvI pa T N np nd m (i + 1)) i
noncomputable def mvF (pa T N : Int → Int) (np p tm : Int) : Int → Int := if mvI pa T N np (pa (4 * p + 1)) (tm - 1).toNat 1 < tm ∧ ¬ plc N p 1 (T 0) = -1 then encF (encF (insF (remF N p 1 (T 0)) p 1 (T (mvI pa T N np (pa (4 * p + 1)) (tm - 1).toNat 1))) p (T 0)) p (T (mvI pa T N np (pa (4 * p + 1)) (tm - 1).toNat 1)) else N
def dlQ (p : Int) (T : Int → Int) : Nat → Int → (Int → Int) → (Int → Int)
  | 0, _, N => N
  | m + 1, i, N => if plc N p 1 (T i) = -1 then dlQ p T m (i + 1) N else dlQ p T m (i + 1) (encF (remF N p 1 (T i)) p (T i))
def insA (p q : Int) (T : Int → Int) : Nat → Int → (Int → Int) → (Int → Int)
  | 0, _, N => N
  | m + 1, i, N => insA p q T m (i + 1) (insF N p q (T i))
def remA (p q : Int) (T : Int → Int) : Nat → Int → (Int → Int) → (Int → Int)
  | 0, _, N => N
  | m + 1, i, N => remA p q T m (i + 1) (remF N p q (T i))
section R8
variable {d : Nat} {iv lw : aF} {F N G O T S : Int → Int} {R : aPost}
theorem tkI_e {pa : Int → Int} {np p q most i n : Int} {m : Nat} (h : most ≤ n ∨ 6 ≤ N (61 * p + mq q)) : tkI pa T np p q most (m + 1) i n N = N := by rw [tkI, if_pos h]
theorem tkI_t {pa : Int → Int} {np p q most i n : Int} {m : Nat} (h : ¬ (most ≤ n ∨ 6 ≤ N (61 * p + mq q))) (h2 : Tkn N pa np (pa (4 * p + q)) (T i / 10)) : tkI pa T np p q most (m + 1) i n N = tkI pa T np p q most m (i + 1) n N := by rw [tkI, if_neg h, if_pos h2]
theorem tkI_f {pa : Int → Int} {np p q most i n : Int} {m : Nat} (h : ¬ (most ≤ n ∨ 6 ≤ N (61 * p + mq q))) (h2 : ¬ Tkn N pa np (pa (4 * p + q)) (T i / 10)) : tkI pa T np p q most (m + 1) i n N = tkI pa T np p q most m (i + 1) (n + 1) (encF (insF N p q (T i)) p (T i)) := by rw [tkI, if_neg h, if_neg h2]
theorem l_takeIn {p q most : Int} (hp : 0 ≤ p ∧ p < 6) (hq : q = 0 ∨ q = 1) (hP : Prm iv F) (hT : ∀ j : Int, 0 ≤ j → j < F 22 → Vc (iv 5 0) (iv 5 1) (T j)) (ht : F 22 ≤ 4) (m : Nat) : ∀ (i n : Int) (N : Int → Int), 0 ≤ i → 0 ≤ n → n ≤ i → i + m = F 22 → Bok (iv 5 0) (iv 5 1) N → N (61 * p + 48) + m ≤ 4 → R none SHR (ST iv F (tkI (iv 6) T (F 13) p q most m i n N) G O T S) lw RVR → wp (d + 4) mX12_takeIn 6 [some (aR 0), some (aI p), some (aI q), some (aI most), some (aI n), some (aI i)] [] SHR (ST iv F N G O T S) lw RVR 0 0 R := by
  obtain ⟨hW1, hW2, hO1, hO2, hT1, hT2, hI1, hI2, hF1, hF2⟩ := id hP
  induction m with
  | zero =>
    intro i n N h1 h2 h3 h4 hB h5 k
    refine wp_iload dX12_takeIn_6 rfl ?_
    refine wp_aload_n dX12_takeIn_8 rfl ?_
    refine wp_getI dX12_takeIn_9 fX12_218 rfl ?_
    try simp only [ST0, ST5, ST6, ST7, ST8, ST10, ST11, ST12, ST13]
    refine wp_icmp_ge (tgt := 89) dX12_takeIn_12 rfl (fun h12 => ?_) (fun h12 => by exfalso; omega)
    refine wp_return dX12_takeIn_89 rfl ?_
    exact k
  | succ m ih =>
    intro i n N h1 h2 h3 h4 hB h5 k
    have hm := hB.mny hp hq
    have h48 := hB.v48 hp
    have hti := hT i h1 (by omega)
    have hti0 := hti.1
    have hB1 := hB.binsF hp hq hti
    have h481 : insF N p q (T i) (61 * p + 48) = N (61 * p + 48) := insF_n hm (by decide)
    refine wp_iload dX12_takeIn_6 rfl ?_
    refine wp_aload_n dX12_takeIn_8 rfl ?_
    refine wp_getI dX12_takeIn_9 fX12_218 rfl ?_
    try simp only [ST0, ST5, ST6, ST7, ST8, ST10, ST11, ST12, ST13]
    refine wp_icmp_ge (tgt := 89) dX12_takeIn_12 rfl (fun h12 => by exfalso; omega) (fun h12 => ?_)
    refine wp_iload dX12_takeIn_15 rfl ?_
    refine wp_iload_n dX12_takeIn_17 rfl ?_
    refine wp_icmp_ge (tgt := 89) dX12_takeIn_18 rfl (fun h18 => ?_) (fun h18 => ?_)
    · refine wp_return dX12_takeIn_89 rfl ?_
      first | (rw [tkI_e (Or.inl h18)] at k; exact k) | (rw [tkI_e (Or.inr h29)] at k; exact k)
    · refine wp_aload_n dX12_takeIn_21 rfl ?_
      refine wp_iload_n dX12_takeIn_22 rfl ?_
      refine wp_iload_n dX12_takeIn_23 rfl ?_
      refine wp_callV (as := [_, _]) (ls0 := [_, _, _]) (kc := 0) (ks := 0) (bc' := 0) (bs' := 0) dX12_takeIn_24 vX12_164 rfl rfl rfl (Nat.le_of_ble_eq_true rfl) (Nat.le_of_ble_eq_true rfl) (by omega) (by omega) ?_
      refine s_manyOf (by omega) (by omega) ?_
      refine wp_bipush dX12_takeIn_27 ?_
      refine wp_icmp_ge (tgt := 89) dX12_takeIn_29 rfl (fun h29 => ?_) (fun h29 => ?_)
      · refine wp_return dX12_takeIn_89 rfl ?_
        first | (rw [tkI_e (Or.inl h18)] at k; exact k) | (rw [tkI_e (Or.inr h29)] at k; exact k)
      · refine wp_aload_n dX12_takeIn_32 rfl ?_
        refine wp_aload_n dX12_takeIn_33 rfl ?_
        refine wp_iload_n dX12_takeIn_34 rfl ?_
        refine wp_iload_n dX12_takeIn_35 rfl ?_
        refine wp_callV (as := [_, _]) (ls0 := [_, _, _]) (kc := 0) (ks := 0) (bc' := 0) (bs' := 0) dX12_takeIn_36 vX12_178 rfl rfl rfl (Nat.le_of_ble_eq_true rfl) (Nat.le_of_ble_eq_true rfl) (by omega) (by omega) ?_
        refine s_nodeOf (by omega) (by omega) ?_
        refine wp_aload_n dX12_takeIn_39 rfl ?_
        refine wp_getR rfl dX12_takeIn_40 fX12_47 rfl ?_
        refine wp_iload dX12_takeIn_43 rfl ?_
        refine wp_iald dX12_takeIn_45 rfl (by omega) (by omega) ?_
        try simp only [ST0, ST5, ST6, ST7, ST8, ST10, ST11, ST12, ST13]
        refine wp_bipush dX12_takeIn_46 ?_
        refine wp_idiv dX12_takeIn_48 (by omega) (by omega) ?_
        refine wp_callV (as := [_, _]) (ls0 := [_, _, _, _, _, _, _]) (kc := 0) (ks := 0) (bc' := 0) (bs' := 0) dX12_takeIn_49 vX12_181 rfl rfl rfl (Nat.le_of_ble_eq_true rfl) (Nat.le_of_ble_eq_true rfl) (by omega) (by omega) ?_
        refine s_isTaken (hB.tk hF2) ⟨hF1, hF2⟩ (fun h49 => ?_) (fun h49 => ?_)
        · refine wp_if_ne (tgt := 83) dX12_takeIn_52 rfl (fun _ => ?_) (fun q => absurd q (by decide))
          refine wp_iinc (ls' := [_, _, _, _, _, _]) dX12_takeIn_83 (by decide) rfl rfl ⟨by omega, by omega⟩ rfl ?_
          refine wp_goto (tgt := 6) dX12_takeIn_86 rfl ?_
          first
        | exact ih _ _ _ (by omega) (by omega) (by omega) (by omega) hB (by omega) (by rw [tkI_t (by omega) h49] at k; exact k)
        | exact ih _ _ _ (by omega) (by omega) (by omega) (by omega) (hB1.bencF (by rw [h481]; omega) hti) (by rw [encF_48, h481]; omega) (by rw [tkI_f (by omega) h49] at k; exact k)
        · refine wp_if_ne (tgt := 83) dX12_takeIn_52 rfl (fun q => absurd q (by decide)) (fun _ => ?_)
          refine wp_aload_n dX12_takeIn_55 rfl ?_
          refine wp_iload_n dX12_takeIn_56 rfl ?_
          refine wp_iload_n dX12_takeIn_57 rfl ?_
          refine wp_aload_n dX12_takeIn_58 rfl ?_
          refine wp_getR rfl dX12_takeIn_59 fX12_47 rfl ?_
          refine wp_iload dX12_takeIn_62 rfl ?_
          refine wp_iald dX12_takeIn_64 rfl (by omega) (by omega) ?_
          try simp only [ST0, ST5, ST6, ST7, ST8, ST10, ST11, ST12, ST13]
          refine wp_callV (as := [_, _, _]) (ls0 := [_, _, _, _, _, _]) (kc := 0) (ks := 0) (bc' := 0) (bs' := 0) dX12_takeIn_65 vX12_228 rfl rfl rfl (Nat.le_of_ble_eq_true rfl) (Nat.le_of_ble_eq_true rfl) (by omega) (by omega) ?_
          refine s_insert (by omega) hq hm ?_
          refine wp_aload_n dX12_takeIn_68 rfl ?_
          refine wp_iload_n dX12_takeIn_69 rfl ?_
          refine wp_aload_n dX12_takeIn_70 rfl ?_
          refine wp_getR rfl dX12_takeIn_71 fX12_47 rfl ?_
          refine wp_iload dX12_takeIn_74 rfl ?_
          refine wp_iald dX12_takeIn_76 rfl (by omega) (by omega) ?_
          try simp only [ST0, ST5, ST6, ST7, ST8, ST10, ST11, ST12, ST13]
          refine wp_callV (as := [_, _]) (ls0 := [_, _, _]) (kc := 0) (ks := 0) (bc' := 0) (bs' := 0) dX12_takeIn_77 vX12_184 rfl rfl rfl (Nat.le_of_ble_eq_true rfl) (Nat.le_of_ble_eq_true rfl) (by omega) (by omega) ?_
          refine s_writeCell (by omega) (by rw [h481]; omega) ?_
          refine wp_iinc (ls' := [_, _, _, _, _, _]) dX12_takeIn_80 (by decide) rfl rfl ⟨by omega, by omega⟩ rfl ?_
          refine wp_iinc (ls' := [_, _, _, _, _, _]) dX12_takeIn_83 (by decide) rfl rfl ⟨by omega, by omega⟩ rfl ?_
          refine wp_goto (tgt := 6) dX12_takeIn_86 rfl ?_
          first
        | exact ih _ _ _ (by omega) (by omega) (by omega) (by omega) hB (by omega) (by rw [tkI_t (by omega) h49] at k; exact k)
        | exact ih _ _ _ (by omega) (by omega) (by omega) (by omega) (hB1.bencF (by rw [h481]; omega) hti) (by rw [encF_48, h481]; omega) (by rw [tkI_f (by omega) h49] at k; exact k)
theorem s_takeIn {p q most : Int} (hp : 0 ≤ p ∧ p < 6) (hq : q = 0 ∨ q = 1) (hP : Prm iv F) (hT : ∀ j : Int, 0 ≤ j → j < F 22 → Vc (iv 5 0) (iv 5 1) (T j)) (ht : 0 ≤ F 22 ∧ F 22 ≤ 4) (hB : Bok (iv 5 0) (iv 5 1) N) (h48 : N (61 * p + 48) = 0) (k : R none SHR (ST iv F (tkI (iv 6) T (F 13) p q most (F 22).toNat 0 0 N) G O T S) lw RVR) : wp (d + 4) mX12_takeIn 0 [some (aR 0), some (aI p), some (aI q), some (aI most), none, none] [] SHR (ST iv F N G O T S) lw RVR 0 0 R := by
  refine wp_iconst dX12_takeIn_0 ?_
  refine wp_istore (ls' := [_, _, _, _, _, _]) dX12_takeIn_1 (by decide) rfl rfl ?_
  refine wp_iconst dX12_takeIn_3 ?_
  refine wp_istore (ls' := [_, _, _, _, _, _]) dX12_takeIn_4 (by decide) rfl rfl ?_
  exact l_takeIn hp hq hP hT ht.2 (F 22).toNat 0 0 N (by omega) (by omega) (by omega) (by omega) hB (by omega) k
theorem mvI_t {pa : Int → Int} {np nd i : Int} {m : Nat} (h : Tkn N pa np nd (T i / 10)) : mvI pa T N np nd (m + 1) i = mvI pa T N np nd m (i + 1) := by rw [mvI, if_pos h]
theorem mvI_f {pa : Int → Int} {np nd i : Int} {m : Nat} (h : ¬ Tkn N pa np nd (T i / 10)) : mvI pa T N np nd (m + 1) i = i := by rw [mvI, if_neg h]
theorem mvI_r {pa : Int → Int} {np nd : Int} (m : Nat) : ∀ i : Int, i ≤ mvI pa T N np nd m i ∧ mvI pa T N np nd m i ≤ i + m := by
  induction m with
  | zero => intro i; rw [mvI]; omega
  | succ m ih =>
    intro i
    by_cases h : Tkn N pa np nd (T i / 10)
    · rw [mvI_t h]; have := ih (i + 1); omega
    · rw [mvI_f h]; omega
theorem l_readMove {p : Int} (hp : 0 ≤ p ∧ p < 6) (hP : Prm iv F) (hT : ∀ j : Int, 0 ≤ j → j < F 22 → Vc (iv 5 0) (iv 5 1) (T j)) (ht : F 22 ≤ 4) (hB : Bok (iv 5 0) (iv 5 1) N) (m : Nat) : ∀ (i : Int), 1 ≤ i → (i + m = F 22 ∨ (m = 0 ∧ F 22 ≤ i)) → (∀ j : Int, j = mvI (iv 6) T N (F 13) (iv 6 (4 * p + 1)) m i → wp (d + 4) mX12_readMove 38 [some (aR 0), some (aI p), some (aI j)] [] SHR (ST iv F N G O T S) lw RVR 0 0 R) → wp (d + 4) mX12_readMove 2 [some (aR 0), some (aI p), some (aI i)] [] SHR (ST iv F N G O T S) lw RVR 0 0 R := by
  obtain ⟨hW1, hW2, hO1, hO2, hT1, hT2, hI1, hI2, hF1, hF2⟩ := id hP
  induction m with
  | zero =>
    intro i h1 h2 k
    refine wp_iload_n dX12_readMove_2 rfl ?_
    refine wp_aload_n dX12_readMove_3 rfl ?_
    refine wp_getI dX12_readMove_4 fX12_218 rfl ?_
    try simp only [ST0, ST5, ST6, ST7, ST8, ST10, ST11, ST12, ST13]
    refine wp_icmp_ge (tgt := 38) dX12_readMove_7 rfl (fun h7 => ?_) (fun h7 => by exfalso; omega)
    exact k _ rfl
  | succ m ih =>
    intro i h1 h2 k
    have hti := (hT i (by omega) (by omega)).1
    refine wp_iload_n dX12_readMove_2 rfl ?_
    refine wp_aload_n dX12_readMove_3 rfl ?_
    refine wp_getI dX12_readMove_4 fX12_218 rfl ?_
    try simp only [ST0, ST5, ST6, ST7, ST8, ST10, ST11, ST12, ST13]
    refine wp_icmp_ge (tgt := 38) dX12_readMove_7 rfl (fun h7 => by exfalso; omega) (fun h7 => ?_)
    refine wp_aload_n dX12_readMove_10 rfl ?_
    refine wp_aload_n dX12_readMove_11 rfl ?_
    refine wp_iload_n dX12_readMove_12 rfl ?_
    refine wp_iconst dX12_readMove_13 ?_
    refine wp_callV (as := [_, _]) (ls0 := [_, _, _]) (kc := 0) (ks := 0) (bc' := 0) (bs' := 0) dX12_readMove_14 vX12_178 rfl rfl rfl (Nat.le_of_ble_eq_true rfl) (Nat.le_of_ble_eq_true rfl) (by omega) (by omega) ?_
    refine s_nodeOf (by omega) (by omega) ?_
    refine wp_aload_n dX12_readMove_17 rfl ?_
    refine wp_getR rfl dX12_readMove_18 fX12_47 rfl ?_
    refine wp_iload_n dX12_readMove_21 rfl ?_
    refine wp_iald dX12_readMove_22 rfl (by omega) (by omega) ?_
    try simp only [ST0, ST5, ST6, ST7, ST8, ST10, ST11, ST12, ST13]
    refine wp_bipush dX12_readMove_23 ?_
    refine wp_idiv dX12_readMove_25 (by omega) (by omega) ?_
    refine wp_callV (as := [_, _]) (ls0 := [_, _, _, _, _, _, _]) (kc := 0) (ks := 0) (bc' := 0) (bs' := 0) dX12_readMove_26 vX12_181 rfl rfl rfl (Nat.le_of_ble_eq_true rfl) (Nat.le_of_ble_eq_true rfl) (by omega) (by omega) ?_
    refine s_isTaken (hB.tk hF2) ⟨hF1, hF2⟩ (fun h26 => ?_) (fun h26 => ?_)
    · refine wp_if_eq (tgt := 38) dX12_readMove_29 rfl (fun q => absurd q (by decide)) (fun _ => ?_)
      refine wp_iinc (ls' := [_, _, _]) dX12_readMove_32 (by decide) rfl rfl ⟨by omega, by omega⟩ rfl ?_
      refine wp_goto (tgt := 2) dX12_readMove_35 rfl ?_
      exact ih _ (by omega) (by omega) (by rw [mvI_t h26] at k; exact k)
    · refine wp_if_eq (tgt := 38) dX12_readMove_29 rfl (fun _ => ?_) (fun q => absurd q (by decide))
      exact k _ (by rw [mvI_f h26])
theorem s_readMove {p : Int} (hp : 0 ≤ p ∧ p < 6) (hP : Prm iv F) (hT : ∀ j : Int, 0 ≤ j → j < F 22 → Vc (iv 5 0) (iv 5 1) (T j)) (ht : 0 ≤ F 22 ∧ F 22 ≤ 4) (hB : Bok (iv 5 0) (iv 5 1) N) (h48 : N (61 * p + 48) = 0) (k : R none SHR (ST iv F (mvF (iv 6) T N (F 13) p (F 22)) G O T S) lw RVR) : wp (d + 4) mX12_readMove 0 [some (aR 0), some (aI p), none] [] SHR (ST iv F N G O T S) lw RVR 0 0 R := by
  obtain ⟨hW1, hW2, hO1, hO2, hT1, hT2, hI1, hI2, hF1, hF2⟩ := id hP
  have hm := hB.mny hp (q := 1) (Or.inr rfl)
  have hr := mvI_r (pa := iv 6) (T := T) (N := N) (np := F 13) (nd := iv 6 (4 * p + 1)) (F 22 - 1).toNat 1
  refine wp_iconst dX12_readMove_0 ?_
  refine wp_istore_n (ls' := [_, _, _]) dX12_readMove_1 (by decide) rfl rfl ?_
  refine l_readMove hp hP hT ht.2 hB (F 22 - 1).toNat 1 (by omega) (by omega) (fun j hj => ?_)
  refine wp_aload_n dX12_readMove_38 rfl ?_
  refine wp_iload_n dX12_readMove_39 rfl ?_
  refine wp_iconst dX12_readMove_40 ?_
  refine wp_aload_n dX12_readMove_41 rfl ?_
  refine wp_getR rfl dX12_readMove_42 fX12_47 rfl ?_
  refine wp_iconst dX12_readMove_45 ?_
  refine wp_iald dX12_readMove_46 rfl (by omega) (by omega) ?_
  try simp only [ST0, ST5, ST6, ST7, ST8, ST10, ST11, ST12, ST13]
  refine wp_callV (as := [_, _, _]) (ls0 := [_, _, _, _, _]) (kc := 0) (ks := 0) (bc' := 0) (bs' := 0) dX12_readMove_47 vX12_171 rfl rfl rfl (Nat.le_of_ble_eq_true rfl) (Nat.le_of_ble_eq_true rfl) (by omega) (by omega) ?_
  refine s_placeIn (by omega) (by omega) (by omega) ?_
  refine wp_iconst dX12_readMove_50 ?_
  refine wp_icmp_eq (tgt := 108) dX12_readMove_51 rfl (fun h51 => ?_) (fun h51 => ?_)
  · refine wp_return dX12_readMove_108 rfl ?_
    subst hj; unfold mvF at k; first | (rw [if_pos (by omega)] at k; exact k) | (rw [if_neg (by omega)] at k; exact k)
  · refine wp_iload_n dX12_readMove_54 rfl ?_
    refine wp_aload_n dX12_readMove_55 rfl ?_
    refine wp_getI dX12_readMove_56 fX12_218 rfl ?_
    try simp only [ST0, ST5, ST6, ST7, ST8, ST10, ST11, ST12, ST13]
    refine wp_icmp_ge (tgt := 108) dX12_readMove_59 rfl (fun h59 => ?_) (fun h59 => ?_)
    · refine wp_return dX12_readMove_108 rfl ?_
      subst hj; unfold mvF at k; first | (rw [if_pos (by omega)] at k; exact k) | (rw [if_neg (by omega)] at k; exact k)
    · refine wp_aload_n dX12_readMove_62 rfl ?_
      refine wp_iload_n dX12_readMove_63 rfl ?_
      refine wp_iconst dX12_readMove_64 ?_
      refine wp_aload_n dX12_readMove_65 rfl ?_
      refine wp_getR rfl dX12_readMove_66 fX12_47 rfl ?_
      refine wp_iconst dX12_readMove_69 ?_
      refine wp_iald dX12_readMove_70 rfl (by omega) (by omega) ?_
      try simp only [ST0, ST5, ST6, ST7, ST8, ST10, ST11, ST12, ST13]
      refine wp_callV (as := [_, _, _]) (ls0 := [_, _, _, _, _, _]) (kc := 0) (ks := 0) (bc' := 0) (bs' := 0) dX12_readMove_71 vX12_231 rfl rfl rfl (Nat.le_of_ble_eq_true rfl) (Nat.le_of_ble_eq_true rfl) (by omega) (by omega) ?_
      refine s_remove (by omega) (by omega) hm ?_
      have hB1 := hB.bremF (q := 1) (c := T 0) hp (Or.inr rfl)
      have e1 : remF N p 1 (T 0) (61 * p + 48) = N (61 * p + 48) := remF_n (Or.inr rfl) hm (by decide)
      have hm1 := hB1.mny hp (q := 1) (Or.inr rfl)
      have e2 : insF (remF N p 1 (T 0)) p 1 (T j) (61 * p + 48) = N (61 * p + 48) := by rw [insF_n hm1 (by decide), e1]
      refine wp_aload_n dX12_readMove_74 rfl ?_
      refine wp_iload_n dX12_readMove_75 rfl ?_
      refine wp_iconst dX12_readMove_76 ?_
      refine wp_aload_n dX12_readMove_77 rfl ?_
      refine wp_getR rfl dX12_readMove_78 fX12_47 rfl ?_
      refine wp_iload_n dX12_readMove_81 rfl ?_
      refine wp_iald dX12_readMove_82 rfl (by omega) (by omega) ?_
      try simp only [ST0, ST5, ST6, ST7, ST8, ST10, ST11, ST12, ST13]
      refine wp_callV (as := [_, _, _]) (ls0 := [_, _, _, _, _, _]) (kc := 0) (ks := 0) (bc' := 0) (bs' := 0) dX12_readMove_83 vX12_228 rfl rfl rfl (Nat.le_of_ble_eq_true rfl) (Nat.le_of_ble_eq_true rfl) (by omega) (by omega) ?_
      refine s_insert (by omega) (by omega) hm1 ?_
      refine wp_aload_n dX12_readMove_86 rfl ?_
      refine wp_iload_n dX12_readMove_87 rfl ?_
      refine wp_aload_n dX12_readMove_88 rfl ?_
      refine wp_getR rfl dX12_readMove_89 fX12_47 rfl ?_
      refine wp_iconst dX12_readMove_92 ?_
      refine wp_iald dX12_readMove_93 rfl (by omega) (by omega) ?_
      try simp only [ST0, ST5, ST6, ST7, ST8, ST10, ST11, ST12, ST13]
      refine wp_callV (as := [_, _]) (ls0 := [_, _, _]) (kc := 0) (ks := 0) (bc' := 0) (bs' := 0) dX12_readMove_94 vX12_184 rfl rfl rfl (Nat.le_of_ble_eq_true rfl) (Nat.le_of_ble_eq_true rfl) (by omega) (by omega) ?_
      refine s_writeCell (by omega) (by rw [e2]; omega) ?_
      refine wp_aload_n dX12_readMove_97 rfl ?_
      refine wp_iload_n dX12_readMove_98 rfl ?_
      refine wp_aload_n dX12_readMove_99 rfl ?_
      refine wp_getR rfl dX12_readMove_100 fX12_47 rfl ?_
      refine wp_iload_n dX12_readMove_103 rfl ?_
      refine wp_iald dX12_readMove_104 rfl (by omega) (by omega) ?_
      try simp only [ST0, ST5, ST6, ST7, ST8, ST10, ST11, ST12, ST13]
      refine wp_callV (as := [_, _]) (ls0 := [_, _, _]) (kc := 0) (ks := 0) (bc' := 0) (bs' := 0) dX12_readMove_105 vX12_184 rfl rfl rfl (Nat.le_of_ble_eq_true rfl) (Nat.le_of_ble_eq_true rfl) (by omega) (by omega) ?_
      refine s_writeCell (by omega) (by rw [encF_48, e2]; omega) ?_
      refine wp_return dX12_readMove_108 rfl ?_
      subst hj; unfold mvF at k; first | (rw [if_pos (by omega)] at k; exact k) | (rw [if_neg (by omega)] at k; exact k)
end R8
